/-! THE TEXT: holders, the whole market -/
theorem hSt_p {tx : Nat → Nat} {len b : Nat} : ∀ i, b + i ≤ (hSt tx len b i).1 ∧ (hSt tx len b i).1 ≤ b + 2 * i
  | 0 => ⟨Nat.le_refl _, Nat.le_refl _⟩
  | i + 1 => by
    obtain ⟨h1, h2⟩ := hSt_p (tx := tx) (len := len) (b := b) i
    show b + (i + 1) ≤ (if xAt tx len ((hSt tx len b i).1 + 1) = nI 33 then (hSt tx len b i).1 + 2 else (hSt tx len b i).1 + 1) ∧ (if xAt tx len ((hSt tx len b i).1 + 1) = nI 33 then (hSt tx len b i).1 + 2 else (hSt tx len b i).1 + 1) ≤ b + 2 * (i + 1)
    split <;> omega
theorem xAt_33 {tx : Nat → Nat} {len p : Nat} (h : xAt tx len p = nI 33) : p < len := by
  rcases Nat.lt_or_ge p len with h1 | h1
  · exact h1
  · unfold xAt at h
    rw [if_neg (by omega)] at h
    exact absurd h (by decide)
theorem hSt_w {tx : Nat → Nat} {len b n : Nat} (hb : b ≤ len) (h7 : n ≤ 7) : ∀ i, (∀ j, j < i → hOk tx len b n j = true) → i ≤ n →
    (hSt tx len b i).1 ≤ len ∧ (hSt tx len b i).2.1 < 128 ∧ (hSt tx len b i).2.2.1 < 2 ^ i ∧ (∀ k, k < i → (hSt tx len b i).2.2.2 k < n ∧ (hSt tx len b i).2.1.testBit ((hSt tx len b i).2.2.2 k) = true) ∧ (∀ k, i ≤ k → (hSt tx len b i).2.2.2 k = k) ∧ ∀ k j, k < i → j < i → (hSt tx len b i).2.2.2 k = (hSt tx len b i).2.2.2 j → k = j
  | 0, _, _ => ⟨hb, (by show (0 : Nat) < 128; decide), (by show (0 : Nat) < 2 ^ 0; decide), fun k hk => absurd hk (Nat.not_lt_zero _), fun k _ => rfl, fun k j hk => absurd hk (Nat.not_lt_zero _)⟩
  | i + 1, h, hi => by
    obtain ⟨h1, h2, h3, h4, h5, h6⟩ := hSt_w hb h7 i (fun j hj => h j (by omega)) (by omega)
    have ho := h i (by omega)
    unfold hOk at ho
    rw [Bool.and_eq_true] at ho
    obtain ⟨d1, d2, d3⟩ := okD_h ho.1
    have d4 : (hSt tx len b i).2.1.testBit (tx (hSt tx len b i).1 - 48) = false := by simpa using ho.2
    have dt : tx (hSt tx len b i).1 - 48 < n := by omega
    have e1 : (hSt tx len b (i + 1)).1 = if xAt tx len ((hSt tx len b i).1 + 1) = nI 33 then (hSt tx len b i).1 + 2 else (hSt tx len b i).1 + 1 := rfl
    have e2 : (hSt tx len b (i + 1)).2.1 = (hSt tx len b i).2.1 ||| 2 ^ (tx (hSt tx len b i).1 - 48) := rfl
    have e3 : (hSt tx len b (i + 1)).2.2.1 = if xAt tx len ((hSt tx len b i).1 + 1) = nI 33 then (hSt tx len b i).2.2.1 ||| 2 ^ i else (hSt tx len b i).2.2.1 := rfl
    have e4 : ∀ k, (hSt tx len b (i + 1)).2.2.2 k = if k = i then tx (hSt tx len b i).1 - 48 else (hSt tx len b i).2.2.2 k := fun k => rfl
    refine ⟨?_, ?_, ?_, fun k hk => ?_, fun k hk => ?_, fun k j hk hj e => ?_⟩
    · rw [e1]
      split
      · have := xAt_33 ‹_›
        omega
      · omega
    · rw [e2]
      exact Nat.or_lt_two_pow (n := 7) h2 (Nat.pow_lt_pow_right (by omega) (by omega))
    · rw [e3]
      split
      · exact Nat.or_lt_two_pow (Nat.lt_of_lt_of_le h3 (Nat.pow_le_pow_right (by omega) (by omega))) (Nat.pow_lt_pow_right (by omega) (by omega))
      · exact Nat.lt_of_lt_of_le h3 (Nat.pow_le_pow_right (by omega) (by omega))
    · rw [e4, e2]
      by_cases e : k = i
      · rw [if_pos e]
        exact ⟨dt, by rw [Nat.testBit_or, Nat.testBit_two_pow_self, Bool.or_true]⟩
      · rw [if_neg e]
        obtain ⟨g1, g2⟩ := h4 k (by omega)
        exact ⟨g1, by rw [Nat.testBit_or, g2]; rfl⟩
    · rw [e4, if_neg (by omega)]
      exact h5 k (by omega)
    · rw [e4, e4] at e
      by_cases a1 : k = i
      · by_cases a2 : j = i
        · omega
        · rw [if_pos a1, if_neg a2] at e
          have := (h4 j (by omega)).2
          rw [← e, d4] at this
          cases this
      · rw [if_neg a1] at e
        by_cases a2 : j = i
        · rw [if_pos a2] at e
          have := (h4 k (by omega)).2
          rw [e, d4] at this
          cases this
        · rw [if_neg a2] at e
          exact h6 k j (by omega) (by omega) e
section TF
variable {sc : Nat × (Nat → Int32)} {s : zv_S} {tx : Nat → Nat} {len : Nat}
theorem k_snd0 {o : Nat} (ho : isM o = true) {l i : Nat} (hl : s.1 o 1 = nI l) (hi : i < 7) : RV sc 133 [.ref o, .int (nI i)] s (sI s o 1 (nI (l ||| 2 ^ i))) := by
  refine cc_of ml_133 rfl rfl ?_
  refine v_al0 c_133_0 ?_
  refine v_dupr c_133_1 ?_
  refine v_gI c_133_2 (kM_f1 ho) (hl) ?_
  refine v_il1 c_133_3 ?_
  refine v_cSi c_133_4 rfl rfl rfl (k_bit (by omega)) ?_
  refine v_iorN c_133_5 ?_
  refine v_pI c_133_6 (kM_f1 ho) ?_
  exact v_rv c_133_7 ⟨rfl, rfl⟩
theorem TXT.fr {h g k : Nat} {t : zv_S} {lo hi : Nat} (hT : TXT s h g k tx len) (hf : FR lo hi s t) (h1 : h < lo ∨ hi ≤ h) (h2 : g < lo ∨ hi ≤ g) : TXT t h g k tx len := by
  unfold TXT
  rw [hf.at h1, hf.at h2]
  exact hT
end TF
