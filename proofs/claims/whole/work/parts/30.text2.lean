/-! THE TEXT: holders, the whole market -/
theorem hSt_p {tx : Nat → Nat} {len b : Nat} : ∀ i, b + i ≤ (hSt tx len b i).1 ∧ (hSt tx len b i).1 ≤ b + 2 * i
  | 0 => ⟨Nat.le_refl _, Nat.le_refl _⟩
  | i + 1 => by
    obtain ⟨h1, h2⟩ := hSt_p (tx := tx) (len := len) (b := b) i
    show b + (i + 1) ≤ (if xAt tx len ((hSt tx len b i).1 + 1) = nI 33 then (hSt tx len b i).1 + 2 else (hSt tx len b i).1 + 1) ∧ (if xAt tx len ((hSt tx len b i).1 + 1) = nI 33 then (hSt tx len b i).1 + 2 else (hSt tx len b i).1 + 1) ≤ b + 2 * (i + 1)
    split <;> omega
theorem xAt_33 {tx : Nat → Nat} {len p : Nat} (h : xAt tx len p = nI 33) : p < len := by
  rcases Nat.lt_or_ge p len with h1 | h1
  · exact h1
  · unfold xAt at h
    rw [if_neg (by omega)] at h
    exact absurd h (by decide)
theorem hSt_w {tx : Nat → Nat} {len b n : Nat} (hb : b ≤ len) (h7 : n ≤ 7) : ∀ i, (∀ j, j < i → hOk tx len b n j = true) → i ≤ n →
    (hSt tx len b i).1 ≤ len ∧ (hSt tx len b i).2.1 < 128 ∧ (hSt tx len b i).2.2.1 < 2 ^ i ∧ (∀ k, k < i → (hSt tx len b i).2.2.2 k < n ∧ (hSt tx len b i).2.1.testBit ((hSt tx len b i).2.2.2 k) = true) ∧ (∀ k, i ≤ k → (hSt tx len b i).2.2.2 k = k) ∧ ∀ k j, k < i → j < i → (hSt tx len b i).2.2.2 k = (hSt tx len b i).2.2.2 j → k = j
  | 0, _, _ => ⟨hb, (by show (0 : Nat) < 128; decide), (by show (0 : Nat) < 2 ^ 0; decide), fun k hk => absurd hk (Nat.not_lt_zero _), fun k _ => rfl, fun k j hk => absurd hk (Nat.not_lt_zero _)⟩
  | i + 1, h, hi => by
    obtain ⟨h1, h2, h3, h4, h5, h6⟩ := hSt_w hb h7 i (fun j hj => h j (by omega)) (by omega)
    have ho := h i (by omega)
    unfold hOk at ho
    rw [Bool.and_eq_true] at ho
    obtain ⟨d1, d2, d3⟩ := okD_h ho.1
    have d4 : (hSt tx len b i).2.1.testBit (tx (hSt tx len b i).1 - 48) = false := by simpa using ho.2
    have dt : tx (hSt tx len b i).1 - 48 < n := by omega
    have e1 : (hSt tx len b (i + 1)).1 = if xAt tx len ((hSt tx len b i).1 + 1) = nI 33 then (hSt tx len b i).1 + 2 else (hSt tx len b i).1 + 1 := rfl
    have e2 : (hSt tx len b (i + 1)).2.1 = (hSt tx len b i).2.1 ||| 2 ^ (tx (hSt tx len b i).1 - 48) := rfl
    have e3 : (hSt tx len b (i + 1)).2.2.1 = if xAt tx len ((hSt tx len b i).1 + 1) = nI 33 then (hSt tx len b i).2.2.1 ||| 2 ^ i else (hSt tx len b i).2.2.1 := rfl
    have e4 : ∀ k, (hSt tx len b (i + 1)).2.2.2 k = if k = i then tx (hSt tx len b i).1 - 48 else (hSt tx len b i).2.2.2 k := fun k => rfl
    refine ⟨?_, ?_, ?_, fun k hk => ?_, fun k hk => ?_, fun k j hk hj e => ?_⟩
    · rw [e1]
      split
      · have := xAt_33 ‹_›
        omega
      · omega
    · rw [e2]
      exact Nat.or_lt_two_pow (n := 7) h2 (Nat.pow_lt_pow_right (by omega) (by omega))
    · rw [e3]
      split
      · exact Nat.or_lt_two_pow (Nat.lt_of_lt_of_le h3 (Nat.pow_le_pow_right (by omega) (by omega))) (Nat.pow_lt_pow_right (by omega) (by omega))
      · exact Nat.lt_of_lt_of_le h3 (Nat.pow_le_pow_right (by omega) (by omega))
    · rw [e4, e2]
      by_cases e : k = i
      · rw [if_pos e]
        exact ⟨dt, by rw [Nat.testBit_or, Nat.testBit_two_pow_self, Bool.or_true]⟩
      · rw [if_neg e]
        obtain ⟨g1, g2⟩ := h4 k (by omega)
        exact ⟨g1, by rw [Nat.testBit_or, g2]; rfl⟩
    · rw [e4, if_neg (by omega)]
      exact h5 k (by omega)
    · rw [e4, e4] at e
      by_cases a1 : k = i
      · by_cases a2 : j = i
        · omega
        · rw [if_pos a1, if_neg a2] at e
          have := (h4 j (by omega)).2
          rw [← e, d4] at this
          cases this
      · rw [if_neg a1] at e
        by_cases a2 : j = i
        · rw [if_pos a2] at e
          have := (h4 k (by omega)).2
          rw [e, d4] at this
          cases this
        · rw [if_neg a2] at e
          exact h6 k j (by omega) (by omega) e
section TF
variable {sc : Nat × (Nat → Int32)} {s : zv_S} {tx : Nat → Nat} {len : Nat}
theorem k_snd0 {o : Nat} (ho : isM o = true) {l i : Nat} (hl : s.1 o 1 = nI l) (hi : i < 7) : RV sc 133 [.ref o, .int (nI i)] s (sI s o 1 (nI (l ||| 2 ^ i))) := by
  refine cc_of ml_133 rfl rfl ?_
  refine v_al0 c_133_0 ?_
  refine v_dupr c_133_1 ?_
  refine v_gI c_133_2 (kM_f1 ho) (hl) ?_
  refine v_il1 c_133_3 ?_
  refine v_cSi c_133_4 rfl rfl rfl (k_bit (by omega)) ?_
  refine v_iorN c_133_5 ?_
  refine v_pI c_133_6 (kM_f1 ho) ?_
  exact v_rv c_133_7 ⟨rfl, rfl⟩
theorem TXT.fr {h g k : Nat} {t : zv_S} {lo hi : Nat} (hT : TXT s h g k tx len) (hf : FR lo hi s t) (h1 : h < lo ∨ hi ≤ h) (h2 : g < lo ∨ hi ≤ g) : TXT t h g k tx len := by
  unfold TXT
  rw [hf.at h1, hf.at h2]
  exact hT
theorem t_hld {o : Nat} (ho : isM o = true) (h3o : 3 ≤ o) (hT : TXT s 2 1 1 tx len) {n b : Nat} (hn : s.1 o 0 = nI n) (h7 : n ≤ 7) (hb : b ≤ len) (h1 : s.1 o 1 = nI 0) (hid : ∀ i, i < n → s.1 (o + 2) i = nI i) :
    CC sc 173 [.ref 1, .ref o, .int (nI b)] s (QI fun x t => FR o (o + 3) s t ∧ t.1 (o + 1) = s.1 (o + 1) ∧ t.1 o 0 = nI n ∧ ((lf (hOk tx len b n) n = n ∧ (x = if (hSt tx len b n).1 < len then nI (hSt tx len b n).1 else (-9)) ∧ t.1 o 1 = nI (hSt tx len b n).2.2.1 ∧ ∀ i, i < n → t.1 (o + 2) i = nI ((hSt tx len b n).2.2.2 i)) ∨ (lf (hOk tx len b n) n ≠ n ∧ x = nI (hSt tx len b (lf (hOk tx len b n) n)).1))) := by
  refine cc_of ml_173 rfl rfl ?_
  have hlen := hT.2.1
  refine v_il2 c_173_0 ?_
  refine v_is3 c_173_1 rfl ?_
  refine v_icN (n := 0) c_173_2 rfl ?_
  refine v_is4 c_173_3 rfl ?_
  refine v_icN (n := 0) c_173_4 rfl ?_
  refine v_is5 c_173_5 rfl ?_
  refine vv_forS n (fun i ls t => (∃ y, ls = [some (.ref 1), some (.ref o), some (.int (nI b)), some (.int (nI (hSt tx len b i).1)), some (.int (nI (hSt tx len b i).2.1)), some (.int (nI i)), y]) ∧ (∀ j, j < i → hOk tx len b n j = true) ∧ t.1 o 0 = nI n ∧ t.1 o 1 = nI (hSt tx len b i).2.2.1 ∧ t.1 (o + 1) = s.1 (o + 1) ∧ (∀ k, k < n → t.1 (o + 2) k = nI ((hSt tx len b i).2.2.2 k)) ∧ FR o (o + 3) s t) ?_ ?_ _ _ ⟨⟨none, rfl⟩, fun j hj => absurd hj (by omega), hn, h1, rfl, hid, FR.rf⟩
  · rintro i ls t hi ⟨⟨y, rfl⟩, g1, g2, g3, g4, g5, g6⟩ hk
    obtain ⟨w1, w2, w3, w4, w5, w6⟩ := hSt_w hb h7 i g1 (by omega)
    obtain ⟨-, w7⟩ := hSt_p (tx := tx) (len := len) (b := b) i
    have hT' := hT.fr g6 (by omega) (by omega)
    refine v_il5 c_173_6 ?_
    refine v_al1 c_173_7 ?_
    refine v_gI c_173_8 (kM_f0 ho) (g2) ?_
    refine v_icmp_ge_F c_173_9 (by omega) (by omega) (by omega) ?_
    refine v_al0 c_173_10 ?_
    refine v_il3 c_173_11 ?_
    refine v_icN (n := 0) c_173_12 rfl ?_
    refine v_al1 c_173_13 ?_
    refine v_gI c_173_14 (kM_f0 ho) (g2) ?_
    refine v_icN (n := 1) c_173_15 rfl ?_
    refine v_isubN c_173_16 (by omega) ?_
    refine v_cVi c_173_17 rfl (by decide) rfl rfl (t_dig hT' (by omega) (by omega) (by omega)) ?_
    refine v_is6 c_173_18 rfl ?_
    have bad : hOk tx len b n i = false → VV sc 173 26 [some (.ref 1), some (.ref o), some (.int (nI b)), some (.int (nI (hSt tx len b i).1)), some (.int (nI (hSt tx len b i).2.1)), some (.int (nI i)), some (.int (if okD tx len 0 (n - 1) (hSt tx len b i).1 then nI (tx (hSt tx len b i).1 - 48) else (-9)))] [] t (QI fun x t => FR o (o + 3) s t ∧ t.1 (o + 1) = s.1 (o + 1) ∧ t.1 o 0 = nI n ∧ ((lf (hOk tx len b n) n = n ∧ (x = if (hSt tx len b n).1 < len then nI (hSt tx len b n).1 else (-9)) ∧ t.1 o 1 = nI (hSt tx len b n).2.2.1 ∧ ∀ i, i < n → t.1 (o + 2) i = nI ((hSt tx len b n).2.2.2 i)) ∨ (lf (hOk tx len b n) n ≠ n ∧ x = nI (hSt tx len b (lf (hOk tx len b n) n)).1))) := by
      intro hbad
      have e9 := lf_at g1 hbad n hi
      refine v_il3 c_173_26 ?_
      refine v_ri c_173_27 ?_
      exact ⟨_, rfl, g6, g4, g2, Or.inr ⟨by omega, by rw [e9]⟩⟩
    by_cases hd : okD tx len 0 (n - 1) (hSt tx len b i).1 = true
    · obtain ⟨d1, d2, d3⟩ := okD_h hd
      cases hbt : (hSt tx len b i).2.1.testBit (tx (hSt tx len b i).1 - 48)
      · have hgood : hOk tx len b n i = true := by unfold hOk; rw [hd, hbt]; rfl
        have g1' : ∀ j, j < i + 1 → hOk tx len b n j = true := fun j hj => by
          rcases Nat.lt_or_eq_of_le (Nat.le_of_lt_succ hj) with h | h
          · exact g1 j h
          · rw [h]; exact hgood
        rw [if_pos hd]
        refine v_il6 c_173_19 ?_
        refine v_bp c_173_20 ?_
        refine v_icmp_eq_f c_173_21 ((dg_9 _ (by omega))) ?_
        refine v_il4 c_173_22 ?_
        refine v_il6 c_173_23 ?_
        refine v_cSi c_173_24 rfl rfl rfl (k_con (by omega) (by omega)) ?_
        refine v_if_eq_tb c_173_25 (hbt) ?_
        refine v_il4 c_173_28 ?_
        refine v_il6 c_173_29 ?_
        refine v_cSi c_173_30 rfl rfl rfl (k_bit (by omega)) ?_
        refine v_iorN c_173_31 ?_
        refine v_is4 c_173_32 rfl ?_
        refine v_al1 c_173_33 ?_
        refine v_gR c_173_34 (kM_r3 ho) ?_
        refine v_il5 c_173_35 ?_
        refine v_il6 c_173_36 ?_
        refine v_put c_173_37 (kM_a2 ho) (by omega) rfl ?_
        refine v_incN3 c_173_38 rfl rfl ?_
        refine v_al0 c_173_39 ?_
        refine v_il3 c_173_40 ?_
        refine v_cVi c_173_41 rfl (by decide) rfl rfl (t_at ((hT'.fr (FR.sI (lo := o) (hi := o + 3) (by omega) (by omega)) (by omega) (by omega))) (by omega)) ?_
        refine v_bpN (n := 33) c_173_42 rfl ?_
        have e4 : ∀ k, (hSt tx len b (i + 1)).2.2.2 k = if k = i then tx (hSt tx len b i).1 - 48 else (hSt tx len b i).2.2.2 k := fun k => rfl
        have hh : ∀ k, k < n → (sI t (o + 2) i (nI (tx (hSt tx len b i).1 - 48))).1 (o + 2) k = nI ((hSt tx len b (i + 1)).2.2.2 k) := by
          intro k hk
          rw [e4]
          by_cases e : k = i
          · rw [if_pos e, e, sI_s]
          · rw [if_neg e, sI_k e]; exact g5 k hk
        by_cases h33 : xAt tx len ((hSt tx len b i).1 + 1) = nI 33
        · refine v_icmp_ne_f c_173_43 (h33) ?_
          refine v_al1 c_173_44 ?_
          refine v_il5 c_173_45 ?_
          refine v_cVv c_173_46 rfl (kM_lt ho) (kM_is ho) rfl (k_snd0 ho (l := (hSt tx len b i).2.2.1) (by rw [sI_o (by omega)]; exact g3) (by omega)) ?_
          refine v_incN3 c_173_47 rfl rfl ?_
          refine v_incN5 c_173_48 rfl rfl ?_
          refine v_goto c_173_49 ?_
          refine hk _ _ ⟨⟨some (.int (nI (tx (hSt tx len b i).1 - 48))), ?_⟩, g1', by rw [sI_k (by decide), sI_o (by omega)]; exact g2, ?_, by rw [sI_o (by omega), sI_o (by omega)]; exact g4, fun k hk => by rw [sI_o (by omega)]; exact hh k hk, (g6.tr (FR.sI (by omega) (by omega))).tr (FR.sI (by omega) (by omega))⟩
          · have e1 : (hSt tx len b (i + 1)).1 = (hSt tx len b i).1 + 2 := if_pos h33
            rw [e1]; rfl
          · have e3 : (hSt tx len b (i + 1)).2.2.1 = (hSt tx len b i).2.2.1 ||| 2 ^ i := if_pos h33
            rw [e3, sI_s]
        · refine v_icmp_ne_t c_173_43 (h33) ?_
          refine v_incN5 c_173_48 rfl rfl ?_
          refine v_goto c_173_49 ?_
          refine hk _ _ ⟨⟨some (.int (nI (tx (hSt tx len b i).1 - 48))), ?_⟩, g1', by rw [sI_o (by omega)]; exact g2, ?_, by rw [sI_o (by omega)]; exact g4, hh, g6.tr (FR.sI (by omega) (by omega))⟩
          · have e1 : (hSt tx len b (i + 1)).1 = (hSt tx len b i).1 + 1 := if_neg h33
            rw [e1]; rfl
          · have e3 : (hSt tx len b (i + 1)).2.2.1 = (hSt tx len b i).2.2.1 := if_neg h33
            rw [e3, sI_o (by omega)]; exact g3
      · have b9 := bad (by unfold hOk; rw [hd, hbt]; rfl)
        rw [if_pos hd] at b9 ⊢
        refine v_il6 c_173_19 ?_
        refine v_bp c_173_20 ?_
        refine v_icmp_eq_f c_173_21 ((dg_9 _ (by omega))) ?_
        refine v_il4 c_173_22 ?_
        refine v_il6 c_173_23 ?_
        refine v_cSi c_173_24 rfl rfl rfl (k_con (by omega) (by omega)) ?_
        refine v_if_eq_fb c_173_25 (hbt) ?_
        exact b9
    · have b9 := bad (by unfold hOk; rw [Bool.not_eq_true] at hd; rw [hd]; rfl)
      rw [if_neg hd] at b9 ⊢
      refine v_il6 c_173_19 ?_
      refine v_bp c_173_20 ?_
      refine v_icmp_eq_t c_173_21 (rfl) ?_
      exact b9
  · rintro ls t ⟨⟨y, rfl⟩, g1, g2, g3, g4, g5, g6⟩
    obtain ⟨w1, w2, w3, w4, w5, w6⟩ := hSt_w hb h7 n g1 (by omega)
    have hT' := hT.fr g6 (by omega) (by omega)
    have e9 := lf_all n g1
    refine v_il5 c_173_6 ?_
    refine v_al1 c_173_7 ?_
    refine v_gI c_173_8 (kM_f0 ho) (g2) ?_
    refine v_icmp_ge_T c_173_9 (by omega) (by omega) (by omega) ?_
    refine v_al0 c_173_50 ?_
    refine v_il3 c_173_51 ?_
    refine v_cVi c_173_52 rfl (by decide) rfl rfl (t_at hT' (by omega)) ?_
    by_cases hp : (hSt tx len b n).1 < len
    · have e8 : xAt tx len (hSt tx len b n).1 ≠ -1 := by
        unfold xAt
        rw [if_pos hp]
        exact dg_nn _ (hT.2.2 _ hp).2
      refine v_ic c_173_53 ?_
      refine v_icmp_ne_t c_173_54 (e8) ?_
      refine v_il3 c_173_57 ?_
      refine v_ri c_173_58 ?_
      exact ⟨_, rfl, g6, g4, g2, Or.inl ⟨e9, by rw [if_pos hp], g3, g5⟩⟩
    · have e8 : xAt tx len (hSt tx len b n).1 = -1 := if_neg hp
      refine v_ic c_173_53 ?_
      refine v_icmp_ne_f c_173_54 (e8) ?_
      refine v_bp c_173_55 ?_
      refine v_goto c_173_56 ?_
      refine v_ri c_173_58 ?_
      exact ⟨_, rfl, g6, g4, g2, Or.inl ⟨e9, by rw [if_neg hp], g3, g5⟩⟩
end TF
