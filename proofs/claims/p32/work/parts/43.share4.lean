/-! SHARING: the model's counting -/
def RX (lk : Nat → Nat → Bool) (w k th : Nat) (f : Nat → Nat) (T X : Nat) : Nat := f X + smm (fun t => if X.testBit t && (th.testBit t && (decide (T ≤ X ^^^ 2 ^ t) && (decide (pc (X ^^^ 2 ^ t) = k) && lk w t))) then f (X ^^^ 2 ^ t) else 0) 7
section RXS
variable {lk : Nat → Nat → Bool} {line : Nat → Nat} {w k th T X : Nat} {f : Nat → Nat}
theorem RX_top (hX : X < 128) : RX lk w k th f 128 X = f X := by
  unfold RX
  rw [smm_0 7 (fun t ht => ?_), Nat.add_zero]
  have := xor_128 hX ht
  rw [decide_eq_false (show ¬ 128 ≤ X ^^^ 2 ^ t by omega)]
  simp
theorem RX_self (hT : T < 128) : RX lk w k th f (T + 1) T = f T := by
  unfold RX
  rw [smm_0 7 (fun t ht => ?_), Nat.add_zero]
  cases c : T.testBit t
  · rfl
  · have := xor_lt hT c
    rw [decide_eq_false (show ¬ T + 1 ≤ T ^^^ 2 ^ t by omega)]
    simp
theorem RX_s : RX lk w k th f T X = RX lk w k th f (T + 1) X + (if decide (pc T = k) && ((List.range 7).any fun t => (!T.testBit t && (th.testBit t && lk w t)) && decide (X = T ||| 2 ^ t)) then f T else 0) := by
  unfold RX
  rw [Nat.add_assoc]
  congr 1
  by_cases h : ∃ t, t < 7 ∧ X.testBit t = true ∧ X ^^^ 2 ^ t = T
  · obtain ⟨u, u1, u2, u3⟩ := h
    have huT : T.testBit u = false := by rw [← u3]; exact xor_tb u2
    have hXT : X = T ||| 2 ^ u := by rw [← u3, xor_or u2]
    have hrest : ∀ t, t ≠ u → (if X.testBit t && (th.testBit t && (decide (T ≤ X ^^^ 2 ^ t) && (decide (pc (X ^^^ 2 ^ t) = k) && lk w t))) then f (X ^^^ 2 ^ t) else 0) = (if X.testBit t && (th.testBit t && (decide (T + 1 ≤ X ^^^ 2 ^ t) && (decide (pc (X ^^^ 2 ^ t) = k) && lk w t))) then f (X ^^^ 2 ^ t) else 0) := by
      intro t ht
      cases c : X.testBit t
      · rfl
      · have : X ^^^ 2 ^ t ≠ T := fun e => by
          have h1 : T.testBit t = false := by rw [← e]; exact xor_tb c
          have h2 : X = T ||| 2 ^ t := by rw [← e, xor_or c]
          exact ht (or_inj h1 (h2.symm.trans hXT) huT)
        rw [show decide (T ≤ X ^^^ 2 ^ t) = decide (T + 1 ≤ X ^^^ 2 ^ t) from decide_eq_decide.mpr (by omega)]
    have hany : ((List.range 7).any fun t => (!T.testBit t && (th.testBit t && lk w t)) && decide (X = T ||| 2 ^ t)) = (th.testBit u && lk w u) := by
      cases e : (th.testBit u && lk w u)
      · rw [List.any_eq_false]
        intro t ht
        cases h1 : T.testBit t
        · by_cases h2 : X = T ||| 2 ^ t
          · have := or_inj h1 (h2.symm.trans hXT) huT
            subst this
            rw [Bool.and_eq_false_iff] at e
            rcases e with e | e <;> simp [e]
          · simp [h2]
        · simp
      · rw [List.any_eq_true]
        refine ⟨u, List.mem_range.mpr u1, ?_⟩
        rw [Bool.and_eq_true] at e
        simp [huT, e.1, e.2, hXT]
    rw [hany]
    refine smm_one (u := u) ?_ hrest 7 u1
    rw [u2, u3, decide_eq_true (Nat.le_refl T), decide_eq_false (show ¬ T + 1 ≤ T by omega)]
    cases th.testBit u <;> cases lk w u <;> cases decide (pc T = k) <;> simp
  · have hany : ((List.range 7).any fun t => (!T.testBit t && (th.testBit t && lk w t)) && decide (X = T ||| 2 ^ t)) = false := by
      rw [List.any_eq_false]
      intro t ht
      cases h1 : T.testBit t
      · by_cases h2 : X = T ||| 2 ^ t
        · exact absurd ⟨t, List.mem_range.mp ht, by rw [h2, Nat.testBit_or, Nat.testBit_two_pow_self, Bool.or_true], by rw [h2, or_xor h1]⟩ h
        · simp [h2]
      · simp
    rw [hany, Bool.and_false, if_neg (by decide), Nat.add_zero]
    refine smm_cg 7 fun t ht => ?_
    cases c : X.testBit t
    · rfl
    · have : X ^^^ 2 ^ t ≠ T := fun e => h ⟨t, ht, c, e⟩
      rw [show decide (T ≤ X ^^^ 2 ^ t) = decide (T + 1 ≤ X ^^^ 2 ^ t) from decide_eq_decide.mpr (by omega)]
theorem FX_no {q : Nat} (h : sub X th = false) : FX lk line q th X = 0 := by
  unfold FX
  rw [h]; rfl
theorem sub_xor {t : Nat} (c : X.testBit t = true) (h : th.testBit t = true) : sub (X ^^^ 2 ^ t) th = sub X th := by
  cases e : sub X th
  · cases e2 : sub (X ^^^ 2 ^ t) th
    · rfl
    · exfalso
      have : sub X th = true := sub_iff.mpr fun x hx => by
        rw [← xor_or c, Nat.testBit_or, Bool.or_eq_true] at hx
        rcases hx with h1 | h1
        · exact sub_iff.mp e2 x h1
        · rw [Nat.testBit_two_pow] at h1
          rw [← of_decide_eq_true h1]
          exact h
      rw [this] at e
      cases e
  · exact sub_iff.mpr fun x hx => sub_iff.mp e x (by rw [← xor_or c, Nat.testBit_or, hx, Bool.true_or])
theorem RX_fin (hX : X < 128) (hw : line k = w) : RX lk w k th (FX lk line k th) 0 X = FX lk line (k + 1) th X := by
  unfold RX
  cases hs : sub X th
  · rw [FX_no hs, FX_no hs, Nat.zero_add]
    refine smm_0 7 fun t ht => ?_
    cases c : X.testBit t
    · rfl
    · cases c2 : th.testBit t
      · rfl
      · rw [FX_no (by rw [sub_xor c c2]; exact hs)]
        simp
  · have e : ∀ q, FX lk line q th X = if decide (pc X ≤ q) then WL lk line (pc X) X else 0 := fun q => by unfold FX; rw [hs, Bool.true_and]
    rw [e, e]
    by_cases h1 : pc X = k + 1
    · rw [h1, decide_eq_false (by omega), decide_eq_true (by omega), if_neg (by decide), if_pos rfl, Nat.zero_add]
      show _ = smm (fun t => if X.testBit t && lk (line k) t then WL lk line k (X ^^^ 2 ^ t) else 0) 7
      refine smm_cg 7 fun t ht => ?_
      cases c : X.testBit t
      · rfl
      · have p1 := pc_xor hX c
        have p2 : pc (X ^^^ 2 ^ t) = k := by omega
        have c2 := sub_iff.mp hs t c
        rw [c2, p2, hw, decide_eq_true (Nat.zero_le _), decide_eq_true rfl]
        unfold FX
        rw [sub_xor c c2, hs, p2, decide_eq_true (Nat.le_refl _)]
        rfl
    · rw [show decide (pc X ≤ k) = decide (pc X ≤ k + 1) from decide_eq_decide.mpr (by omega), smm_0 7 (fun t ht => ?_), Nat.add_zero]
      cases c : X.testBit t
      · rfl
      · have p1 := pc_xor hX c
        rw [decide_eq_false (show ¬ pc (X ^^^ 2 ^ t) = k by omega)]
        simp
theorem FX_0 (hX : X < 128) : FX lk line 0 th X = if X = 0 then 1 else 0 := by
  by_cases h : X = 0
  · subst h
    unfold FX
    have h1 : sub 0 th = true := sub_iff.mpr fun x hx => by simp at hx
    rw [h1, show pc 0 = 0 from rfl, decide_eq_true (Nat.le_refl _)]
    rfl
  · unfold FX
    rw [if_neg h, decide_eq_false (fun z => h (pc_0 X hX (by omega)))]
    simp
theorem zdf_sub : zdf X th = 0 ↔ sub X th = true := by
  unfold sub
  rw [decide_eq_true_eq]
end RXS
section SM
variable {sc : Nat × (Nat → Int32)} {s : zv_S} {M : zM}
end SM
