/-! THE TRADING: the model's -/
def TQ (s : zv_S) (n : Nat) (T : zT) : Prop := s.1 88 16 = nI (tRi T) ∧ s.1 88 17 = nI (tRo T) ∧ (∀ i, i < n → s.1 95 i = tGe T i ∧ s.1 96 i = tRf T i ∧ s.1 97 i = tGf T i ∧ s.1 98 i = tFi T i) ∧ ∀ k, k < tRi T → s.1 100 k = tTo T k ∧ s.1 101 k = tRr T k
theorem QM.fw {s t : zv_S} {M : zM} (h : QM (s.1 89) M) (hf : FW s t) : QM (t.1 89) M := by
  rw [hf.at (by omega) (by omega) (by omega)]
  exact h
/-- the frame of the trading: nothing from 102 on, nor 90 -/
def FT (s t : zv_S) : Prop := FW s t ∧ (∀ a, 102 ≤ a → t.1 a = s.1 a) ∧ t.1 90 = s.1 90
theorem FT.rf {s : zv_S} : FT s s := ⟨FW.rf, fun _ _ => rfl, rfl⟩
theorem FT.tr {s t u : zv_S} (h1 : FT s t) (h2 : FT t u) : FT s u := ⟨h1.1.tr h2.1, fun a ha => (h2.2.1 a ha).trans (h1.2.1 a ha), h2.2.2.trans h1.2.2⟩
theorem FT.at {s t : zv_S} (h : FT s t) {a : Nat} (x : a ≠ 88) (y : a ≠ 90) (z : a < 95 ∨ 108 < a) : t.1 a = s.1 a := h.1.at x y z
theorem FT.wr {s : zv_S} {o k : Nat} {v : Int32} (h : 95 ≤ o ∧ o ≤ 101) : FT s (sI s o k v) := ⟨FW.wr (by omega), fun a ha => sI_o (by omega), sI_o (by omega)⟩
theorem FT.fl {s : zv_S} {k : Nat} {v : Int32} (h : k ≠ 3 ∧ k ≠ 7 ∧ k ≠ 8) : FT s (sI s 88 k v) := ⟨FW.fl h, fun a ha => sI_o (by omega), sI_o (by omega)⟩
theorem FT.of {s t : zv_S} {lo hi : Nat} (h : FR lo hi s t) (h1 : 95 ≤ lo ∧ hi ≤ 102) : FT s t := ⟨FW.of h (by omega), fun a ha => h.at (by omega), h.at (by omega)⟩
theorem QM.ft {s t : zv_S} {M : zM} (h : QM (s.1 89) M) (hf : FT s t) : QM (t.1 89) M := h.fw hf.1
theorem mP_or (M : zM) : orS (fun i => if (mL M).testBit i then 0 else 1 * 2 ^ i) (mN M) = mP M := by
  apply Nat.eq_of_testBit_eq
  intro x
  rw [mP_tb]
  cases e : decide (x < mN M) && !(mL M).testBit x
  · cases e2 : (orS (fun i => if (mL M).testBit i then 0 else 1 * 2 ^ i) (mN M)).testBit x
    · rfl
    · obtain ⟨i, h1, h2⟩ := (orS_tb (mN M)).mp e2
      cases h3 : (mL M).testBit i
      · rw [h3, if_neg (by decide), Nat.one_mul, Nat.testBit_two_pow] at h2
        have h4 : i = x := by simpa using h2
        subst h4
        rw [h3, decide_eq_true h1] at e
        cases e
      · rw [h3, if_pos rfl] at h2
        simp at h2
  · rw [Bool.and_eq_true, decide_eq_true_eq, Bool.not_eq_true'] at e
    refine (orS_tb (mN M)).mpr ⟨x, e.1, ?_⟩
    rw [e.2, if_neg (by decide), Nat.one_mul, Nat.testBit_two_pow_self]
section TQS
variable {sc : Nat × (Nat → Int32)} {s : zv_S} {M : zM} {T : zT}
end TQS
