/-! THE MODEL: its small methods -/
def QM (g : Nat → Int32) (M : zM) : Prop := g 0 = nI (mN M) ∧ g 1 = nI (mL M) ∧ (∀ i, i < mN M → g (2 + i) = nI (mH M i)) ∧ ∀ i t, i < mN M → t < mN M → g (9 + 7 * i + t) = nI (mR M i t)
theorem QM.cp {f g : Nat → Int32} {M : zM} (h : QM f M) (h7 : mN M ≤ 7) (e : ∀ j, j < 58 → g j = f j) : QM g M := ⟨by rw [e 0 (by decide)]; exact h.1, by rw [e 1 (by decide)]; exact h.2.1, fun i hi => by rw [e _ (by omega)]; exact h.2.2.1 i hi, fun i t hi ht => by rw [e _ (by omega)]; exact h.2.2.2 i t hi ht⟩
theorem pc_pre : ∀ n, n ≤ 7 → ∀ l, l < 128 → l < 2 ^ n → pc l ≤ n ∧ pc (zdf (2 ^ n - 1) l) = n - pc l := by decide +kernel
theorem pc_red : ∀ x, x < 128 → 0 < x → x &&& (x - 1) < x ∧ pc x = pc (x &&& (x - 1)) + 1 := by decide +kernel
theorem i64_le (x y : Int32) : x.toInt64 ≤ y.toInt64 ↔ x ≤ y := by rw [Int64.le_iff_toInt_le, Int32.le_iff_toInt_le, Int32.toInt_toInt64, Int32.toInt_toInt64]
theorem i64_lt (x y : Int32) : x.toInt64 < y.toInt64 ↔ x < y := by rw [Int64.lt_iff_toInt_lt, Int32.lt_iff_toInt_lt, Int32.toInt_toInt64, Int32.toInt_toInt64]
theorem nI_pm : ∀ n, n ≤ 7 → ∀ x : Int32, (x ≤ nI n - 1 ↔ x < nI n) := by
  intro n hn x
  have h1 : (nI n - 1).toInt = (n : Int) - 1 := by
    have h : ∀ n, n ≤ 7 → (nI n - 1).toInt = (n : Int) - 1 := by decide +kernel
    exact h n hn
  rw [Int32.le_iff_toInt_le, Int32.lt_iff_toInt_lt, h1, nI_toInt (by omega)]
  omega
section MO
variable {sc : Nat × (Nat → Int32)} {s : zv_S} {M : zM}
theorem QM.rk {i t r : Nat} (hM : QM (s.1 89) M) (hw : MW M) (hi : i < mN M) (ht : t < mN M) : QM ((sI s 89 (9 + 7 * i + t) (nI r)).1 89) (mRk M i t r) := by
  have h7 := hw.1
  refine ⟨by rw [sI_k (by omega)]; exact hM.1, by rw [sI_k (by omega)]; exact hM.2.1, fun a ha => ?_, fun a b ha hb => ?_⟩
  · have ha : a < mN M := ha
    rw [sI_k (by omega)]; exact hM.2.2.1 a ha
  · have ha : a < mN M := ha
    have hb : b < mN M := hb
    show _ = nI (if a = i ∧ b = t then r else mR M a b)
    by_cases e : a = i ∧ b = t
    · rw [if_pos e, e.1, e.2, sI_s]
    · rw [if_neg e, sI_k (by omega)]
      exact hM.2.2.2 a b ha hb
end MO
