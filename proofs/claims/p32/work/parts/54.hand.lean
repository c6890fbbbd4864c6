/-! HAND: four copies of what the commands name -/
theorem m52 : isM 58 = true := rfl
theorem m3 : isM 3 = true := rfl
theorem t55 : isT 61 = true := rfl
theorem t63 : isT 69 = true := rfl
theorem hasD {n i : Nat} (h7 : n ≤ 7) (hi : i < 2147483648) : (decide (0 ≤ nI i) && decide (nI i < nI n)) = decide (i < n) := by
  have h1 : (0 : Int32) ≤ nI i := nI_pos' hi
  rw [decide_eq_true h1, Bool.true_and]
  exact decide_eq_decide.mpr (nI_ltI hi (by omega))
