/-! THE LEAST SUM: the model's -/
def mV (f : Nat → Nat) (o : Option Nat) : Nat := match o with
  | none => 1000
  | some b => f b
theorem mLi_le {M : zM} {k i : Nat} (hk : k < mK M) (hi : i < mN M) (hP : (mP M).testBit i = true) : mLi M k ≤ i ↔ k ≤ bS (mP M) i := by
  obtain ⟨s1, s2, s3, s4⟩ := selF_lt (S := mP M) (n := mN M) (k := k) (mN M) (Nat.le_refl _) hk
  constructor
  · intro h
    have := bS_mono (S := mP M) i h
    have e : bS (mP M) (mLi M k) = k := s3
    omega
  · intro h
    refine Nat.le_of_not_lt fun hh => ?_
    have h1 := bS_mono (S := mP M) (i := i + 1) (mLi M k) (by omega)
    have e : bS (mP M) (mLi M k) = k := s3
    rw [bS_t hP] at h1
    omega
section LM
variable {sc : Nat × (Nat → Int32)} {s : zv_S} {M : zM}
end LM
