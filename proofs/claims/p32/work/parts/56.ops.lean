/-! CALLS: text, numbers -/
theorem PM.sur {n : Nat} {H : Nat → Nat} (hH : PM n H) {t : Nat} (ht : t < n) : ∃ i, i < n ∧ H i = t := by
  refine Classical.byContradiction fun hno => ?_
  have h1 : (lhL n H n).testBit t = true := (lhL_tb n t).mpr ⟨ht, fun j hj e => hno ⟨j, hj, e⟩⟩
  have h2 := lhL_cnt hH n (Nat.le_refl _)
  have h3 := cnt_lt (p := fun j => (lhL n H n).testBit j) h1 ht
  omega
theorem xm_e {s : zv_S} {W : zW} {x : Int32} {k : Nat} (h : RMw s W) : XM s W (.inl k) x (sI (sI s 88 8 (nI 0)) 88 8 (nI k)) := xm_x h GM.th (by rw [sI_o (by omega)]; exact h.1)
theorem sw_no {x : Int32} {ts : List Nat} {d : Nat} (h : inN ts.length x = false) (hl : ts.length < 100) : zm_sw ts d 0 x = d := by
  unfold zm_sw
  by_cases h0 : x.toInt < (0 : Int32).toInt
  · rw [if_pos h0]
  · rw [if_neg h0]
    have h2 : ¬ x < 0 := fun z => h0 (Int32.lt_iff_toInt_lt.mp z)
    obtain ⟨j, hj, rfl⟩ := nI_of h2
    have h1 : ts.length ≤ j := by
      refine Nat.le_of_not_lt fun z => ?_
      unfold inN at h
      rw [decide_eq_true (nI_pos' hj), decide_eq_true ((nI_ltI hj (by omega)).mpr z)] at h
      cases h
    have e : ((nI j).toInt - (0 : Int32).toInt).toNat = j := by
      rw [nI_toInt hj, show (0 : Int32).toInt = 0 from rfl]
      omega
    rw [e, List.getElem?_eq_none h1]
section OP1
variable {sc : Nat × (Nat → Int32)} {M : zM} {L : List zM} {S : Nat → Option zM} {tx : Nat → Nat} {len : Nat}
theorem p_9 : ∀ p, p < 1000 → nI p ≠ -9 := by decide +kernel
end OP1
