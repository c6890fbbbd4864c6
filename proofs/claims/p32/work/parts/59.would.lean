/-! CALLS: what would be; save slots -/
section OP4
variable {sc : Nat × (Nat → Int32)} {s t u : zv_S} {M N : zM} {L L' : List zM} {S : Nat → Option zM} {tx : Nat → Nat} {len lo hi : Nat} {W : zW}
theorem xm_f {x v : Int32} (h : RMw s W) (F : FR lo hi (sI s 88 8 (nI 0)) t) (h1 : 95 ≤ lo ∧ hi ≤ 109) (hv : x = v) : XM s W (.inr (v, W)) x t := by
  refine xm_r h (GM.th.tr (GM.fr F (Or.inr h1))) ?_ ?_ hv
  · rw [F.at (by omega), sI_o (by omega)]
    exact h.1
  · rw [F.at (by omega), sI_s]
theorem ls_cmp {a b h : Nat} (ha : a ≤ 9) (hb : b ≤ 9) (hh : h ≤ 9) : nI a - nI h ≤ nI b - nI h ↔ a ≤ b := by
  have k : ∀ a, a ≤ 9 → ∀ b, b ≤ 9 → ∀ h, h ≤ 9 → (nI a - nI h ≤ nI b - nI h ↔ a ≤ b) := by decide +kernel
  exact k a ha b hb h hh
end OP4
