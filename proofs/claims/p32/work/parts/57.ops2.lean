/-! CALLS: about, trader, ring -/
theorem FW.gm {s t : zv_S} (h : FW (sI s 88 8 (nI 0)) t) : GM s t := GM.th.tr (GM.fw h)
section OP2
variable {sc : Nat × (Nat → Int32)} {M : zM} {L : List zM} {S : Nat → Option zM} {tx : Nat → Nat} {len : Nat}
end OP2
