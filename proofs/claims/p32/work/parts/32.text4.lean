/-! THE TEXT: the model's reading -/
section TH
variable {sc : Nat × (Nat → Int32)} {s : zv_S} {tx : Nat → Nat} {len : Nat}
end TH
