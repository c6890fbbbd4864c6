/-! THE TEXT: its reading -/
def xAt (tx : Nat → Nat) (len p : Nat) : Int32 := if p < len then nI (tx p) else (-1)
def okD (tx : Nat → Nat) (len lo hi p : Nat) : Bool := decide (p < len) && (decide (48 + lo ≤ tx p) && decide (tx p ≤ 48 + hi))
/-- the first place below n where p fails; n if none -/
def lf (p : Nat → Bool) : Nat → Nat
  | 0 => 0
  | n + 1 => if lf p n = n then (if p n then n + 1 else n) else lf p n
theorem lf_all {p : Nat → Bool} : ∀ n, (∀ j, j < n → p j = true) → lf p n = n
  | 0, _ => rfl
  | n + 1, h => by
    show (if lf p n = n then (if p n then n + 1 else n) else lf p n) = n + 1
    rw [if_pos (lf_all n fun j hj => h j (by omega)), if_pos (h n (by omega))]
theorem lf_at {p : Nat → Bool} {k : Nat} (h1 : ∀ j, j < k → p j = true) (h2 : p k = false) : ∀ n, k < n → lf p n = k
  | 0, h => by omega
  | n + 1, h => by
    show (if lf p n = n then (if p n then n + 1 else n) else lf p n) = k
    rcases Nat.lt_or_eq_of_le (Nat.le_of_lt_succ h) with h3 | h3
    · rw [lf_at h1 h2 n h3, if_neg (by omega)]
    · subst h3
      rw [if_pos (lf_all k h1), h2]
      rfl
theorem lf_lt {p : Nat → Bool} : ∀ n, (∀ j, j < lf p n → p j = true) ∧ lf p n ≤ n ∧ (lf p n < n → p (lf p n) = false)
  | 0 => ⟨fun j hj => absurd hj (Nat.not_lt_zero _), Nat.le_refl _, fun h => absurd h (Nat.lt_irrefl _)⟩
  | n + 1 => by
    obtain ⟨h1, h2, h3⟩ := lf_lt (p := p) n
    have e : lf p (n + 1) = (if lf p n = n then (if p n then n + 1 else n) else lf p n) := rfl
    rw [e]
    by_cases c : lf p n = n
    · rw [if_pos c]
      rw [c] at h1
      cases hp : p n
      · rw [if_neg (by decide)]
        exact ⟨h1, by omega, fun _ => hp⟩
      · rw [if_pos rfl]
        refine ⟨fun j hj => ?_, Nat.le_refl _, fun h => absurd h (Nat.lt_irrefl _)⟩
        rcases Nat.lt_or_eq_of_le (Nat.le_of_lt_succ hj) with h | h
        · exact h1 j h
        · rw [h]; exact hp
    · rw [if_neg c]
      exact ⟨h1, by omega, fun _ => h3 (by omega)⟩
/-- holders: place, taken, left, holds behind i of them -/
def hSt (tx : Nat → Nat) (len b : Nat) : Nat → Nat × Nat × Nat × (Nat → Nat)
  | 0 => (b, 0, 0, fun k => k)
  | i + 1 => (if xAt tx len ((hSt tx len b i).1 + 1) = nI 33 then (hSt tx len b i).1 + 2 else (hSt tx len b i).1 + 1,
      (hSt tx len b i).2.1 ||| 2 ^ (tx (hSt tx len b i).1 - 48),
      if xAt tx len ((hSt tx len b i).1 + 1) = nI 33 then (hSt tx len b i).2.2.1 ||| 2 ^ i else (hSt tx len b i).2.2.1,
      fun k => if k = i then tx (hSt tx len b i).1 - 48 else (hSt tx len b i).2.2.2 k)
def hOk (tx : Nat → Nat) (len b n i : Nat) : Bool := okD tx len 0 (n - 1) (hSt tx len b i).1 && !(hSt tx len b i).2.1.testBit (tx (hSt tx len b i).1 - 48)
/-- the error position of a text; none: a market -/
def pE (tx : Nat → Nat) (len : Nat) : Option Nat :=
  if xAt tx len 0 = nI 77 then
    if okD tx len 1 7 1 then
      if lf (fun k => okD tx len 0 9 (2 + k)) ((tx 1 - 48) * (tx 1 - 48)) = (tx 1 - 48) * (tx 1 - 48) then
        if 2 + (tx 1 - 48) * (tx 1 - 48) < len then
          if tx (2 + (tx 1 - 48) * (tx 1 - 48)) = 47 then
            if lf (hOk tx len (2 + (tx 1 - 48) * (tx 1 - 48) + 1) (tx 1 - 48)) (tx 1 - 48) = tx 1 - 48 then
              if (hSt tx len (2 + (tx 1 - 48) * (tx 1 - 48) + 1) (tx 1 - 48)).1 < len then some (hSt tx len (2 + (tx 1 - 48) * (tx 1 - 48) + 1) (tx 1 - 48)).1 else none
            else some (hSt tx len (2 + (tx 1 - 48) * (tx 1 - 48) + 1) (lf (hOk tx len (2 + (tx 1 - 48) * (tx 1 - 48) + 1) (tx 1 - 48)) (tx 1 - 48))).1
          else some (2 + (tx 1 - 48) * (tx 1 - 48))
        else none
      else some (2 + lf (fun k => okD tx len 0 9 (2 + k)) ((tx 1 - 48) * (tx 1 - 48)))
    else some 1
  else some 0
def pM (tx : Nat → Nat) (len : Nat) : zM := (tx 1 - 48,
  if 2 + (tx 1 - 48) * (tx 1 - 48) < len then (hSt tx len (2 + (tx 1 - 48) * (tx 1 - 48) + 1) (tx 1 - 48)).2.2.1 else 0,
  fun i t => tx (2 + (i * (tx 1 - 48) + t)) - 48,
  if 2 + (tx 1 - 48) * (tx 1 - 48) < len then (hSt tx len (2 + (tx 1 - 48) * (tx 1 - 48) + 1) (tx 1 - 48)).2.2.2 else fun k => k)
theorem dg_lt : ∀ c, c < 256 → ∀ lo, lo ≤ 9 → (nI c - nI 48 < nI lo ↔ c < 48 + lo) := by decide +kernel
theorem dg_gt : ∀ c, c < 256 → ∀ lo, lo ≤ 9 → (nI lo < nI c - nI 48 ↔ 48 + lo < c) := by decide +kernel
theorem dg_nn : ∀ c, c < 256 → nI c ≠ -1 := by decide +kernel
theorem dg_9 : ∀ c, c < 256 → nI c ≠ -9 := by decide +kernel
/-- the text of cells h (characters) and g, place k (its length) -/
def TXT (s : zv_S) (h g k : Nat) (tx : Nat → Nat) (len : Nat) : Prop := s.1 g k = nI len ∧ len ≤ 70 ∧ ∀ j, j < len → s.1 h j = nI (tx j) ∧ tx j < 256
theorem okD_h {tx : Nat → Nat} {len lo hi p : Nat} (h : okD tx len lo hi p = true) : p < len ∧ 48 + lo ≤ tx p ∧ tx p ≤ 48 + hi := by
  simpa [okD] using h
section TE
variable {sc : Nat × (Nat → Int32)} {s : zv_S} {tx : Nat → Nat} {len : Nat}
end TE
