/-! THE PURE MACHINE: what the bytecode of this claim does, over handles instead of addresses. Types and helpers. -/
abbrev zm_C : Type := (FieldType × Nat × ((Nat → Int32) ⊕ (Nat → Int64) ⊕ (Nat → Option Nat))) ⊕ (Nat × List Value)
abbrev zm_H : Type := Nat × (Nat → zm_C) × Nat × Nat
abbrev zm_E : Type := Nat × Instr × Nat × Nat × Nat × Nat × Int32 × Int64 × List Nat
abbrev zm_O : Type := Option Value ⊕ Nat
abbrev zm_R : Type := zm_O × zm_H
abbrev zm_L : Type := List (Option Value)
abbrev zm_X : Type := Nat × Nat × zm_L × List Value × zm_H
abbrev zm_K : Type := zm_X → Option zm_R
abbrev zm_M : Type := String × MethodName × ByteArray × Nat × Option FieldType × List (Nat × Nat × Nat × Nat) × Nat × Nat
/-- a cell is written -/
def zm_u (h : zm_H) (a : Nat) (c : zm_C) : zm_H := (h.1, fun k => if k = a then c else h.2.1 k, h.2.2)
/-- a cell comes -/
def zm_nw (h : zm_H) (c : zm_C) (k : Nat) : zm_H := (h.1 + 1, fun j => if j = h.1 then c else h.2.1 j, h.2.2.1 + 1, h.2.2.2 + k)
/-- an exception is made -/
def zm_th (h : zm_H) : zm_H := (h.1, h.2.1, h.2.2.1 + 1, h.2.2.2 + 6)
def zm_lc (ls : zm_L) (i : Nat) : Option Value := match ls[i]? with
  | some o => o
  | none => none
def zm_cut (ls : zm_L) (i : Nat) : zm_L := match i with
  | 0 => ls
  | j + 1 => match zm_lc ls j with
    | some (.long _) => ls.set j none
    | some (.double _) => ls.set j none
    | _ => ls
def zm_s0 (ls : zm_L) (i : Nat) : zm_L := (zm_cut ls i).set i none
def zm_s1 (ls : zm_L) (i : Nat) (v : Value) : zm_L := (zm_cut ls i).set i (some v)
def zm_s2 (ls : zm_L) (i : Nat) (v : Value) : zm_L := ((zm_cut ls i).set i (some v)).set (i + 1) none
/-- an index that is in its row -/
def zm_ix (x : Int32) (n : Nat) : Option Nat := if x < 0 then none else if x.toNatClampNeg < n then some x.toNatClampNeg else none
def zm_gI (h : zm_H) (o c k : Nat) : Option Int32 := match h.2.1 o with
  | .inr (cj, fs) => if cj = c then (match fs[k]? with
    | some (.int x) => some x
    | _ => none) else none
  | _ => none
def zm_gR (h : zm_H) (o c k : Nat) : Option Nat := match h.2.1 o with
  | .inr (cj, fs) => if cj = c then (match fs[k]? with
    | some (.ref x) => some x
    | _ => none) else none
  | _ => none
def zm_pt (h : zm_H) (o c k : Nat) (v : Value) : Option zm_H := match h.2.1 o with
  | .inr (cj, fs) => if cj = c then (if k < fs.length then some (zm_u h o (.inr (cj, fs.set k v))) else none) else none
  | _ => none
def zm_aI (h : zm_H) (o : Nat) (x : Int32) : Option Int32 := match h.2.1 o with
  | .inl (.int, n, .inl f) => (zm_ix x n).map f
  | _ => none
def zm_aZ (h : zm_H) (o : Nat) (x : Int32) : Option Int32 := match h.2.1 o with
  | .inl (.boolean, n, .inl f) => (zm_ix x n).map f
  | _ => none
def zm_aL (h : zm_H) (o : Nat) (x : Int32) : Option Int64 := match h.2.1 o with
  | .inl (.long, n, .inr (.inl f)) => (zm_ix x n).map f
  | _ => none
def zm_aR (h : zm_H) (o : Nat) (x : Int32) : Option Nat := match h.2.1 o with
  | .inl (.object _, n, .inr (.inr f)) => (zm_ix x n).bind f
  | _ => none
def zm_sI (h : zm_H) (o : Nat) (x v : Int32) : Option zm_H := match h.2.1 o with
  | .inl (.int, n, .inl f) => (zm_ix x n).map fun k => zm_u h o (.inl (.int, n, .inl (upd f k v)))
  | _ => none
def zm_sZ (h : zm_H) (o : Nat) (x v : Int32) : Option zm_H := match h.2.1 o with
  | .inl (.boolean, n, .inl f) => (zm_ix x n).map fun k => zm_u h o (.inl (.boolean, n, .inl (upd f k (vp_nar .boolean v))))
  | _ => none
def zm_sL (h : zm_H) (o : Nat) (x : Int32) (v : Int64) : Option zm_H := match h.2.1 o with
  | .inl (.long, n, .inr (.inl f)) => (zm_ix x n).map fun k => zm_u h o (.inl (.long, n, .inr (.inl (vp_updL f k v))))
  | _ => none
/-- the one class of which there are arrays, by its number -/
def zm_sR (h : zm_H) (o : Nat) (x : Int32) (v : Nat) : Option zm_H := match h.2.1 o with
  | .inl (.object t, n, .inr (.inr f)) => (match h.2.1 v with
    | .inr (cj, _) => if t = RX1 ∧ cj = 1 then (zm_ix x n).map fun k => zm_u h o (.inl (.object t, n, .inr (.inr (va_up f k (some v))))) else none
    | _ => none)
  | _ => none
def zm_ln (h : zm_H) (o : Nat) : Option Nat := match h.2.1 o with
  | .inl (_, n, _) => some n
  | _ => none
def zm_cp (h : zm_H) (s : Nat) (sp : Int32) (d : Nat) (dp n : Int32) : Option zm_H := match h.2.1 s, h.2.1 d with
  | .inl (.int, n0, .inl f), .inl (.int, n1, .inl g) => if sp < 0 ∨ dp < 0 ∨ n < 0 then none else
      if sp.toNatClampNeg + n.toNatClampNeg ≤ n0 ∧ dp.toNatClampNeg + n.toNatClampNeg ≤ n1 then some (zm_u h d (.inl (.int, n1, .inl (va_cpy f g sp.toNatClampNeg dp.toNatClampNeg n.toNatClampNeg)))) else none
  | _, _ => none
/-- the arguments off the stack, in order, and the rest -/
def zm_pa : Nat → List Value → List Value → Option (List Value × List Value)
  | 0, acc, st => some (acc, st)
  | _ + 1, _, [] => none
  | n + 1, acc, v :: st => zm_pa n (v :: acc) st
/-- a method's first locals -/
def zm_fl : List Value → zm_L
  | [] => []
  | v :: vs => match v with
    | .long _ => some v :: none :: zm_fl vs
    | .double _ => some v :: none :: zm_fl vs
    | _ => some v :: zm_fl vs
def zm_in (n : Nat) (vs : List Value) : zm_L := zm_fl vs ++ List.replicate (n - (zm_fl vs).length) none
def zm_cs (st : List Value) : Nat := (st.map fun v => v.category).sum
def zm_is (h : zm_H) (o c : Nat) : Bool := match h.2.1 o with
  | .inr (cj, _) => Nat.beq cj c
  | _ => false
def zm_rV (o : Option zm_R) (k : zm_H → Option zm_R) (kx : Nat → zm_H → Option zm_R) : Option zm_R := match o with
  | some (.inl none, h) => k h
  | some (.inr x, h) => kx x h
  | _ => none
def zm_rI (o : Option zm_R) (k : Int32 → zm_H → Option zm_R) (kx : Nat → zm_H → Option zm_R) : Option zm_R := match o with
  | some (.inl (some (.int r)), h) => k r h
  | some (.inr x, h) => kx x h
  | _ => none
def zm_rR (o : Option zm_R) (k : Nat → zm_H → Option zm_R) (kx : Nat → zm_H → Option zm_R) : Option zm_R := match o with
  | some (.inl (some (.ref r)), h) => k r h
  | some (.inr x, h) => kx x h
  | _ => none
/-- the handler of a method's table: (from, to, exception, where it goes on, the local that is lost) -/
def zm_fd : List (Nat × Nat × Nat × Nat × Nat) → Nat → Nat → Option (Nat × Nat)
  | [], _, _ => none
  | (f, t, y, g, k) :: r, i, x => if f ≤ i ∧ i < t ∧ y = x then some (g, k) else zm_fd r i x
def zm_bo (x : Int32) (h : zm_H) : Option zm_R := if x = 0 then some (.inl (some (.int 0)), h) else if x = 1 then some (.inl (some (.int 1)), h) else none
/-- where a switch goes on -/
def zm_sw (ts : List Nat) (d : Nat) (lo x : Int32) : Nat := if x.toInt < lo.toInt then d else match ts[(x.toInt - lo.toInt).toNat]? with
  | some t => t
  | none => d
/-- a class's fields as they come -/
def zm_df (T : Nat → FieldType) (n : Nat) : List Value := (List.range n).map fun k => defaultValue (T k)
