/-! THE TYPED MEMORY: after both constructors no cell is made any more; what the cells hold is a function of handle and place. -/
abbrev zv_S : Type := (Nat → Nat → Int32) × (Nat → Nat → Int64) × Nat
abbrev zl_K : Type := (Nat × List (Option Nat)) ⊕ (Nat × Nat × List Nat)
def zl_mk (a : Nat) : zl_K := .inl (1, [none, none, some (a + 1), some (a + 2)])
def zl_i (n : Nat) : zl_K := .inr (0, n, [])
def zl_mk3 (a : Nat) : List zl_K := [zl_mk a, zl_i 49, zl_i 7]
def zl_tr (a : Nat) : List zl_K := [.inl (6, [none, none, some (a + 1), some (a + 2), some (a + 3), some (a + 4), some (a + 5), some (a + 6), some (a + 7)]), zl_i 7, zl_i 7, zl_i 7, zl_i 7, zl_i 7, zl_i 7, zl_i 7]
def zl_t : List zl_K :=
  [.inl (7, [some 1, some 3, some 6, some 50, some 54, some 58, some 61, some 69, some 77, some 83, some 86]), .inl (5, [some 2, none]), zl_i 70] ++ zl_mk3 3 ++
  [.inl (0, [some 7, none, none]), .inr (3, 14, [8, 11, 14, 17, 20, 23, 26, 29, 32, 35, 38, 41, 44, 47])] ++
  zl_mk3 8 ++ zl_mk3 11 ++ zl_mk3 14 ++ zl_mk3 17 ++ zl_mk3 20 ++ zl_mk3 23 ++ zl_mk3 26 ++ zl_mk3 29 ++ zl_mk3 32 ++ zl_mk3 35 ++ zl_mk3 38 ++ zl_mk3 41 ++ zl_mk3 44 ++ zl_mk3 47 ++
  [.inl (8, [some 51, none])] ++ zl_mk3 51 ++ [.inl (8, [some 55, none])] ++ zl_mk3 55 ++ zl_mk3 58 ++ zl_tr 61 ++ zl_tr 69 ++
  [.inl (4, [some 78, some 79, some 80, some 81, none, some 82]), zl_i 7, zl_i 7, zl_i 7, zl_i 7, zl_i 128,
   .inl (3, [some 84, none, some 85]), zl_i 5040, .inr (1, 79, []), .inl (2, [some 87, none]), zl_i 4]
def zl (a : Nat) : zl_K := match zl_t[a]? with
  | some k => k
  | none => .inl (99, [])
def zl_f (f : Nat → Int32) : Nat → List (Option Nat) → List Value
  | _, [] => []
  | i, none :: r => .int (f i) :: zl_f f (i + 1) r
  | i, some k :: r => .ref k :: zl_f f (i + 1) r
def zl_c (k : zl_K) (f : Nat → Int32) (g : Nat → Int64) (c : zm_C) : Prop := match k with
  | .inl (cj, rs) => c = .inr (cj, zl_f f 0 rs)
  | .inr (0, n, _) => c = .inl (.int, n, .inl f)
  | .inr (1, n, _) => c = .inl (.long, n, .inr (.inl g))
  | .inr (2, n, _) => c = .inl (.boolean, n, .inl f)
  | .inr (_, n, rs) => ∃ p, c = .inl (.object RX1, n, .inr (.inr p)) ∧ ∀ i, i < n → p i = rs[i]?
def zv_rep (s : zv_S) (h : zm_H) : Prop := h.1 = 88 ∧ h.2.2.1 = 88 + s.2.2 ∧ h.2.2.2 = 6590 + 6 * s.2.2 ∧ ∀ a, a < 88 → zl_c (zl a) (s.1 a) (s.2.1 a) (h.2.1 a)
/-- a run of the pure machine over the typed memory -/
def VV (sc : Nat × (Nat → Int32)) (m i : Nat) (ls : zm_L) (st : List Value) (s : zv_S) (Q : zm_O → zv_S → Prop) : Prop :=
  ∀ h, zv_rep s h → ∃ (N : Nat) (r : zm_R) (t : zv_S), (∀ n, N ≤ n → zm_run sc n (m, i, ls, st, h) = some r) ∧ zv_rep t r.2 ∧ Q r.1 t
/-- a method called -/
def CC (sc : Nat × (Nat → Int32)) (m : Nat) (as : List Value) (s : zv_S) (Q : zm_O → zv_S → Prop) : Prop :=
  Nat.beq (zm_in (zm_ml m) as).length (zm_ml m) = true ∧ VV sc m 0 (zm_in (zm_ml m) as) [] s Q
def QI (P : Int32 → zv_S → Prop) : zm_O → zv_S → Prop := fun o t => ∃ x, o = .inl (some (.int x)) ∧ P x t
def QV (P : zv_S → Prop) : zm_O → zv_S → Prop := fun o t => o = .inl none ∧ P t
def QR (P : Nat → zv_S → Prop) : zm_O → zv_S → Prop := fun o t => ∃ x, o = .inl (some (.ref x)) ∧ P x t
def RI (sc : Nat × (Nat → Int32)) (m : Nat) (as : List Value) (s : zv_S) (x : Int32) (t : zv_S) : Prop := CC sc m as s (QI fun y u => y = x ∧ u = t)
def RV (sc : Nat × (Nat → Int32)) (m : Nat) (as : List Value) (s : zv_S) (t : zv_S) : Prop := CC sc m as s (QV fun u => u = t)
theorem VV.mono {sc : Nat × (Nat → Int32)} {m i : Nat} {ls : zm_L} {st : List Value} {s : zv_S} {Q Q' : zm_O → zv_S → Prop} (h : VV sc m i ls st s Q) (hQ : ∀ o t, Q o t → Q' o t) : VV sc m i ls st s Q' := fun H hr => by
  obtain ⟨N, r, t, h1, h2, h3⟩ := h H hr
  exact ⟨N, r, t, h1, h2, hQ _ _ h3⟩
theorem CC.mono {sc : Nat × (Nat → Int32)} {m : Nat} {as : List Value} {s : zv_S} {Q Q' : zm_O → zv_S → Prop} (h : CC sc m as s Q) (hQ : ∀ o t, Q o t → Q' o t) : CC sc m as s Q' := ⟨h.1, h.2.mono hQ⟩
theorem cc_of {sc : Nat × (Nat → Int32)} {m k : Nat} {as : List Value} {ls : zm_L} {s : zv_S} {Q : zm_O → zv_S → Prop} (hm : zm_ml m = k) (hl : zm_in k as = ls) (hn : Nat.beq ls.length k = true) (hv : VV sc m 0 ls [] s Q) : CC sc m as s Q := by
  subst hm
  subst hl
  exact ⟨hn, hv⟩
/-- one step that keeps the heap -/
theorem vv_p {sc : Nat × (Nat → Int32)} {m i i' : Nat} {ls ls' : zm_L} {st st' : List Value} {s : zv_S} {Q : zm_O → zv_S → Prop} {bp len a b c : Nat} {ins : Instr} {v : Int32} {w : Int64} {ts : List Nat} (hc : (zm_cd m)[i]? = some (bp, ins, len, a, b, c, v, w, ts))
    (hG : ∀ (E : zm_K) (h : zm_H), zv_rep s h → zm_G sc E m i ls st h ins a b c v w ts = E (m, i', ls', st', h)) (k : VV sc m i' ls' st' s Q) : VV sc m i ls st s Q := by
  intro h hr
  obtain ⟨N, r, t, h1, h2, h3⟩ := k h hr
  refine ⟨N + 1, r, t, fun n hn => ?_, h2, h3⟩
  obtain ⟨n, rfl⟩ : ∃ j, n = j + 1 := ⟨n - 1, by omega⟩
  show zm_F sc (zm_run sc n) (m, i, ls, st, h) = some r
  unfold zm_F
  simp only [hc]
  rw [hG _ h hr]
  exact h1 n (by omega)
/-- one step that writes -/
theorem vv_w {sc : Nat × (Nat → Int32)} {m i i' : Nat} {ls ls' : zm_L} {st st' : List Value} {s s' : zv_S} {Q : zm_O → zv_S → Prop} {bp len a b c : Nat} {ins : Instr} {v : Int32} {w : Int64} {ts : List Nat} (hc : (zm_cd m)[i]? = some (bp, ins, len, a, b, c, v, w, ts))
    (hG : ∀ (h : zm_H), zv_rep s h → ∃ h', zv_rep s' h' ∧ ∀ (E : zm_K), zm_G sc E m i ls st h ins a b c v w ts = E (m, i', ls', st', h')) (k : VV sc m i' ls' st' s' Q) : VV sc m i ls st s Q := by
  intro h hr
  obtain ⟨h', hr', hE⟩ := hG h hr
  obtain ⟨N, r, t, h1, h2, h3⟩ := k h' hr'
  refine ⟨N + 1, r, t, fun n hn => ?_, h2, h3⟩
  obtain ⟨n, rfl⟩ : ∃ j, n = j + 1 := ⟨n - 1, by omega⟩
  show zm_F sc (zm_run sc n) (m, i, ls, st, h) = some r
  unfold zm_F
  simp only [hc]
  rw [hE]
  exact h1 n (by omega)
/-- an end -/
theorem vv_e {sc : Nat × (Nat → Int32)} {m i : Nat} {ls : zm_L} {st : List Value} {s : zv_S} {Q : zm_O → zv_S → Prop} {bp len a b c : Nat} {ins : Instr} {v : Int32} {w : Int64} {ts : List Nat} {o : zm_O} (hc : (zm_cd m)[i]? = some (bp, ins, len, a, b, c, v, w, ts))
    (hG : ∀ (E : zm_K) (h : zm_H), zm_G sc E m i ls st h ins a b c v w ts = some (o, h)) (k : Q o s) : VV sc m i ls st s Q := by
  intro h hr
  refine ⟨1, (o, h), s, fun n hn => ?_, hr, k⟩
  obtain ⟨n, rfl⟩ : ∃ j, n = j + 1 := ⟨n - 1, by omega⟩
  show zm_F sc (zm_run sc n) (m, i, ls, st, h) = _
  unfold zm_F
  simp only [hc]
  rw [hG]
/-- an exception made and thrown -/
theorem vv_x {sc : Nat × (Nat → Int32)} {m i : Nat} {ls : zm_L} {s : zv_S} {Q : zm_O → zv_S → Prop} {bp len a b k0 c : Nat} {v : Int32} {w : Int64} {ts : List Nat} (hc : (zm_cd m)[i]? = some (bp, .new k0, len, a, b, c + 1, v, w, ts))
    (k : Q (.inr a) (s.1, s.2.1, s.2.2 + 1)) : VV sc m i ls [] s Q := by
  intro h hr
  refine ⟨1, (.inr a, zm_th h), (s.1, s.2.1, s.2.2 + 1), fun n hn => ?_, ?_, k⟩
  · obtain ⟨n, rfl⟩ : ∃ j, n = j + 1 := ⟨n - 1, by omega⟩
    show zm_F sc (zm_run sc n) (m, i, ls, [], h) = _
    unfold zm_F
    simp only [hc]
    rfl
  · obtain ⟨h1, h2, h3, h4⟩ := hr
    refine ⟨h1, ?_, ?_, h4⟩
    · show h.2.2.1 + 1 = 88 + (s.2.2 + 1)
      omega
    · show h.2.2.2 + 6 = 6590 + 6 * (s.2.2 + 1)
      omega
/-- a call: what the step does with what comes back -/
def zv_cal (sc : Nat × (Nat → Int32)) (m i : Nat) (ls : zm_L) (st : List Value) (s : zv_S) (ins : Instr) (a b c : Nat) (v : Int32) (w : Int64) (ts : List Nat) (as rest : List Value) : Prop :=
  ∀ (E : zm_K) (h : zm_H), zv_rep s h → zm_G sc E m i ls st h ins a b c v w ts = zm_rt c E m i ls rest (zm_call E a as h)
theorem vv_c {sc : Nat × (Nat → Int32)} {m i : Nat} {ls : zm_L} {st rest as : List Value} {s : zv_S} {Q Qc : zm_O → zv_S → Prop} {bp len a b c : Nat} {ins : Instr} {v : Int32} {w : Int64} {ts : List Nat} (hc : (zm_cd m)[i]? = some (bp, ins, len, a, b, c, v, w, ts))
    (hG : zv_cal sc m i ls st s ins a b c v w ts as rest) (hcall : CC sc a as s Qc)
    (k : ∀ o t, Qc o t → ∀ h', zv_rep t h' → ∃ (N : Nat) (r : zm_R) (t' : zv_S), (∀ n, N ≤ n → zm_rt c (zm_run sc n) m i ls rest (some (o, h')) = some r) ∧ zv_rep t' r.2 ∧ Q r.1 t') : VV sc m i ls st s Q := by
  intro h hr
  obtain ⟨hl, hv⟩ := hcall
  obtain ⟨N1, ⟨o, h'⟩, t, e1, e2, e3⟩ := hv h hr
  obtain ⟨N2, r, t', f1, f2, f3⟩ := k o t e3 h' e2
  refine ⟨N1 + N2 + 1, r, t', fun n hn => ?_, f2, f3⟩
  obtain ⟨n, rfl⟩ : ∃ j, n = j + 1 := ⟨n - 1, by omega⟩
  show zm_F sc (zm_run sc n) (m, i, ls, st, h) = some r
  unfold zm_F
  simp only [hc]
  rw [hG _ h hr]
  have e4 : zm_call (zm_run sc n) a as h = some (o, h') := by
    unfold zm_call
    rw [hl]
    exact e1 n (by omega)
  rw [e4]
  exact f1 n (by omega)
theorem vv_cI {sc : Nat × (Nat → Int32)} {m i : Nat} {ls : zm_L} {st rest as : List Value} {s : zv_S} {Q : zm_O → zv_S → Prop} {P : Int32 → zv_S → Prop} {bp len a b : Nat} {ins : Instr} {v : Int32} {w : Int64} {ts : List Nat} (hc : (zm_cd m)[i]? = some (bp, ins, len, a, b, 1, v, w, ts))
    (hG : zv_cal sc m i ls st s ins a b 1 v w ts as rest) (hcall : CC sc a as s (QI P)) (k : ∀ x t, P x t → VV sc m (i + 1) ls (.int x :: rest) t Q) : VV sc m i ls st s Q := by
  refine vv_c hc hG hcall ?_
  rintro o t ⟨x, rfl, hP⟩ h' hr
  obtain ⟨N, r, t', h1, h2, h3⟩ := k x t hP h' hr
  exact ⟨N, r, t', fun n hn => h1 n hn, h2, h3⟩
theorem vv_cV {sc : Nat × (Nat → Int32)} {m i : Nat} {ls : zm_L} {st rest as : List Value} {s : zv_S} {Q : zm_O → zv_S → Prop} {P : zv_S → Prop} {bp len a b : Nat} {ins : Instr} {v : Int32} {w : Int64} {ts : List Nat} (hc : (zm_cd m)[i]? = some (bp, ins, len, a, b, 0, v, w, ts))
    (hG : zv_cal sc m i ls st s ins a b 0 v w ts as rest) (hcall : CC sc a as s (QV P)) (k : ∀ t, P t → VV sc m (i + 1) ls rest t Q) : VV sc m i ls st s Q := by
  refine vv_c hc hG hcall ?_
  rintro o t ⟨rfl, hP⟩ h' hr
  obtain ⟨N, r, t', h1, h2, h3⟩ := k t hP h' hr
  exact ⟨N, r, t', fun n hn => h1 n hn, h2, h3⟩
theorem vv_cR {sc : Nat × (Nat → Int32)} {m i : Nat} {ls : zm_L} {st rest as : List Value} {s : zv_S} {Q : zm_O → zv_S → Prop} {P : Nat → zv_S → Prop} {bp len a b : Nat} {ins : Instr} {v : Int32} {w : Int64} {ts : List Nat} (hc : (zm_cd m)[i]? = some (bp, ins, len, a, b, 2, v, w, ts))
    (hG : zv_cal sc m i ls st s ins a b 2 v w ts as rest) (hcall : CC sc a as s (QR P)) (k : ∀ x t, P x t → VV sc m (i + 1) ls (.ref x :: rest) t Q) : VV sc m i ls st s Q := by
  refine vv_c hc hG hcall ?_
  rintro o t ⟨x, rfl, hP⟩ h' hr
  obtain ⟨N, r, t', h1, h2, h3⟩ := k x t hP h' hr
  exact ⟨N, r, t', fun n hn => h1 n hn, h2, h3⟩
/-- a callee that throws, in a method without handlers -/
theorem vv_cX {sc : Nat × (Nat → Int32)} {m i : Nat} {ls : zm_L} {st rest as : List Value} {s t : zv_S} {Q : zm_O → zv_S → Prop} {x : Nat} {bp len a b c : Nat} {ins : Instr} {v : Int32} {w : Int64} {ts : List Nat} (hc : (zm_cd m)[i]? = some (bp, ins, len, a, b, c, v, w, ts))
    (hG : zv_cal sc m i ls st s ins a b c v w ts as rest) (hcall : CC sc a as s (fun o u => o = .inr x ∧ u = t)) (hh : zm_ht m = []) (k : Q (.inr x) t) : VV sc m i ls st s Q := by
  refine vv_c hc hG hcall ?_
  rintro o u ⟨rfl, rfl⟩ h' hr
  refine ⟨0, (.inr x, h'), u, fun n _ => ?_, hr, k⟩
  have e1 : zm_hx (zm_run sc n) m i ls x h' = some (.inr x, h') := by
    unfold zm_hx
    rw [hh]
  match c with
  | 0 => exact e1
  | 1 => exact e1
  | n + 2 => exact e1
/-- .. and in one that catches it -/
theorem vv_cH {sc : Nat × (Nat → Int32)} {m i g kk : Nat} {ls : zm_L} {st rest as : List Value} {s t : zv_S} {Q : zm_O → zv_S → Prop} {x : Nat} {bp len a b c : Nat} {ins : Instr} {v : Int32} {w : Int64} {ts : List Nat} {tb : List (Nat × Nat × Nat × Nat × Nat)} (hc : (zm_cd m)[i]? = some (bp, ins, len, a, b, c, v, w, ts))
    (hG : zv_cal sc m i ls st s ins a b c v w ts as rest) (hcall : CC sc a as s (fun o u => o = .inr x ∧ u = t)) (hh : zm_ht m = tb) (hne : tb ≠ []) (hf : zm_fd tb i x = some (g, kk)) (k : VV sc m g (zm_s0 ls kk) [] t Q) : VV sc m i ls st s Q := by
  refine vv_c hc hG hcall ?_
  rintro o u ⟨rfl, rfl⟩ h' hr
  obtain ⟨N, r, t', h1, h2, h3⟩ := k h' hr
  refine ⟨N, r, t', fun n hn => ?_, h2, h3⟩
  have e1 : zm_hx (zm_run sc n) m i ls x h' = some r := by
    unfold zm_hx
    rw [hh]
    match tb, hne with
    | q :: qs, _ =>
      dsimp only
      rw [hf]
      exact h1 n hn
  match c with
  | 0 => exact e1
  | 1 => exact e1
  | n + 2 => exact e1
