/-! WHAT THE PURE MACHINE'S STATES SAY OF THE MACHINE'S: values by the addresses of the world's cells; the script is .float -/
def zs_v (b : Nat) (as : List Nat) (v w : Value) : Prop := match v with
  | .int x => w = .int x
  | .long x => w = .long x
  | .null => w = .null
  | .ref h => ∃ a, as[h]? = some a ∧ w = .ref a
  | .float _ => w = .ref b
  | _ => False
def zs_vs (b : Nat) (as : List Nat) : List Value → List Value → Prop
  | [], [] => True
  | v :: vs, w :: ws => zs_v b as v w ∧ zs_vs b as vs ws
  | _, _ => False
def zs_c (b : Nat) (as : List Nat) (tys : List (ClassId × FieldType)) (c : zm_C) (e : va_E) : Prop := match c with
  | .inl (ty, n, .inl f) => ∃ (cA : ClassId) (t : Nat), e = .inl (cA, n, .inl f) ∧ tys[t]? = some (cA, ty)
  | .inl (ty, n, .inr (.inl f)) => ∃ (cA : ClassId) (t : Nat), e = .inl (cA, n, .inr (.inl f)) ∧ tys[t]? = some (cA, ty)
  | .inl (ty, n, .inr (.inr f)) => ∃ (cA : ClassId) (t : Nat) (g : Nat → Option Nat), e = .inl (cA, n, .inr (.inr (.inr (.inr g)))) ∧ tys[t]? = some (cA, ty) ∧ ∀ i, match f i with
      | none => g i = none
      | some k => ∃ a, as[k]? = some a ∧ g i = some a
  | .inr (ci, fs) => ∃ gs, e = .inr (ci, gs) ∧ zs_vs b as fs gs
def zs_h (b : Nat) (ws : va_W) (tys : List (ClassId × FieldType)) (h : zm_H) : Prop := h.1 = ws.length ∧ ∀ (i : Nat) (q : Nat × va_E), ws[i]? = some q → zs_c b (ws.map Prod.fst) tys (h.2.1 i) q.2
def zs_l (b : Nat) (as : List Nat) (ls : zm_L) (rls : Array Slot) : Prop := rls.size = ls.length ∧ lv_wf rls ∧ ∀ (i : Nat) (v : Value), zm_lc ls i = some v → ∃ w, rls[i]? = some (.val w) ∧ zs_v b as v w
def zs_o (b : Nat) (as : List Nat) : Option Value → Option Value → Prop
  | none, none => True
  | some v, some w => zs_v b as v w
  | _, _ => False
theorem zs_px {as t : List Nat} {k a : Nat} (e : as[k]? = some a) : (as ++ t)[k]? = some a := by
  obtain ⟨h1, h2⟩ := List.getElem?_eq_some_iff.mp e
  rw [List.getElem?_append_left h1]
  exact e
theorem zs_v.ap {b : Nat} {as : List Nat} {v w : Value} (t : List Nat) (h : zs_v b as v w) : zs_v b (as ++ t) v w := by
  cases v with
  | ref k => obtain ⟨a, h1, h2⟩ := h; exact ⟨a, zs_px h1, h2⟩
  | int x => exact h
  | long x => exact h
  | null => exact h
  | float x => exact h
  | double x => exact h
  | retAddr x => exact h
theorem zs_vs.ap {b : Nat} {as : List Nat} (t : List Nat) : ∀ {vs ws : List Value}, zs_vs b as vs ws → zs_vs b (as ++ t) vs ws
  | [], [], _ => trivial
  | _ :: _, _ :: _, h => ⟨h.1.ap t, zs_vs.ap t h.2⟩
  | [], _ :: _, h => h.elim
  | _ :: _, [], h => h.elim
theorem zs_c.ap {b : Nat} {as : List Nat} {tys : List (ClassId × FieldType)} {c : zm_C} {e : va_E} (t : List Nat) (u : List (ClassId × FieldType)) (h : zs_c b as tys c e) : zs_c b (as ++ t) (tys ++ u) c e := by
  have hu : ∀ {k : Nat} {q : ClassId × FieldType}, tys[k]? = some q → (tys ++ u)[k]? = some q := by
    intro k q e
    obtain ⟨h1, h2⟩ := List.getElem?_eq_some_iff.mp e
    rw [List.getElem?_append_left h1]
    exact e
  match c, h with
  | .inl (ty, n, .inl f), h => obtain ⟨cA, k, h1, h2⟩ := h; exact ⟨cA, k, h1, hu h2⟩
  | .inl (ty, n, .inr (.inl f)), h => obtain ⟨cA, k, h1, h2⟩ := h; exact ⟨cA, k, h1, hu h2⟩
  | .inl (ty, n, .inr (.inr f)), h =>
    obtain ⟨cA, k, g, h1, h2, h3⟩ := h
    refine ⟨cA, k, g, h1, hu h2, fun i => ?_⟩
    have h4 := h3 i
    revert h4
    cases f i with
    | none => exact id
    | some z => rintro ⟨a, e1, e2⟩; exact ⟨a, zs_px e1, e2⟩
  | .inr (ci, fs), h => obtain ⟨gs, h1, h2⟩ := h; exact ⟨gs, h1, h2.ap t⟩
theorem zs_l.ap {b : Nat} {as : List Nat} {ls : zm_L} {rls : Array Slot} (t : List Nat) (h : zs_l b as ls rls) : zs_l b (as ++ t) ls rls :=
  ⟨h.1, h.2.1, fun i v hv => by obtain ⟨w, h1, h2⟩ := h.2.2 i v hv; exact ⟨w, h1, h2.ap t⟩⟩
theorem zs_vs.get {b : Nat} {as : List Nat} : ∀ {vs ws : List Value} {k : Nat} {v : Value}, zs_vs b as vs ws → vs[k]? = some v → ∃ w, ws[k]? = some w ∧ zs_v b as v w
  | [], [], _, _, _, h => by simp at h
  | a :: vs, c :: ws, 0, v, h, hk => by
    simp only [List.getElem?_cons_zero, Option.some.injEq] at hk
    subst hk
    exact ⟨c, rfl, h.1⟩
  | a :: vs, c :: ws, k + 1, v, h, hk => by
    simp only [List.getElem?_cons_succ] at hk ⊢
    exact zs_vs.get h.2 hk
  | [], _ :: _, _, _, h, _ => h.elim
  | _ :: _, [], _, _, h, _ => h.elim
theorem zs_vs.set {b : Nat} {as : List Nat} : ∀ {vs ws : List Value} (k : Nat) {v w : Value}, zs_vs b as vs ws → zs_v b as v w → zs_vs b as (vs.set k v) (ws.set k w)
  | [], [], _, _, _, _, _ => trivial
  | _ :: _, _ :: _, 0, _, _, h, hv => ⟨hv, h.2⟩
  | _ :: _, _ :: _, k + 1, _, _, h, hv => ⟨h.1, zs_vs.set k h.2 hv⟩
  | [], _ :: _, _, _, _, h, _ => h.elim
  | _ :: _, [], _, _, _, h, _ => h.elim
theorem zs_vs.len {b : Nat} {as : List Nat} : ∀ {vs ws : List Value}, zs_vs b as vs ws → vs.length = ws.length
  | [], [], _ => rfl
  | _ :: _, _ :: _, h => congrArg (· + 1) (zs_vs.len h.2)
  | [], _ :: _, h => h.elim
  | _ :: _, [], h => h.elim
theorem zs_vs.app {b : Nat} {as : List Nat} : ∀ {v1 w1 v2 w2 : List Value}, zs_vs b as v1 w1 → zs_vs b as v2 w2 → zs_vs b as (v1 ++ v2) (w1 ++ w2)
  | [], [], _, _, _, h => h
  | _ :: _, _ :: _, _, _, h1, h2 => ⟨h1.1, zs_vs.app h1.2 h2⟩
  | [], _ :: _, _, _, h, _ => h.elim
  | _ :: _, [], _, _, h, _ => h.elim
theorem zs_v.cat {b : Nat} {as : List Nat} {v w : Value} (h : zs_v b as v w) : v.category = w.category := by
  cases v with
  | ref k => obtain ⟨a, h1, rfl⟩ := h; rfl
  | int x => rw [show w = .int x from h]
  | long x => rw [show w = .long x from h]; 
  | null => rw [show w = .null from h]
  | float x => rw [show w = .ref b from h]; rfl
  | double x => exact h.elim
  | retAddr x => exact h.elim
theorem zs_vs.cat {b : Nat} {as : List Nat} : ∀ {vs ws : List Value}, zs_vs b as vs ws → (vs.map fun v => v.category).sum = (ws.map fun v => v.category).sum
  | [], [], _ => rfl
  | _ :: _, _ :: _, h => by simp only [List.map_cons, List.sum_cons]; rw [h.1.cat, zs_vs.cat h.2]
  | [], _ :: _, h => h.elim
  | _ :: _, [], h => h.elim
/-- the arguments off the stack -/
theorem zs_pa {b : Nat} {as : List Nat} : ∀ (n : Nat) (acc st racc rst : List Value) (q : List Value × List Value), zm_pa n acc st = some q → zs_vs b as acc racc → zs_vs b as st rst → ∃ pops rr, rst = pops ++ rr ∧ zs_vs b as q.1 (pops.reverse ++ racc) ∧ zs_vs b as q.2 rr ∧ pops.length = n
  | 0, acc, st, racc, rst, q, h, ha, hs => by
    simp only [zm_pa, Option.some.injEq] at h
    subst h
    exact ⟨[], rst, rfl, ha, hs, rfl⟩
  | n + 1, acc, [], racc, rst, q, h, ha, hs => by simp [zm_pa] at h
  | n + 1, acc, v :: st, racc, [], q, h, ha, hs => hs.elim
  | n + 1, acc, v :: st, racc, w :: rst, q, h, ha, hs => by
    simp only [zm_pa] at h
    obtain ⟨pops, rr, h1, h2, h3, h4⟩ := zs_pa n (v :: acc) st (w :: racc) rst q h ⟨hs.1, ha⟩ hs.2
    refine ⟨w :: pops, rr, by rw [h1]; rfl, ?_, h3, by simp [h4]⟩
    simpa using h2
theorem zs_sl_cons (v : Value) (vs : List Value) : lg_sl (v :: vs) = (if v.category = 2 then [.val v, .second] else [.val v]) ++ lg_sl vs := by
  simp [lg_sl]
theorem zs_ar (k : Nat) (v : Value) (vs : List Value) : lv_args k (v :: vs) = (k, v) :: lv_args (if v.category = 2 then k + 2 else k + 1) vs := rfl
/-- a method's first locals -/
theorem zs_fl {b : Nat} {as : List Nat} : ∀ (vs rvs : List Value), zs_vs b as vs rvs → (zm_fl vs).length = (lg_sl rvs).length ∧ ∀ (k i : Nat) (v : Value), (zm_fl vs)[i]? = some (some v) → ∃ w, (k + i, w) ∈ lv_args k rvs ∧ zs_v b as v w
  | [], [], _ => ⟨rfl, fun k i v h => by simp [zm_fl] at h⟩
  | [], _ :: _, h => h.elim
  | _ :: _, [], h => h.elim
  | v :: vs, w :: ws, h => by
    obtain ⟨h1, h2⟩ := zs_fl vs ws h.2
    have hc := h.1.cat
    by_cases h3 : w.category = 2
    · have e : zm_fl (v :: vs) = some v :: none :: zm_fl vs := by
        rw [h3] at hc
        cases v <;> first | rfl | (simp [Value.category] at hc)
      rw [e, zs_sl_cons, if_pos h3]
      refine ⟨by simp [h1], fun k i u hu => ?_⟩
      rw [zs_ar, if_pos h3]
      match i, hu with
      | 0, hu =>
        simp only [List.getElem?_cons_zero, Option.some.injEq] at hu
        subst hu
        exact ⟨w, List.mem_cons_self, h.1⟩
      | 1, hu => simp at hu
      | i + 2, hu =>
        simp only [List.getElem?_cons_succ] at hu
        obtain ⟨x, hx, hx2⟩ := h2 (k + 2) i u hu
        refine ⟨x, List.mem_cons_of_mem _ ?_, hx2⟩
        rw [show k + (i + 2) = k + 2 + i by omega]
        exact hx
    · have e : zm_fl (v :: vs) = some v :: zm_fl vs := by
        rw [← hc] at h3
        cases v <;> first | rfl | (exact absurd rfl h3)
      rw [e, zs_sl_cons, if_neg h3]
      refine ⟨by simp [h1], fun k i u hu => ?_⟩
      rw [zs_ar, if_neg h3]
      match i, hu with
      | 0, hu =>
        simp only [List.getElem?_cons_zero, Option.some.injEq] at hu
        subst hu
        exact ⟨w, List.mem_cons_self, h.1⟩
      | i + 1, hu =>
        simp only [List.getElem?_cons_succ] at hu
        obtain ⟨x, hx, hx2⟩ := h2 (k + 1) i u hu
        refine ⟨x, List.mem_cons_of_mem _ ?_, hx2⟩
        rw [show k + (i + 1) = k + 1 + i by omega]
        exact hx
theorem zs_in {b : Nat} {as : List Nat} {n : Nat} {vs rvs : List Value} (h : zs_vs b as vs rvs) (hl : (zm_in n vs).length = n) : (lg_sl rvs).length ≤ n ∧ ∀ (i : Nat) (v : Value), zm_lc (zm_in n vs) i = some v → ∃ w, (i, w) ∈ lv_args 0 rvs ∧ zs_v b as v w := by
  obtain ⟨h1, h2⟩ := zs_fl vs rvs h
  refine ⟨?_, fun i v hi => ?_⟩
  · rw [← h1]
    simp only [zm_in, List.length_append, List.length_replicate] at hl
    omega
  · have h3 : (zm_fl vs)[i]? = some (some v) := by
      simp only [zm_lc, zm_in] at hi
      rcases Nat.lt_or_ge i (zm_fl vs).length with h4 | h4
      · rw [List.getElem?_append_left h4] at hi
        cases h5 : (zm_fl vs)[i]? with
        | none => rw [h5] at hi; cases hi
        | some o => rw [h5] at hi; exact congrArg some hi
      · rw [List.getElem?_append_right h4] at hi
        split at hi
        · rename_i o ho
          rw [List.getElem?_replicate] at ho
          split at ho
          · cases ho; cases hi
          · cases ho
        · cases hi
    obtain ⟨w, hw, hv⟩ := h2 0 i v h3
    exact ⟨w, by simpa using hw, hv⟩
theorem zs_entry {b : Nat} {as : List Nat} {n : Nat} {vs rvs : List Value} (h : zs_vs b as vs rvs) (hl : (zm_in n vs).length = n) : zs_l b as (zm_in n vs) (lg_sl rvs ++ List.replicate (n - (lg_sl rvs).length) Slot.unset).toArray := by
  obtain ⟨h1, h2⟩ := zs_in h hl
  obtain ⟨e1, e2, e3⟩ := lv_entry rvs h1
  refine ⟨by rw [e1, hl], e2, fun i v hi => ?_⟩
  obtain ⟨w, hw, hv⟩ := h2 i v hi
  exact ⟨w, e3 _ hw, hv⟩
/-- all that a frame's locals hold, as a list -/
def zs_all (rls : Array Slot) : List (Nat × Value) := (List.range rls.size).filterMap fun (i : Nat) => match rls[i]? with
  | some (.val w) => some (i, w)
  | _ => none
theorem zs_all_mem {rls : Array Slot} {i : Nat} {w : Value} (h : rls[i]? = some (.val w)) : (i, w) ∈ zs_all rls := by
  refine List.mem_filterMap.mpr ⟨i, List.mem_range.mpr (Array.getElem?_eq_some_iff.mp h).1, ?_⟩
  rw [h]
theorem zs_all_has {rls : Array Slot} (hw : lv_wf rls) : lv_has rls rls.size (zs_all rls) := by
  refine ⟨rfl, hw, fun q hq => ?_⟩
  obtain ⟨i, -, h⟩ := List.mem_filterMap.mp hq
  split at h
  · rename_i w hw
    cases h
    exact hw
  · cases h
theorem zs_cut_len (ls : zm_L) (i : Nat) : (zm_cut ls i).length = ls.length := by
  unfold zm_cut
  split
  · rfl
  · split <;> simp
theorem zm_lc_set (ls : zm_L) (i j : Nat) (o : Option Value) : zm_lc (ls.set i o) j = if i = j ∧ i < ls.length then o else zm_lc ls j := by
  unfold zm_lc
  rw [List.getElem?_set]
  by_cases h : i = j
  · subst h
    by_cases h2 : i < ls.length
    · simp [h2]
    · simp [h2]
  · simp [h]
theorem zm_lc_cut {ls : zm_L} {i j : Nat} {v : Value} (h : zm_lc (zm_cut ls i) j = some v) : zm_lc ls j = some v ∧ ¬ (j + 1 = i ∧ v.category = 2) := by
  unfold zm_cut at h
  split at h
  · exact ⟨h, fun q => by omega⟩
  · rename_i i' k
    split at h
    · rename_i x hx
      rw [zm_lc_set] at h
      split at h
      · cases h
      · rename_i hn
        refine ⟨h, fun q => hn ⟨by omega, ?_⟩⟩
        unfold zm_lc at hx
        split at hx
        · rename_i o ho
          exact (List.getElem?_eq_some_iff.mp ho).1
        · cases hx
    · rename_i x hx
      rw [zm_lc_set] at h
      split at h
      · cases h
      · rename_i hn
        refine ⟨h, fun q => hn ⟨by omega, ?_⟩⟩
        unfold zm_lc at hx
        split at hx
        · rename_i o ho
          exact (List.getElem?_eq_some_iff.mp ho).1
        · cases hx
    · rename_i hx1 hx2
      refine ⟨h, fun q => ?_⟩
      obtain ⟨q1, q2⟩ := q
      have : j = k := by omega
      subst this
      cases v with
      | long x => exact hx1 x h
      | double x => exact hx2 x h
      | int x => simp [Value.category] at q2
      | float x => simp [Value.category] at q2
      | null => simp [Value.category] at q2
      | ref x => simp [Value.category] at q2
      | retAddr x => simp [Value.category] at q2
/-- one slot is written -/
theorem zs_l.put1 {b : Nat} {as : List Nat} {ls : zm_L} {rls rls' : Array Slot} {i : Nat} {v w : Value} (h : zs_l b as ls rls) (hv : zs_v b as v w) (h' : lv_has rls' rls.size ((i, w) :: (zs_all rls).filter (fun q => !(q.1 == i) && !(q.1 + 1 == i && q.2.category == 2)))) : zs_l b as (zm_s1 ls i v) rls' := by
  obtain ⟨e1, e2, e3⟩ := h'
  refine ⟨by rw [e1, h.1]; simp [zm_s1, zs_cut_len], e2, fun j u hu => ?_⟩
  unfold zm_s1 at hu
  rw [zm_lc_set] at hu
  split at hu
  · rename_i hj
    cases hu
    exact ⟨w, by have := e3 _ List.mem_cons_self; rw [← hj.1]; exact this, hv⟩
  · rename_i hj
    obtain ⟨h1, h2⟩ := zm_lc_cut hu
    obtain ⟨x, hx, hx2⟩ := h.2.2 j u h1
    have hji : ¬ j = i := by
      intro q
      subst q
      refine hj ⟨rfl, ?_⟩
      rw [zs_cut_len, ← h.1]
      exact (Array.getElem?_eq_some_iff.mp hx).1
    refine ⟨x, e3 (j, x) (List.mem_cons_of_mem _ (List.mem_filter.mpr ⟨zs_all_mem hx, ?_⟩)), hx2⟩
    rw [hx2.cat] at h2
    by_cases q : j + 1 = i
    · have : ¬ x.category = 2 := fun q2 => h2 ⟨q, q2⟩
      simp [hji, this]
    · simp [hji, q]
/-- a slot is lost -/
theorem zs_l.put0 {b : Nat} {as : List Nat} {ls : zm_L} {rls rls' : Array Slot} {i : Nat} {w : Value} (h : zs_l b as ls rls) (h' : lv_has rls' rls.size ((i, w) :: (zs_all rls).filter (fun q => !(q.1 == i) && !(q.1 + 1 == i && q.2.category == 2)))) : zs_l b as (zm_s0 ls i) rls' := by
  obtain ⟨e1, e2, e3⟩ := h'
  refine ⟨by rw [e1, h.1]; simp [zm_s0, zs_cut_len], e2, fun j u hu => ?_⟩
  unfold zm_s0 at hu
  rw [zm_lc_set] at hu
  split at hu
  · cases hu
  · rename_i hj
    obtain ⟨h1, h2⟩ := zm_lc_cut hu
    obtain ⟨x, hx, hx2⟩ := h.2.2 j u h1
    have hji : ¬ j = i := by
      intro q
      subst q
      refine hj ⟨rfl, ?_⟩
      rw [zs_cut_len, ← h.1]
      exact (Array.getElem?_eq_some_iff.mp hx).1
    refine ⟨x, e3 (j, x) (List.mem_cons_of_mem _ (List.mem_filter.mpr ⟨zs_all_mem hx, ?_⟩)), hx2⟩
    rw [hx2.cat] at h2
    by_cases q : j + 1 = i
    · have : ¬ x.category = 2 := fun q2 => h2 ⟨q, q2⟩
      simp [hji, this]
    · simp [hji, q]
/-- two slots are written -/
theorem zs_l.put2 {b : Nat} {as : List Nat} {ls : zm_L} {rls rls' : Array Slot} {i : Nat} {v w : Value} (h : zs_l b as ls rls) (hv : zs_v b as v w) (h' : lv_has rls' rls.size ((i, w) :: (zs_all rls).filter (fun q => !(q.1 == i) && (!(q.1 == i + 1) && !(q.1 + 1 == i && q.2.category == 2))))) : zs_l b as (zm_s2 ls i v) rls' := by
  obtain ⟨e1, e2, e3⟩ := h'
  refine ⟨by rw [e1, h.1]; simp [zm_s2, zs_cut_len], e2, fun j u hu => ?_⟩
  unfold zm_s2 at hu
  rw [zm_lc_set] at hu
  split at hu
  · cases hu
  rename_i hj1
  rw [zm_lc_set] at hu
  split at hu
  · rename_i hj
    cases hu
    exact ⟨w, by have := e3 _ List.mem_cons_self; rw [← hj.1]; exact this, hv⟩
  · rename_i hj
    obtain ⟨h1, h2⟩ := zm_lc_cut hu
    obtain ⟨x, hx, hx2⟩ := h.2.2 j u h1
    have hlt := (Array.getElem?_eq_some_iff.mp hx).1
    have hji : ¬ j = i := by
      intro q
      subst q
      refine hj ⟨rfl, ?_⟩
      rw [zs_cut_len, ← h.1]
      exact hlt
    have hji1 : ¬ j = i + 1 := by
      intro q
      subst q
      refine hj1 ⟨rfl, ?_⟩
      rw [List.length_set, zs_cut_len, ← h.1]
      exact hlt
    refine ⟨x, e3 (j, x) (List.mem_cons_of_mem _ (List.mem_filter.mpr ⟨zs_all_mem hx, ?_⟩)), hx2⟩
    rw [hx2.cat] at h2
    by_cases q : j + 1 = i
    · have : ¬ x.category = 2 := fun q2 => h2 ⟨q, q2⟩
      simp [hji, hji1, this]
    · simp [hji, hji1, q]
