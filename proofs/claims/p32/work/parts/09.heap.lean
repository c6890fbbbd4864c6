/-! .. and the instructions of the heap -/
theorem zs_at {ws : va_W} {o ad : Nat} (h : (ws.map Prod.fst)[o]? = some ad) : ∃ el, ws[o]? = some (ad, el) := by
  rw [List.getElem?_map] at h
  cases hw : ws[o]? with
  | none => rw [hw] at h; cases h
  | some q =>
    rw [hw] at h
    obtain ⟨a, e⟩ := q
    cases h
    exact ⟨e, rfl⟩
theorem zs_setmap {ws : va_W} {o ad : Nat} {e0 e1 : va_E} (h : ws[o]? = some (ad, e0)) : (ws.set o (ad, e1)).map Prod.fst = ws.map Prod.fst := by
  apply List.ext_getElem?
  intro i
  rw [List.getElem?_map, List.getElem?_map, List.getElem?_set]
  by_cases hi : o = i
  · subst hi
    have hlt : o < ws.length := (List.getElem?_eq_some_iff.mp h).1
    rw [h]
    simp [hlt]
  · simp [hi]
theorem zs_h.set {b : Nat} {ws : va_W} {tys : List (ClassId × FieldType)} {h : zm_H} {o ad : Nat} {e0 e1 : va_E} {c1 : zm_C} (hh : zs_h b ws tys h) (he : ws[o]? = some (ad, e0)) (hc : zs_c b (ws.map Prod.fst) tys c1 e1) : zs_h b (ws.set o (ad, e1)) tys (zm_u h o c1) := by
  refine ⟨by rw [List.length_set]; exact hh.1, fun i q hq => ?_⟩
  rw [zs_setmap he]
  rw [List.getElem?_set] at hq
  by_cases hi : o = i
  · subst hi
    have hlt : o < ws.length := (List.getElem?_eq_some_iff.mp he).1
    simp only [if_true, hlt] at hq
    cases hq
    simpa [zm_u] using hc
  · rw [if_neg hi] at hq
    have h1 := hh.2 i q hq
    have h2 : (zm_u h o c1).2.1 i = h.2.1 i := by
      simp only [zm_u]
      rw [if_neg (fun z => hi z.symm)]
    rw [h2]
    exact h1
theorem zs_h.push {b : Nat} {ws : va_W} {tys u : List (ClassId × FieldType)} {h : zm_H} {q : Nat} {e1 : va_E} {c1 : zm_C} {k : Nat} (hh : zs_h b ws tys h) (hc : zs_c b ((ws ++ [(q, e1)]).map Prod.fst) (tys ++ u) c1 e1) : zs_h b (ws ++ [(q, e1)]) (tys ++ u) (zm_nw h c1 k) := by
  refine ⟨by simp [zm_nw, hh.1], fun i z hz => ?_⟩
  rcases Nat.lt_or_ge i ws.length with hi | hi
  · rw [List.getElem?_append_left hi] at hz
    have h1 := hh.2 i z hz
    have h2 : (zm_nw h c1 k).2.1 i = h.2.1 i := by
      simp only [zm_nw]
      rw [if_neg (by rw [hh.1]; omega)]
    rw [h2, List.map_append]
    exact h1.ap _ _
  · rw [List.getElem?_append_right hi] at hz
    have h3 : i - ws.length = 0 := by
      have := (List.getElem?_eq_some_iff.mp hz).1
      simpa using this
    rw [h3] at hz
    cases hz
    have h2 : (zm_nw h c1 k).2.1 i = c1 := by
      simp only [zm_nw]
      rw [if_pos (by rw [hh.1]; omega)]
    rw [h2]
    exact hc
/-- an instruction of the heap: from its place to the next -/
def zs_SH (l : Launch) (b L : Nat) (xs : Nat → Int32) (m bp : Nat) (ls : zm_L) (st : List Value) (h : zm_H) (pc' : Nat) (st' : List Value) (h' : zm_H) (dc ds : Nat) : Prop :=
  (h'.2.2.1 = h.2.2.1 + dc ∧ h'.2.2.2 = h.2.2.2 + ds) ∧
  ∀ (p : Program) (e : Env) (R : Room) (s : State) (mid : MethodId) (args : Array Value) (below : List Frame) (meth : Method) (c : Code) (dC : Nat → ClassId) (dI : Nat → Nat → Nat) (A : Nat → Prop) (H : Heap) (locs : List Loc) (cells slots : Nat) (Q : State → Prop) (ws : va_W) (tys : List (ClassId × FieldType)) (rls : Array Slot) (rst : List Value),
    zs_X l p R s mid args meth c m b L xs A → zs_W b dC dI ws tys A s H locs h → zs_l b (ws.map Prod.fst) ls rls → ls.length = zm_ml m → zs_vs b (ws.map Prod.fst) st rst → cells + dc ≤ R.cells → slots + ds ≤ R.slots →
    (∀ (H' : Heap) (locs' : List Loc) (ws' : va_W) (tys' : List (ClassId × FieldType)) (rst' : List Value), zs_W b dC dI ws' tys' A s H' locs' h' → (∃ t0, ws'.map Prod.fst = ws.map Prod.fst ++ t0) → zs_vs b (ws'.map Prod.fst) st' rst' →
      W p l e R s mid args below meth c H' locs' (cells + dc) (slots + ds) Q (F0 mid pc' rls rst')) →
    W p l e R s mid args below meth c H locs cells slots Q (F0 mid bp rls rst)
theorem zs_heap {l : Launch} {b L : Nat} {xs : Nat → Int32} {m i i' bp pc' dc ds : Nat} {ls : zm_L} {st st' : List Value} {h h' : zm_H} {r : zm_R} (hp : zm_pc m i = some bp) (hp' : zm_pc m i' = some pc') (hs : zs_SH l b L xs m bp ls st h pc' st' h' dc ds) (hr : zs_S l b L xs m i' ls st' h' r) : zs_S l b L xs m i ls st h r := by
  obtain ⟨⟨d1, d2⟩, hs⟩ := hs
  obtain ⟨r1, r2, hr⟩ := hr
  refine ⟨by omega, by omega, ?_⟩
  intro p e R s mid args below meth c dC dI A H locs cells slots ws tys rls rst as0 kc ks mc ms pc X hT hW ha hl hml hv hpc h1 h2 h3 h4 h5 h6
  cases Option.some.inj (hp.symm.trans hpc)
  refine hs p e R s mid args below meth c dC dI A H locs cells slots _ ws tys rls rst X hW hl hml hv (by omega) (by omega) ?_
  intro H' locs' ws' tys' rst' hW' ha' hv'
  obtain ⟨t0, ht0⟩ := ha
  obtain ⟨t1, ht1⟩ := ha'
  refine hr p e R s mid args below meth c dC dI A H' locs' (cells + dc) (slots + ds) ws' tys' rls rst' as0 kc ks mc ms pc' X hT hW' ⟨t0 ++ t1, by rw [ht1, ht0, List.append_assoc]⟩ ?_ hml hv' hp' (by omega) (by omega) h3 h4 h5 h6
  rw [ht1]
  exact hl.ap _
theorem zc_clall : (vwCl.all fun q => (u_ws q.1 q.2.1 q.2.2).all fun w => decide (w ∈ lw_tbl) && goodWord w) = true := by decide +kernel
theorem zc_clin {ci : Nat} {q : vw_C} (h : vwCl[ci]? = some q) : ∀ w ∈ u_ws q.1 q.2.1 q.2.2, w ∈ zm_GW := by
  intro w hw
  have h1 := List.all_eq_true.mp (List.all_eq_true.mp zc_clall q (List.mem_of_getElem? h)) w hw
  simp only [Bool.and_eq_true, decide_eq_true_eq] at h1
  exact List.mem_filter.mpr h1
theorem zc_ty {ci : Nat} {q : vw_C} (h : vwCl[ci]? = some q) : (∀ k, k < q.2.2 → parseFieldDescriptor (q.2.1 k).2.2.1 = some (zm_ty ci k)) ∧ ∀ a, a < q.2.2 → ∀ b, b < q.2.2 → a ≠ b → (q.2.1 a).2.1 ≠ (q.2.1 b).2.1 := by
  match ci, h with
  | 0, h => cases h; exact ⟨tyX0_ok, nmX0⟩
  | 1, h => cases h; exact ⟨tyX1_ok, nmX1⟩
  | 2, h => cases h; exact ⟨tyX2_ok, nmX2⟩
  | 3, h => cases h; exact ⟨tyX3_ok, nmX3⟩
  | 4, h => cases h; exact ⟨tyX4_ok, nmX4⟩
  | 5, h => cases h; exact ⟨tyX5_ok, nmX5⟩
  | 6, h => cases h; exact ⟨tyX6_ok, nmX6⟩
  | 7, h => cases h; exact ⟨tyX7_ok, nmX7⟩
  | 8, h => cases h; exact ⟨tyX8_ok, nmX8⟩
  | n + 9, h => simp [vwCl] at h
section ZH
variable {l : Launch} {b L : Nat} {xs : Nat → Int32} {m bp : Nat} {ls : zm_L} {r : List Value} {h h' : zm_H} {o k0 a idx : Nat} {q : vw_C}
theorem zh_gI {x : Int32} (hci : vwCl[a]? = some q) (hk : k0 < q.2.2) (hw : Cond.fieldLink (zm_ow m) idx (q.2.1 k0).1 (q.2.1 k0).2.1 (q.2.1 k0).2.2.1 ∈ zm_GW) (hg : zm_gI h o a k0 = some x) (hd : decode (zm_by m) bp = .ok (.getfield idx, 3)) : zs_SH l b L xs m bp ls (.ref o :: r) h (bp + 3) (.int x :: r) h 0 0 := by
  refine ⟨⟨rfl, rfl⟩, ?_⟩
  intro p e R s mid args below meth c dC dI A H locs cells slots Q ws tys rls rst X hW hl hlen hv hc hs k
  obtain ⟨hx, hb, -, -, -, hown, -, hts, -⟩ := X
  obtain ⟨ad, w1, e1, h1, hv1⟩ := zs_ref hv
  subst e1
  obtain ⟨hP, hK, hD, hS, hh⟩ := id hW
  obtain ⟨el, he⟩ := zs_at h1
  have hcell := hh.2 o _ he
  unfold zm_gI at hg
  split at hg
  · rename_i cj fs hcj
    split at hg
    · rename_i hcc
      subst hcc
      split at hg
      · rename_i y hy
        cases hg
        rw [hcj] at hcell
        obtain ⟨gs, e2, h2⟩ := hcell
        dsimp only at e2
        subst e2
        obtain ⟨wv, hwv, hwv2⟩ := h2.get hy
        rw [show wv = .int x from hwv2] at hwv
        exact va_get (D := (dC, dI)) hx hb hts (zc_clin hci) hown hK hP o he hci k0 hk (hts _ hw) (fun _ h9 => h9) hwv hd (k H locs ws tys _ hW ⟨[], by simp⟩ (zs_mI hv1))
      · cases hg
    · cases hg
  · cases hg
theorem zh_gR {x : Nat} (hci : vwCl[a]? = some q) (hk : k0 < q.2.2) (hw : Cond.fieldLink (zm_ow m) idx (q.2.1 k0).1 (q.2.1 k0).2.1 (q.2.1 k0).2.2.1 ∈ zm_GW) (hg : zm_gR h o a k0 = some x) (hd : decode (zm_by m) bp = .ok (.getfield idx, 3)) : zs_SH l b L xs m bp ls (.ref o :: r) h (bp + 3) (.ref x :: r) h 0 0 := by
  refine ⟨⟨rfl, rfl⟩, ?_⟩
  intro p e R s mid args below meth c dC dI A H locs cells slots Q ws tys rls rst X hW hl hlen hv hc hs k
  obtain ⟨hx, hb, -, -, -, hown, -, hts, -⟩ := X
  obtain ⟨ad, w1, e1, h1, hv1⟩ := zs_ref hv
  subst e1
  obtain ⟨hP, hK, hD, hS, hh⟩ := id hW
  obtain ⟨el, he⟩ := zs_at h1
  have hcell := hh.2 o _ he
  unfold zm_gR at hg
  split at hg
  · rename_i cj fs hcj
    split at hg
    · rename_i hcc
      subst hcc
      split at hg
      · rename_i y hy
        cases hg
        rw [hcj] at hcell
        obtain ⟨gs, e2, h2⟩ := hcell
        dsimp only at e2
        subst e2
        obtain ⟨wv, hwv, z, hz, hwv2⟩ := h2.get hy
        rw [hwv2] at hwv
        exact va_get (D := (dC, dI)) hx hb hts (zc_clin hci) hown hK hP o he hci k0 hk (hts _ hw) (fun _ h9 => h9) hwv hd (k H locs ws tys _ hW ⟨[], by simp⟩ (zs_mR hz hv1))
      · cases hg
    · cases hg
  · cases hg
theorem zh_put {v : Value} (hci : vwCl[a]? = some q) (hk : k0 < q.2.2) (hw : Cond.fieldLink (zm_ow m) idx (q.2.1 k0).1 (q.2.1 k0).2.1 (q.2.1 k0).2.2.1 ∈ zm_GW)
    (hfin : (q.2.1 k0).2.2.2 = false ∨ ((zm_nm m).name = "<init>" ∧ (q.2.1 k0).1 = zm_ow m)) (hty : ∀ (as : List Nat) (w : Value), zs_v b as v w → narrow (zm_ty a k0) w = w ∧ fits (zm_ty a k0) w = true)
    (hg : zm_pt h o a k0 v = some h') (hd : decode (zm_by m) bp = .ok (.putfield idx, 3)) : zs_SH l b L xs m bp ls (v :: .ref o :: r) h (bp + 3) r h' 0 0 := by
  unfold zm_pt at hg
  split at hg
  · rename_i cj fs hcj
    split at hg
    · rename_i hcc
      subst hcc
      split at hg
      · rename_i hlt
        cases hg
        refine ⟨⟨rfl, rfl⟩, ?_⟩
        intro p e R s mid args below meth c dC dI A H locs cells slots Q ws tys rls rst X hW hl hlen hv hc hs k
        obtain ⟨hx, hb, -, -, -, hown, hin, hts, -⟩ := X
        match rst, hv with
        | [], hv => exact hv.elim
        | w :: rst, hv =>
          obtain ⟨hv0, hv⟩ := hv
          obtain ⟨ad, w1, e1, h1, hv1⟩ := zs_ref hv
          subst e1
          obtain ⟨hP, hK, hD, hS, hh⟩ := id hW
          obtain ⟨el, he⟩ := zs_at h1
          have hcell := hh.2 o _ he
          rw [hcj] at hcell
          obtain ⟨gs, e2, h2⟩ := hcell
          dsimp only at e2
          subst e2
          obtain ⟨t1, t2⟩ := hty _ _ hv0
          have hgl : k0 < gs.length := by rw [← h2.len]; exact hlt
          have fin : ∀ (H1 : Heap) (locs1 : List Loc), va_P (dC, dI) vwCl (ws.set o (ad, .inr (cj, gs.set k0 w))) H1 → va_D A (ws.set o (ad, .inr (cj, gs.set k0 w))) → va_S A s.heap H1 locs1 → W p l e R s mid args below meth c H1 locs1 cells slots Q (F0 mid (bp + 3) rls w1) := by
            intro H1 locs1 hP1 hD1 hS1
            refine k H1 locs1 _ tys _ ⟨hP1, hK, hD1, hS1, hh.set he ⟨_, rfl, h2.set k0 hv0⟩⟩ ⟨[], ?_⟩ ?_
            · rw [zs_setmap he, List.append_nil]
            · rw [zs_setmap he]
              exact hv1
          rcases hfin with hf | ⟨hf1, hf2⟩
          · exact va_put (D := (dC, dI)) hx hb hts (zc_clin hci) (zm_ty cj) (zc_ty hci).1 (zc_ty hci).2 hown hK hP hD hS o he hci k0 hk (hts _ hw) (fun _ h9 => h9) hf ((zc_ty hci).1 k0 hk) t1 t2 hgl hd fin
          · cases hfl : (q.2.1 k0).2.2.2 with
            | false => exact va_put (D := (dC, dI)) hx hb hts (zc_clin hci) (zm_ty cj) (zc_ty hci).1 (zc_ty hci).2 hown hK hP hD hS o he hci k0 hk (hts _ hw) (fun _ h9 => h9) hfl ((zc_ty hci).1 k0 hk) t1 t2 hgl hd fin
            | true => exact va_putF (D := (dC, dI)) hx hb hts (zc_clin hci) (zm_ty cj) (zc_ty hci).1 (zc_ty hci).2 hown hK hP hD hS o he hci k0 hk (hts _ hw) (fun _ h9 => h9) hfl (hin hf1) hf2 ((zc_ty hci).1 k0 hk) t1 t2 hgl hd fin
      · cases hg
    · cases hg
  · cases hg
end ZH
