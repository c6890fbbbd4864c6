/-! .. arrays, new cells, switches -/
theorem zm_ix_in {x : Int32} {n k : Nat} (h : zm_ix x n = some k) : vp_in x n ∧ k = x.toNatClampNeg := by
  unfold zm_ix at h
  split at h
  · cases h
  · rename_i h1
    split at h
    · rename_i h2
      cases h
      exact ⟨fun z => z.elim h1 (fun z => by omega), rfl⟩
    · cases h
theorem zm_ix_nn {x : Int32} {n k : Nat} (h : zm_ix x n = some k) : ¬ x < 0 ∧ x.toNatClampNeg = k ∧ k < n := by
  unfold zm_ix at h
  split at h
  · cases h
  · rename_i h1
    split at h
    · rename_i h2
      cases h
      exact ⟨h1, rfl, h2⟩
    · cases h
section ZA
variable {l : Launch} {b L : Nat} {xs : Nat → Int32} {m bp : Nat} {ls : zm_L} {r : List Value} {h h' : zm_H} {o idx : Nat} {q : vw_C}
theorem zh_iald {x : Int32} {y : Int32} (hg : zm_aI h o x = some y) (hd : decode (zm_by m) bp = .ok (.iaload, 1)) : zs_SH l b L xs m bp ls (.int x :: .ref o :: r) h (bp + 1) (.int y :: r) h 0 0 := by
  refine ⟨⟨rfl, rfl⟩, ?_⟩
  intro p e R s mid args below meth c dC dI A H locs cells slots Q ws tys rls rst X hW hl hlen hv hc hs k
  obtain ⟨hx, hb, -, -, -, hown, -, hts, hN, hXX, hbl, hbA, hA, -⟩ := X
  obtain ⟨w0, e0, hv0⟩ := zs_int hv
  obtain ⟨ad, w1, e1, h1, hv1⟩ := zs_ref hv0
  subst e1
  subst e0
  obtain ⟨hP, hK, hD, hS, hh⟩ := id hW
  obtain ⟨el, he⟩ := zs_at h1
  have hcell := hh.2 o _ he
  unfold zm_aI at hg
  split at hg
  · rename_i n f hcj
    rw [hcj] at hcell
    obtain ⟨cA, t, e2, ht⟩ := hcell
    dsimp only at e2
    subst e2
    obtain ⟨kk, hk1, hk2⟩ := Option.map_eq_some_iff.mp hg
    obtain ⟨i1, i2⟩ := zm_ix_in hk1
    subst i2
    subst hk2
    exact va_iald hx hb hK hP o t he ht i1 hd (k H locs ws tys _ hW ⟨[], by simp⟩ (zs_mI hv1))
  · cases hg
theorem zh_zald {x : Int32} {y : Int32} (hg : zm_aZ h o x = some y) (hd : decode (zm_by m) bp = .ok (.baload, 1)) : zs_SH l b L xs m bp ls (.int x :: .ref o :: r) h (bp + 1) (.int y :: r) h 0 0 := by
  refine ⟨⟨rfl, rfl⟩, ?_⟩
  intro p e R s mid args below meth c dC dI A H locs cells slots Q ws tys rls rst X hW hl hlen hv hc hs k
  obtain ⟨hx, hb, -, -, -, hown, -, hts, hN, hXX, hbl, hbA, hA, -⟩ := X
  obtain ⟨w0, e0, hv0⟩ := zs_int hv
  obtain ⟨ad, w1, e1, h1, hv1⟩ := zs_ref hv0
  subst e1
  subst e0
  obtain ⟨hP, hK, hD, hS, hh⟩ := id hW
  obtain ⟨el, he⟩ := zs_at h1
  have hcell := hh.2 o _ he
  unfold zm_aZ at hg
  split at hg
  · rename_i n f hcj
    rw [hcj] at hcell
    obtain ⟨cA, t, e2, ht⟩ := hcell
    dsimp only at e2
    subst e2
    obtain ⟨kk, hk1, hk2⟩ := Option.map_eq_some_iff.mp hg
    obtain ⟨i1, i2⟩ := zm_ix_in hk1
    subst i2
    subst hk2
    exact va_zald hx hb hK hP o t he ht i1 hd (k H locs ws tys _ hW ⟨[], by simp⟩ (zs_mI hv1))
  · cases hg
theorem zh_lald {x : Int32} {y : Int64} (hg : zm_aL h o x = some y) (hd : decode (zm_by m) bp = .ok (.laload, 1)) : zs_SH l b L xs m bp ls (.int x :: .ref o :: r) h (bp + 1) (.long y :: r) h 0 0 := by
  refine ⟨⟨rfl, rfl⟩, ?_⟩
  intro p e R s mid args below meth c dC dI A H locs cells slots Q ws tys rls rst X hW hl hlen hv hc hs k
  obtain ⟨hx, hb, -, -, -, hown, -, hts, hN, hXX, hbl, hbA, hA, -⟩ := X
  obtain ⟨w0, e0, hv0⟩ := zs_int hv
  obtain ⟨ad, w1, e1, h1, hv1⟩ := zs_ref hv0
  subst e1
  subst e0
  obtain ⟨hP, hK, hD, hS, hh⟩ := id hW
  obtain ⟨el, he⟩ := zs_at h1
  have hcell := hh.2 o _ he
  unfold zm_aL at hg
  split at hg
  · rename_i n f hcj
    rw [hcj] at hcell
    obtain ⟨cA, t, e2, ht⟩ := hcell
    dsimp only at e2
    subst e2
    obtain ⟨kk, hk1, hk2⟩ := Option.map_eq_some_iff.mp hg
    obtain ⟨i1, i2⟩ := zm_ix_in hk1
    subst i2
    subst hk2
    exact va_lald hx hb hK hP o t he ht i1 hd (k H locs ws tys _ hW ⟨[], by simp⟩ (zs_mL hv1))
  · cases hg
theorem zh_sld {x : Int32} {z : UInt32} {kk : Nat} (hg : zm_ix x L = some kk) (hd : decode (zm_by m) bp = .ok (.iaload, 1)) : zs_SH l b L xs m bp ls (.int x :: .float z :: r) h (bp + 1) (.int (xs kk) :: r) h 0 0 := by
  refine ⟨⟨rfl, rfl⟩, ?_⟩
  intro p e R s mid args below meth c dC dI A H locs cells slots Q ws tys rls rst X hW hl hlen hv hc hs k
  obtain ⟨hx, hb, -, -, -, hown, -, hts, hN, hXX, hbl, hbA, hA, -⟩ := X
  obtain ⟨w0, e0, hv0⟩ := zs_int hv
  obtain ⟨w1, e1, hv1⟩ := zs_flt hv0
  subst e1
  subst e0
  obtain ⟨hP, hK, hD, hS, hh⟩ := id hW
  obtain ⟨i1, i2⟩ := zm_ix_in hg
  subst i2
  exact va_sld hx hb hXX hbl hbA hS i1 hd (k H locs ws tys _ hW ⟨[], by simp⟩ (zs_mI hv1))
theorem zh_slen {z : UInt32} (hd : decode (zm_by m) bp = .ok (.arraylength, 1)) : zs_SH l b L xs m bp ls (.float z :: r) h (bp + 1) (.int (Int32.ofNat L) :: r) h 0 0 := by
  refine ⟨⟨rfl, rfl⟩, ?_⟩
  intro p e R s mid args below meth c dC dI A H locs cells slots Q ws tys rls rst X hW hl hlen hv hc hs k
  obtain ⟨hx, hb, -, -, -, hown, -, hts, hN, hXX, hbl, hbA, hA, -⟩ := X
  obtain ⟨w1, e1, hv1⟩ := zs_flt hv
  subst e1
  obtain ⟨hP, hK, hD, hS, hh⟩ := id hW
  exact va_slen hx hb hXX hbl hbA hS hd (k H locs ws tys _ hW ⟨[], by simp⟩ (zs_mI hv1))
theorem zh_alen {n : Nat} (hg : zm_ln h o = some n) (hd : decode (zm_by m) bp = .ok (.arraylength, 1)) : zs_SH l b L xs m bp ls (.ref o :: r) h (bp + 1) (.int (Int32.ofNat n) :: r) h 0 0 := by
  refine ⟨⟨rfl, rfl⟩, ?_⟩
  intro p e R s mid args below meth c dC dI A H locs cells slots Q ws tys rls rst X hW hl hlen hv hc hs k
  obtain ⟨hx, hb, -, -, -, hown, -, hts, hN, hXX, hbl, hbA, hA, -⟩ := X
  obtain ⟨ad, w1, e1, h1, hv1⟩ := zs_ref hv
  subst e1
  obtain ⟨hP, hK, hD, hS, hh⟩ := id hW
  obtain ⟨el, he⟩ := zs_at h1
  have hcell := hh.2 o _ he
  unfold zm_ln at hg
  split at hg
  · rename_i ty n0 f hcj
    cases hg
    rw [hcj] at hcell
    match f, hcell with
    | .inl f, hcell =>
      obtain ⟨cA, t, e2, ht⟩ := hcell
      dsimp only at e2
      subst e2
      exact va_alen hx hb hK hP o t he ht rfl hd (k H locs ws tys _ hW ⟨[], by simp⟩ (zs_mI hv1))
    | .inr (.inl f), hcell =>
      obtain ⟨cA, t, e2, ht⟩ := hcell
      dsimp only at e2
      subst e2
      exact va_alen hx hb hK hP o t he ht rfl hd (k H locs ws tys _ hW ⟨[], by simp⟩ (zs_mI hv1))
    | .inr (.inr f), hcell =>
      obtain ⟨cA, t, g, e2, ht, -⟩ := hcell
      dsimp only at e2
      subst e2
      exact va_alen hx hb hK hP o t he ht rfl hd (k H locs ws tys _ hW ⟨[], by simp⟩ (zs_mI hv1))
  · cases hg
theorem zh_aald {x : Int32} {y : Nat} (hg : zm_aR h o x = some y) (hd : decode (zm_by m) bp = .ok (.aaload, 1)) : zs_SH l b L xs m bp ls (.int x :: .ref o :: r) h (bp + 1) (.ref y :: r) h 0 0 := by
  refine ⟨⟨rfl, rfl⟩, ?_⟩
  intro p e R s mid args below meth c dC dI A H locs cells slots Q ws tys rls rst X hW hl hlen hv hc hs k
  obtain ⟨hx, hb, -, -, -, hown, -, hts, hN, hXX, hbl, hbA, hA, -⟩ := X
  obtain ⟨w0, e0, hv0⟩ := zs_int hv
  obtain ⟨ad, w1, e1, h1, hv1⟩ := zs_ref hv0
  subst e1
  subst e0
  obtain ⟨hP, hK, hD, hS, hh⟩ := id hW
  obtain ⟨el, he⟩ := zs_at h1
  have hcell := hh.2 o _ he
  unfold zm_aR at hg
  split at hg
  · rename_i C n f hcj
    rw [hcj] at hcell
    obtain ⟨cA, t, g, e2, ht, hfg⟩ := hcell
    dsimp only at e2
    subst e2
    obtain ⟨kk, hk1, hk2⟩ := Option.bind_eq_some_iff.mp hg
    obtain ⟨i1, i2⟩ := zm_ix_in hk1
    subst i2
    have h3 := hfg x.toNatClampNeg
    rw [hk2] at h3
    obtain ⟨z, hz, hz2⟩ := h3
    refine va_aldq hx hb hK hP o t he ht i1 hd ?_
    rw [hz2]
    exact k H locs ws tys _ hW ⟨[], by simp⟩ (zs_mR hz hv1)
  · cases hg
theorem zh_iast {x : Int32} {y : Int32} (hg : zm_sI h o x y = some h') (hd : decode (zm_by m) bp = .ok (.iastore, 1)) : zs_SH l b L xs m bp ls (.int y :: .int x :: .ref o :: r) h (bp + 1) r h' 0 0 := by
  unfold zm_sI at hg
  split at hg
  · rename_i n f hcj
    obtain ⟨kk, hk1, hk2⟩ := Option.map_eq_some_iff.mp hg
    obtain ⟨i1, i2⟩ := zm_ix_in hk1
    subst i2
    subst hk2
    refine ⟨⟨rfl, rfl⟩, ?_⟩
    intro p e R s mid args below meth c dC dI A H locs cells slots Q ws tys rls rst X hW hl hlen hv hc hs k
    obtain ⟨hx, hb, -, -, -, hown, -, hts, hN, hXX, hbl, hbA, hA, -⟩ := X
    obtain ⟨wq, eq, hvq⟩ := zs_int hv
    obtain ⟨w0, e0, hv0⟩ := zs_int hvq
    obtain ⟨ad, w1, e1, h1, hv2⟩ := zs_ref hv0
    subst e1
    subst e0
    subst eq
    obtain ⟨hP, hK, hD, hS, hh⟩ := id hW
    obtain ⟨el, he⟩ := zs_at h1
    have hcell := hh.2 o _ he
    rw [hcj] at hcell
    obtain ⟨cA, t, e2, ht⟩ := hcell
    dsimp only at e2
    subst e2
    refine va_iast hx hb hK hP hD hS o t he ht i1 hd fun H1 locs1 hP1 hD1 hS1 => ?_
    refine k H1 locs1 _ tys _ ⟨hP1, hK, hD1, hS1, hh.set he ⟨cA, t, rfl, ht⟩⟩ ⟨[], ?_⟩ ?_
    · rw [zs_setmap he, List.append_nil]
    · rw [zs_setmap he]
      exact hv2
  · cases hg
theorem zh_zast {x : Int32} {y : Int32} (hg : zm_sZ h o x y = some h') (hd : decode (zm_by m) bp = .ok (.bastore, 1)) : zs_SH l b L xs m bp ls (.int y :: .int x :: .ref o :: r) h (bp + 1) r h' 0 0 := by
  unfold zm_sZ at hg
  split at hg
  · rename_i n f hcj
    obtain ⟨kk, hk1, hk2⟩ := Option.map_eq_some_iff.mp hg
    obtain ⟨i1, i2⟩ := zm_ix_in hk1
    subst i2
    subst hk2
    refine ⟨⟨rfl, rfl⟩, ?_⟩
    intro p e R s mid args below meth c dC dI A H locs cells slots Q ws tys rls rst X hW hl hlen hv hc hs k
    obtain ⟨hx, hb, -, -, -, hown, -, hts, hN, hXX, hbl, hbA, hA, -⟩ := X
    obtain ⟨wq, eq, hvq⟩ := zs_int hv
    obtain ⟨w0, e0, hv0⟩ := zs_int hvq
    obtain ⟨ad, w1, e1, h1, hv2⟩ := zs_ref hv0
    subst e1
    subst e0
    subst eq
    obtain ⟨hP, hK, hD, hS, hh⟩ := id hW
    obtain ⟨el, he⟩ := zs_at h1
    have hcell := hh.2 o _ he
    rw [hcj] at hcell
    obtain ⟨cA, t, e2, ht⟩ := hcell
    dsimp only at e2
    subst e2
    refine va_zast hx hb hK hP hD hS o t he ht i1 hd fun H1 locs1 hP1 hD1 hS1 => ?_
    refine k H1 locs1 _ tys _ ⟨hP1, hK, hD1, hS1, hh.set he ⟨cA, t, rfl, ht⟩⟩ ⟨[], ?_⟩ ?_
    · rw [zs_setmap he, List.append_nil]
    · rw [zs_setmap he]
      exact hv2
  · cases hg
theorem zh_last {x : Int32} {y : Int64} (hg : zm_sL h o x y = some h') (hd : decode (zm_by m) bp = .ok (.lastore, 1)) : zs_SH l b L xs m bp ls (.long y :: .int x :: .ref o :: r) h (bp + 1) r h' 0 0 := by
  unfold zm_sL at hg
  split at hg
  · rename_i n f hcj
    obtain ⟨kk, hk1, hk2⟩ := Option.map_eq_some_iff.mp hg
    obtain ⟨i1, i2⟩ := zm_ix_in hk1
    subst i2
    subst hk2
    refine ⟨⟨rfl, rfl⟩, ?_⟩
    intro p e R s mid args below meth c dC dI A H locs cells slots Q ws tys rls rst X hW hl hlen hv hc hs k
    obtain ⟨hx, hb, -, -, -, hown, -, hts, hN, hXX, hbl, hbA, hA, -⟩ := X
    obtain ⟨wq, eq, hvq⟩ := zs_lng hv
    obtain ⟨w0, e0, hv0⟩ := zs_int hvq
    obtain ⟨ad, w1, e1, h1, hv2⟩ := zs_ref hv0
    subst e1
    subst e0
    subst eq
    obtain ⟨hP, hK, hD, hS, hh⟩ := id hW
    obtain ⟨el, he⟩ := zs_at h1
    have hcell := hh.2 o _ he
    rw [hcj] at hcell
    obtain ⟨cA, t, e2, ht⟩ := hcell
    dsimp only at e2
    subst e2
    refine va_last hx hb hK hP hD hS o t he ht i1 hd fun H1 locs1 hP1 hD1 hS1 => ?_
    refine k H1 locs1 _ tys _ ⟨hP1, hK, hD1, hS1, hh.set he ⟨cA, t, rfl, ht⟩⟩ ⟨[], ?_⟩ ?_
    · rw [zs_setmap he, List.append_nil]
    · rw [zs_setmap he]
      exact hv2
  · cases hg
theorem zh_aast {x : Int32} {y : Nat} (hg : zm_sR h o x y = some h') (hd : decode (zm_by m) bp = .ok (.aastore, 1)) : zs_SH l b L xs m bp ls (.ref y :: .int x :: .ref o :: r) h (bp + 1) r h' 0 0 := by
  unfold zm_sR at hg
  split at hg
  · rename_i C n f hcj
    split at hg
    · rename_i cy fy hcy
      split at hg
      · rename_i hcc
        obtain ⟨hc1, hc2⟩ := hcc
        subst hc1
        subst hc2
        obtain ⟨kk, hk1, hk2⟩ := Option.map_eq_some_iff.mp hg
        obtain ⟨i1, i2⟩ := zm_ix_in hk1
        subst i2
        subst hk2
        refine ⟨⟨rfl, rfl⟩, ?_⟩
        intro p e R s mid args below meth c dC dI A H locs cells slots Q ws tys rls rst X hW hl hlen hv hc hs k
        obtain ⟨hx, hb, -, -, -, hown, -, hts, hN, hXX, hbl, hbA, hA, -⟩ := X
        obtain ⟨ay, wq, eq, hy1, hvq⟩ := zs_ref hv
        obtain ⟨w0, e0, hv0⟩ := zs_int hvq
        obtain ⟨ad, w1, e1, h1, hv2⟩ := zs_ref hv0
        subst e1
        subst e0
        subst eq
        obtain ⟨hP, hK, hD, hS, hh⟩ := id hW
        obtain ⟨el, he⟩ := zs_at h1
        have hcell := hh.2 o _ he
        rw [hcj] at hcell
        obtain ⟨cA, t, g, e2, ht, hfg⟩ := hcell
        dsimp only at e2
        subst e2
        obtain ⟨ely, hey⟩ := zs_at hy1
        have hcelly := hh.2 y _ hey
        rw [hcy] at hcelly
        obtain ⟨gy, e3, hgy⟩ := hcelly
        dsimp only at e3
        subst e3
        refine va_astq (r := (RX1, TX1, 4)) hx hb hK hP hD hS o t y 1 he ht hey rfl i1 hd fun H1 locs1 hP1 hD1 hS1 => ?_
        refine k H1 locs1 _ tys _ ⟨hP1, hK, hD1, hS1, hh.set he ⟨cA, t, _, rfl, ht, fun i => ?_⟩⟩ ⟨[], ?_⟩ ?_
        · unfold va_up
          by_cases hi : i = x.toNatClampNeg
          · rw [if_pos hi, if_pos hi]
            exact ⟨ay, hy1, rfl⟩
          · rw [if_neg hi, if_neg hi]
            exact hfg i
        · rw [zs_setmap he, List.append_nil]
        · rw [zs_setmap he]
          exact hv2
      · cases hg
    · cases hg
  · cases hg
theorem zc_dsv : ((List.range 9).all fun a => (zm_ds a).all fun v => match v with
    | .int _ => true
    | .null => true
    | _ => false) = true := by decide +kernel
theorem zs_dsr {as : List Nat} : ∀ (vs : List Value), (vs.all fun v => match v with
    | .int _ => true
    | .null => true
    | _ => false) = true → zs_vs b as vs vs
  | [], _ => trivial
  | v :: vs, hv => by
    simp only [List.all_cons, Bool.and_eq_true] at hv
    refine ⟨?_, zs_dsr vs hv.2⟩
    have h1 := hv.1
    cases v <;> first | rfl | (simp at h1)
theorem zm_dsg {a j : Nat} (hj : j < (zm_cl a).2.2) : defaultValue (zm_ty a j) = vp_V (zm_ds a) j := by
  simp [vp_V, zm_ds, zm_df, hj]
theorem zh_new {a : Nat} (ha : a < 9) (hci : vwCl[a]? = some q) (hw0 : Cond.classLink (zm_ow m) idx q.1 ∈ zm_GW) (hw1 : Cond.instantiable q.1 q.2.2 ∈ zm_GW) (hw2 : Cond.initialized q.1 ∈ zm_GW) (hd : decode (zm_by m) bp = .ok (.new idx, 3)) : zs_SH l b L xs m bp ls r h (bp + 3) (.ref h.1 :: r) (zm_nw h (.inr (a, zm_ds a)) (zm_cl a).2.2) 1 (zm_cl a).2.2 := by
  refine ⟨⟨rfl, rfl⟩, ?_⟩
  intro p e R s mid args below meth c dC dI A H locs cells slots Q ws tys rls rst X hW hl hlen hv hc hs k
  obtain ⟨hx, hb, -, -, -, hown, -, hts, hN, hXX, hbl, hbA, hA, -⟩ := X
  obtain ⟨hP, hK, hD, hS, hh⟩ := id hW
  have hq : zm_cl a = q := by unfold zm_cl; rw [hci]
  have hj := @zm_dsg a
  rw [hq] at hj hs k
  refine va_new (fs := zm_ds a) hx hb hts (zc_clin hci) (zm_ty a) (zc_ty hci).1 hown (hts _ hw0) (hts _ hw1) (hts _ hw2) hK hP hD hS hA hci (fun j hj2 => hj hj2) hc hs hd fun q0 H1 hP1 hD1 hS1 => ?_
  have hds := List.all_eq_true.mp zc_dsv a (List.mem_range.mpr ha)
  refine k H1 locs _ (tys ++ []) _ ⟨hP1, by rw [List.append_nil]; exact hK, hD1, hS1, ?_⟩ ⟨[q0], by simp⟩ (zs_mR ?_ ?_)
  · exact hh.push ⟨_, rfl, zs_dsr _ hds⟩
  · rw [hh.1]
    simp
  · rw [List.map_append]
    exact hv.ap _
theorem zh_newI {x : Int32} {kk : Nat} {t : ArrayType} (ht : newarray.typeOf t = .int) (hg : zm_ix x 100001 = some kk) (hw : Cond.arrayClass (newarray.typeOf t) ∈ zm_GW) (hd : decode (zm_by m) bp = .ok (.newarray t, 2)) : zs_SH l b L xs m bp ls (.int x :: r) h (bp + 2) (.ref h.1 :: r) (zm_nw h (.inl (.int, kk, .inl fun _ => 0)) kk) 1 kk := by
  refine ⟨⟨rfl, rfl⟩, ?_⟩
  intro p e R s mid args below meth c dC dI A H locs cells slots Q ws tys rls rst X hW hl hlen hv hc hs k
  obtain ⟨hx, hb, -, -, -, hown, -, hts, hN, hXX, hbl, hbA, hA, -⟩ := X
  obtain ⟨w0, e0, hv0⟩ := zs_int hv
  subst e0
  obtain ⟨hP, hK, hD, hS, hh⟩ := id hW
  obtain ⟨i1, i2, i3⟩ := zm_ix_nn hg
  refine va_newa hx hb (hts _ hw) ht hK hP hD hS hA (a0 := (kk, .inl fun _ => 0)) (fun cA => rfl) i1 i2 (by simp only [componentBytes]; omega) hc hs hd fun q0 cA H1 hK1 hP1 hD1 hS1 => ?_
  refine k H1 locs _ (tys ++ [(cA, .int)]) _ ⟨hP1, hK1, hD1, hS1, hh.push ⟨cA, tys.length, rfl, by simp⟩⟩ ⟨[q0], by simp⟩ (zs_mR ?_ ?_)
  · rw [hh.1]
    simp
  · rw [List.map_append]
    exact hv0.ap _
theorem zh_newL {x : Int32} {kk : Nat} {t : ArrayType} (ht : newarray.typeOf t = .long) (hg : zm_ix x 100001 = some kk) (hw : Cond.arrayClass (newarray.typeOf t) ∈ zm_GW) (hd : decode (zm_by m) bp = .ok (.newarray t, 2)) : zs_SH l b L xs m bp ls (.int x :: r) h (bp + 2) (.ref h.1 :: r) (zm_nw h (.inl (.long, kk, .inr (.inl fun _ => 0))) kk) 1 kk := by
  refine ⟨⟨rfl, rfl⟩, ?_⟩
  intro p e R s mid args below meth c dC dI A H locs cells slots Q ws tys rls rst X hW hl hlen hv hc hs k
  obtain ⟨hx, hb, -, -, -, hown, -, hts, hN, hXX, hbl, hbA, hA, -⟩ := X
  obtain ⟨w0, e0, hv0⟩ := zs_int hv
  subst e0
  obtain ⟨hP, hK, hD, hS, hh⟩ := id hW
  obtain ⟨i1, i2, i3⟩ := zm_ix_nn hg
  refine va_newa hx hb (hts _ hw) ht hK hP hD hS hA (a0 := (kk, .inr (.inl fun _ => 0))) (fun cA => rfl) i1 i2 (by simp only [componentBytes]; omega) hc hs hd fun q0 cA H1 hK1 hP1 hD1 hS1 => ?_
  refine k H1 locs _ (tys ++ [(cA, .long)]) _ ⟨hP1, hK1, hD1, hS1, hh.push ⟨cA, tys.length, rfl, by simp⟩⟩ ⟨[q0], by simp⟩ (zs_mR ?_ ?_)
  · rw [hh.1]
    simp
  · rw [List.map_append]
    exact hv0.ap _
theorem zh_newZ {x : Int32} {kk : Nat} {t : ArrayType} (ht : newarray.typeOf t = .boolean) (hg : zm_ix x 100001 = some kk) (hw : Cond.arrayClass (newarray.typeOf t) ∈ zm_GW) (hd : decode (zm_by m) bp = .ok (.newarray t, 2)) : zs_SH l b L xs m bp ls (.int x :: r) h (bp + 2) (.ref h.1 :: r) (zm_nw h (.inl (.boolean, kk, .inl fun _ => 0)) kk) 1 kk := by
  refine ⟨⟨rfl, rfl⟩, ?_⟩
  intro p e R s mid args below meth c dC dI A H locs cells slots Q ws tys rls rst X hW hl hlen hv hc hs k
  obtain ⟨hx, hb, -, -, -, hown, -, hts, hN, hXX, hbl, hbA, hA, -⟩ := X
  obtain ⟨w0, e0, hv0⟩ := zs_int hv
  subst e0
  obtain ⟨hP, hK, hD, hS, hh⟩ := id hW
  obtain ⟨i1, i2, i3⟩ := zm_ix_nn hg
  refine va_newa hx hb (hts _ hw) ht hK hP hD hS hA (a0 := (kk, .inl fun _ => 0)) (fun cA => rfl) i1 i2 (by simp only [componentBytes]; omega) hc hs hd fun q0 cA H1 hK1 hP1 hD1 hS1 => ?_
  refine k H1 locs _ (tys ++ [(cA, .boolean)]) _ ⟨hP1, hK1, hD1, hS1, hh.push ⟨cA, tys.length, rfl, by simp⟩⟩ ⟨[q0], by simp⟩ (zs_mR ?_ ?_)
  · rw [hh.1]
    simp
  · rw [List.map_append]
    exact hv0.ap _
theorem zh_newq {x : Int32} {kk : Nat} (hg : zm_ix x 100001 = some kk) (hw : Cond.classLink (zm_ow m) idx RX1 ∈ zm_GW) (hd : decode (zm_by m) bp = .ok (.anewarray idx, 3)) : zs_SH l b L xs m bp ls (.int x :: r) h (bp + 3) (.ref h.1 :: r) (zm_nw h (.inl (.object RX1, kk, .inr (.inr fun _ => none))) kk) 1 kk := by
  refine ⟨⟨rfl, rfl⟩, ?_⟩
  intro p e R s mid args below meth c dC dI A H locs cells slots Q ws tys rls rst X hW hl hlen hv hc hs k
  obtain ⟨hx, hb, -, -, -, hown, -, hts, hN, hXX, hbl, hbA, hA, -⟩ := X
  obtain ⟨w0, e0, hv0⟩ := zs_int hv
  subst e0
  obtain ⟨hP, hK, hD, hS, hh⟩ := id hW
  obtain ⟨i1, i2, i3⟩ := zm_ix_nn hg
  refine va_newq hx hb hown (hts _ hw) hN.2.1 hK hP hD hS hA i1 i2 (by omega) hc hs hd fun q0 cA H1 hK1 hP1 hD1 hS1 => ?_
  refine k H1 locs _ (tys ++ [(cA, .object RX1)]) _ ⟨hP1, hK1, hD1, hS1, hh.push ⟨cA, tys.length, _, rfl, by simp, fun i => rfl⟩⟩ ⟨[q0], by simp⟩ (zs_mR ?_ ?_)
  · rw [hh.1]
    simp
  · rw [List.map_append]
    exact hv0.ap _
theorem zh_copy {s0 d0 : Nat} {sp dp n : Int32} (hg : zm_cp h s0 sp d0 dp n = some h') (hcs : (r.map fun v => v.category).sum ≤ 8) (hw0 : Cond.methodLink (zm_ow m) idx arraycopyName ∈ zm_GW) (hw1 : Cond.native arraycopyName ∈ zm_GW) (hw2 : Cond.static arraycopyName ∈ zm_GW) (hw3 : Cond.initialized "java/lang/System" ∈ zm_GW) (hf : 1 ≤ zm_rf m) (hlo : 40 ≤ zm_rl m)
    (hd : decode (zm_by m) bp = .ok (.invokestatic idx, 3)) : zs_SH l b L xs m bp ls (.int n :: .int dp :: .ref d0 :: .int sp :: .ref s0 :: r) h (bp + 3) r h' 0 0 := by
  unfold zm_cp at hg
  split at hg
  · rename_i n0 f n1 g hc0 hc1
    split at hg
    · cases hg
    · rename_i hneg
      split at hg
      · rename_i hin
        cases hg
        refine ⟨⟨rfl, rfl⟩, ?_⟩
        intro p e R s mid args below meth c dC dI A H locs cells slots Q ws tys rls rst X hW hl hlen hv hc hs k
        obtain ⟨hx, hb, -, -, hml, hown, -, hts, hN, hXX, hbl, hbA, hA, -, hrf, hrl⟩ := X
        obtain ⟨w0, e0, hv0⟩ := zs_int hv
        obtain ⟨w1, e1, hv1⟩ := zs_int hv0
        obtain ⟨ad, w2, e2, h2, hv2⟩ := zs_ref hv1
        obtain ⟨w3, e3, hv3⟩ := zs_int hv2
        obtain ⟨as, w4, e4, h4, hv4⟩ := zs_ref hv3
        subst e4
        subst e3
        subst e2
        subst e1
        subst e0
        obtain ⟨hP, hK, hD, hS, hh⟩ := id hW
        obtain ⟨el, he⟩ := zs_at h4
        obtain ⟨ek, hek⟩ := zs_at h2
        have hcell := hh.2 s0 _ he
        have hcelk := hh.2 d0 _ hek
        rw [hc0] at hcell
        rw [hc1] at hcelk
        obtain ⟨cA, t, e5, ht⟩ := hcell
        obtain ⟨cB, tb, e6, htb⟩ := hcelk
        dsimp only at e5 e6
        subst e5
        subst e6
        refine va_copyi hx hb (by rw [hml, ← hlen, ← hl.1]) hown (hts _ hw0) (hts _ hw1) (hts _ hw2) (hts _ hw3) hK hP hD hS s0 d0 t tb he hek ht htb rfl (fun z => hneg (Or.inl z)) (fun z => hneg (Or.inr (Or.inl z))) (fun z => hneg (Or.inr (Or.inr z))) hin.1 hin.2 (fun i hi => rfl) (Nat.le_trans hf hrf) ?_ hd fun H1 locs1 hP1 hD1 hS1 => ?_
        · have h9 : nativeFrameWords "java/lang/System" "arraycopy" 5 = 7 := by decide +kernel
          rw [h9, ← hv4.cat]
          omega
        · refine k H1 locs1 _ tys _ ⟨hP1, hK, hD1, hS1, hh.set hek ⟨cB, tb, rfl, htb⟩⟩ ⟨[], ?_⟩ ?_
          · rw [zs_setmap hek, List.append_nil]
          · rw [zs_setmap hek]
            exact hv4
      · cases hg
  · cases hg
theorem zh_min {x y : Int32} (hcs : (r.map fun v => v.category).sum ≤ 8) (hw0 : Cond.methodLink (zm_ow m) idx Lib.Math.min.name ∈ zm_GW) (hw1 : Cond.static Lib.Math.min.name ∈ zm_GW) (hw2 : Cond.initialized "java/lang/Math" ∈ zm_GW) (hw3 : Cond.code Lib.Math.min.name Lib.Math.min.code 2 (some .int) ∈ zm_GW) (hf : 1 ≤ zm_rf m) (hlo : 40 ≤ zm_rl m)
    (hd : decode (zm_by m) bp = .ok (.invokestatic idx, 3)) : zs_SH l b L xs m bp ls (.int y :: .int x :: r) h (bp + 3) (.int (if y < x then y else x) :: r) h 0 0 := by
  refine ⟨⟨rfl, rfl⟩, ?_⟩
  intro p e R s mid args below meth c dC dI A H locs cells slots Q ws tys rls rst X hW hl hlen hv hc hs k
  obtain ⟨hx, hb, -, -, hml, hown, -, hts, hN, hXX, hbl, hbA, hA, -, hrf, hrl⟩ := X
  obtain ⟨w0, e0, hv0⟩ := zs_int hv
  obtain ⟨w1, e1, hv1⟩ := zs_int hv0
  subst e1
  subst e0
  refine va_mmin hx hb (by rw [hml, ← hlen, ← hl.1]) hown (hts _ hw0) (hts _ hw1) (hts _ hw2) (hts _ hw3) (Nat.le_trans hf hrf) ?_ hc hs hd (k H locs ws tys _ hW ⟨[], by simp⟩ (zs_mI hv1))
  rw [← hv1.cat]
  omega
end ZA
theorem zt_obj {l : Launch} {b L : Nat} {xs : Nat → Int32} {m bp : Nat} {ls : zm_L} {r : List Value} {o idx : Nat} (hcs : (r.map fun v => v.category).sum ≤ 8) (hw0 : Cond.methodLink (zm_ow m) idx Lib.objectInit ∈ zm_GW) (hw1 : Cond.instanceMethod Lib.objectInit ∈ zm_GW) (hw2 : Cond.code Lib.objectInit ⟨#[0xb1]⟩ 1 none ∈ zm_GW) (hf : 1 ≤ zm_rf m) (hlo : 20 ≤ zm_rl m) (hd : decode (zm_by m) bp = .ok (.invokespecial idx, 3)) : zs_ST l b L xs m bp ls (.ref o :: r) ls (bp + 3) r := by
  intro p e R s mid args below meth c A H locs cells slots Q as rls rst X hS hl hlen hv
  obtain ⟨hx, hb, -, -, hml, hown, -, hts, hN, hXX, hbl, hbA, hA, -, hrf, hrl⟩ := X
  obtain ⟨ad, w1, e1, h1, hv1⟩ := zs_ref hv
  subst e1
  refine ⟨_, hv1, fun k => W.objInit hx hb hown (hts _ hw0) (hts _ hw1) (hts _ hw2) rfl (by rw [hml, ← hlen]; exact hl.1) rfl hd (Nat.le_trans hf hrf) ?_ (k rls hl)⟩
  have h2 := lv_room (m := mid) (pc := bp) (ls := rls) (rest := .ref ad :: w1) (st := w1) (by rw [← hv1.cat]; exact hcs)
  omega
theorem zc_swat {m bp : Nat} : ∀ (ts : List Nat) (os : List Int) (j : Nat) (o : Int), zc_sw m bp ts os = true → os[j]? = some o → ∃ t, ts[j]? = some t ∧ zc_tg m t bp o = true
  | [], [], j, o, _, h => by simp at h
  | t :: ts, x :: os, 0, o, h, h2 => by
    simp only [zc_sw, Bool.and_eq_true] at h
    simp only [List.getElem?_cons_zero, Option.some.injEq] at h2
    subst h2
    exact ⟨t, rfl, h.1⟩
  | t :: ts, x :: os, j + 1, o, h, h2 => by
    simp only [zc_sw, Bool.and_eq_true] at h
    simp only [List.getElem?_cons_succ] at h2 ⊢
    exact zc_swat ts os j o h.2 h2
  | [], _ :: _, j, o, h, _ => by simp [zc_sw] at h
  | _ :: _, [], j, o, h, _ => by simp [zc_sw] at h
theorem zc_swlen {m bp : Nat} : ∀ (ts : List Nat) (os : List Int), zc_sw m bp ts os = true → ts.length = os.length
  | [], [], _ => rfl
  | t :: ts, x :: os, h => by
    simp only [zc_sw, Bool.and_eq_true] at h
    simp [zc_swlen ts os h.2]
  | [], _ :: _, h => by simp [zc_sw] at h
  | _ :: _, [], h => by simp [zc_sw] at h
theorem zc_tgt {m t bp : Nat} {off : Int} (h : zc_tg m t bp off = true) : ∃ pc, zm_pc m t = some pc ∧ (bp : Int) + off = (pc : Int) := by
  unfold zc_tg at h
  split at h
  · rename_i e he
    exact ⟨e.1, by unfold zm_pc; rw [he], by simpa using h⟩
  · cases h
theorem zt_sw {l : Launch} {b L : Nat} {xs : Nat → Int32} {m bp : Nat} {ls : zm_L} {r : List Value} {d lo hi : Int} {os : Array Int} {len a : Nat} {v x : Int32} {ts : List Nat} (h1 : zc_tg m a bp d = true) (h2 : zc_sw m bp ts os.toList = true) (h3 : lo = v.toInt) (h4 : hi = v.toInt + (ts.length : Int) - 1)
    (hd : decode (zm_by m) bp = .ok (.tableswitch d lo hi os, len)) : ∃ pc, zm_pc m (zm_sw ts a v x) = some pc ∧ zs_ST l b L xs m bp ls (.int x :: r) ls pc r := by
  subst h3
  subst h4
  have hlen := zc_swlen _ _ h2
  unfold zm_sw
  by_cases c1 : x.toInt < v.toInt
  · rw [if_pos c1]
    obtain ⟨pc, e1, e2⟩ := zc_tgt h1
    refine ⟨pc, e1, ?_⟩
    intro p e R s mid args below meth c A H locs cells slots Q as rls rst X hS hl hlen hv
    obtain ⟨hx, hb, -⟩ := X
    obtain ⟨w0, e0, hv0⟩ := zs_int hv
    subst e0
    exact ⟨_, hv0, fun k => lv_tableOut hx hb hd (Or.inl c1) e2 (k rls hl)⟩
  · rw [if_neg c1]
    rcases Nat.lt_or_ge (x.toInt - v.toInt).toNat ts.length with c2 | c2
    · have hj : os.toList[(x.toInt - v.toInt).toNat]? = some (os.toList[(x.toInt - v.toInt).toNat]'(by rw [← hlen]; exact c2)) := List.getElem?_eq_getElem _
      obtain ⟨t, t1, t2⟩ := zc_swat _ _ _ _ h2 hj
      rw [t1]
      obtain ⟨pc, e1, e2⟩ := zc_tgt t2
      refine ⟨pc, e1, ?_⟩
      intro p e R s mid args below meth c A H locs cells slots Q as rls rst X hS hl hlen2 hv
      obtain ⟨hx, hb, -⟩ := X
      obtain ⟨w0, e0, hv0⟩ := zs_int hv
      subst e0
      refine ⟨_, hv0, fun k => lv_tableIn hx hb hd c1 (by omega) ?_ e2 (k rls hl)⟩
      rw [← hj, Array.getElem?_toList]
    · have hj : ts[(x.toInt - v.toInt).toNat]? = none := List.getElem?_eq_none c2
      rw [hj]
      obtain ⟨pc, e1, e2⟩ := zc_tgt h1
      refine ⟨pc, e1, ?_⟩
      intro p e R s mid args below meth c A H locs cells slots Q as rls rst X hS hl hlen hv
      obtain ⟨hx, hb, -⟩ := X
      obtain ⟨w0, e0, hv0⟩ := zs_int hv
      subst e0
      exact ⟨_, hv0, fun k => lv_tableOut hx hb hd (Or.inr (by omega)) e2 (k rls hl)⟩
