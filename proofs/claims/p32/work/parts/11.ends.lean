/-! .. returns, throws, what the tables say at an index -/
section ZR
variable {l : Launch} {b L : Nat} {xs : Nat → Int32} {m i bp : Nat} {ls : zm_L} {h : zm_H}
theorem zr_i {x : Int32} {ty : FieldType} (hp : zm_pc m i = some bp) (hr : zm_re m = some ty) (hn : narrow ty (.int x) = .int x) (hd : decode (zm_by m) bp = .ok (.ireturn, 1)) : zs_S l b L xs m i ls [.int x] h (.inl (some (.int x)), h) := by
  refine ⟨Nat.le_refl _, Nat.le_refl _, ?_⟩
  intro p e R s mid args below meth c dC dI A H locs cells slots ws tys rls rst as0 kc ks mc ms pc X hT hW ha hl hml hv hpc h1 h2 h3 h4 h5 h6
  cases Option.some.inj (hp.symm.trans hpc)
  obtain ⟨hx, hb, hre, hlk, -⟩ := X
  obtain ⟨w0, e0, hv0⟩ := zs_int hv
  cases zs_nil hv0
  subst e0
  dsimp only at h3 h4
  obtain rfl : cells = mc := by omega
  obtain rfl : slots = ms := by omega
  obtain ⟨hP, hK, hD, hS, hh⟩ := hW
  exact vx_ret (W.zret hx hb (hre.trans hr) hn (fun t ht hWt => ⟨⟨some (.int x), some (.int x), ws, tys, rfl, rfl, rfl, ha, by rw [ht]; exact hP, va_K.moved hWt.alike hK, hD, hh⟩, hS.F ht⟩) hS.2.2 hd)
theorem zr_v (hp : zm_pc m i = some bp) (hr : zm_re m = none) (hd : decode (zm_by m) bp = .ok (.return_, 1)) : zs_S l b L xs m i ls [] h (.inl none, h) := by
  refine ⟨Nat.le_refl _, Nat.le_refl _, ?_⟩
  intro p e R s mid args below meth c dC dI A H locs cells slots ws tys rls rst as0 kc ks mc ms pc X hT hW ha hl hml hv hpc h1 h2 h3 h4 h5 h6
  cases Option.some.inj (hp.symm.trans hpc)
  obtain ⟨hx, hb, hre, hlk, -⟩ := X
  cases zs_nil hv
  dsimp only at h3 h4
  obtain rfl : cells = mc := by omega
  obtain rfl : slots = ms := by omega
  obtain ⟨hP, hK, hD, hS, hh⟩ := hW
  exact vx_ret (W.vret hx hb (hre.trans hr) (fun t ht hWt => ⟨⟨none, none, ws, tys, rfl, rfl, trivial, ha, by rw [ht]; exact hP, va_K.moved hWt.alike hK, hD, hh⟩, hS.F ht⟩) hS.2.2 hd)
theorem zr_a {x : Nat} {n : String} (hp : zm_pc m i = some bp) (hr : zm_re m = some (.object n)) (hd : decode (zm_by m) bp = .ok (.areturn, 1)) : zs_S l b L xs m i ls [.ref x] h (.inl (some (.ref x)), h) := by
  refine ⟨Nat.le_refl _, Nat.le_refl _, ?_⟩
  intro p e R s mid args below meth c dC dI A H locs cells slots ws tys rls rst as0 kc ks mc ms pc X hT hW ha hl hml hv hpc h1 h2 h3 h4 h5 h6
  cases Option.some.inj (hp.symm.trans hpc)
  obtain ⟨hx, hb, hre, hlk, -⟩ := X
  obtain ⟨ad, w0, e0, ha1, hv0⟩ := zs_ref hv
  cases zs_nil hv0
  subst e0
  dsimp only at h3 h4
  obtain rfl : cells = mc := by omega
  obtain rfl : slots = ms := by omega
  obtain ⟨hP, hK, hD, hS, hh⟩ := hW
  exact vx_ret (W.aret hx hb (hre.trans hr) (Or.inl ⟨n, rfl⟩) (Or.inr ⟨ad, rfl⟩) (fun t ht hWt => ⟨⟨some (.ref x), some (.ref ad), ws, tys, rfl, rfl, ⟨ad, ha1, rfl⟩, ha, by rw [ht]; exact hP, va_K.moved hWt.alike hK, hD, hh⟩, hS.F ht⟩) hS.2.2 hd)
abbrev zm_sup : List String := ["java/lang/RuntimeException", "java/lang/Exception"]
theorem zd_drop {α : Type} (A : List α) (x : α) (t : List α) : (A ++ x :: t).drop (A.length + 1) = t := by
  induction A with
  | nil => rfl
  | cons a A ih => simpa using ih
/-- the words of a throw but the link of the site -/
def zc_rest (X : String) : List Cond := ((Bundle.throwableAtoms ++ Bundle.throwableSAtoms ++ Bundle.chainSAtoms X zm_sup) ++ ((Bundle.ownAtoms RX7 0 X zm_sup).drop ((Bundle.throwableAtoms ++ Bundle.throwableSAtoms ++ Bundle.chainSAtoms X zm_sup).length + 1))).filter vx_no
theorem zc_atS {ic : Nat} {X : String} {w : Cond} (h : w ∈ vx_atS RX7 ic X zm_sup) : w = .methodLink RX7 ic (Bundle.initS X) ∨ w ∈ zc_rest X := by
  unfold vx_atS at h
  unfold zc_rest
  obtain ⟨h1, h2⟩ := List.mem_filter.mp h
  unfold Bundle.ownAtoms at h1
  rcases List.mem_append.mp h1 with h3 | h3
  · exact Or.inr (List.mem_filter.mpr ⟨List.mem_append_left _ h3, h2⟩)
  · rcases List.mem_cons.mp h3 with h4 | h4
    · exact Or.inl h4
    · refine Or.inr (List.mem_filter.mpr ⟨List.mem_append_right _ ?_, h2⟩)
      unfold Bundle.ownAtoms
      rw [zd_drop]
      exact h4
def zc_tw (X : String) (w : Cond) : Bool := (((decide (w ∈ lw_tbl)) && goodWord w) || decide (w = .castable X X) || zm_dcl.any fun x => decide (w = .declares x)) && vx_ot w
theorem zc_tw0 : ((zc_rest (zm_ex 0)).all (zc_tw (zm_ex 0))) = true := by decide +kernel
theorem zc_tw1 : ((zc_rest (zm_ex 1)).all (zc_tw (zm_ex 1))) = true := by decide +kernel
theorem zc_tw2 : ((zc_rest (zm_ex 2)).all (zc_tw (zm_ex 2))) = true := by decide +kernel
theorem zc_twa {a : Nat} (ha : a < 3) : ∀ w ∈ zc_rest (zm_ex a), zc_tw (zm_ex a) w = true := by
  match a, ha with
  | 0, _ => exact List.all_eq_true.mp zc_tw0
  | 1, _ => exact List.all_eq_true.mp zc_tw1
  | 2, _ => exact List.all_eq_true.mp zc_tw2
  | n + 3, h => omega
theorem zc_fit {a : Nat} (ha : a < 3) : Bundle.fit (zm_ex a) = true := by
  match a, ha with
  | 0, _ => decide +kernel
  | 1, _ => decide +kernel
  | 2, _ => decide +kernel
  | n + 3, h => omega
theorem zc_fits : ∀ n ∈ zm_sup, Bundle.fit n = true := by decide +kernel
theorem zs_words {p : Program} {R : Room} {s : State} {mid : MethodId} {args : Array Value} {meth : Method} {c : Code} {A : Nat → Prop} {a ic : Nat} (X : zs_X l p R s mid args meth c m b L xs A) (ha : a < 3) (hw : Cond.methodLink RX7 ic (Bundle.initS (zm_ex a)) ∈ zm_GW) : ∀ w ∈ vx_atS RX7 ic (zm_ex a) zm_sup, w.before args s = true ∧ vx_ot w = true := by
  obtain ⟨-, -, -, -, -, -, -, hts, hN, -⟩ := X
  intro w hw1
  have hg : ∀ w ∈ zm_GW, vx_ot w = true := fun w h => by
    have := (List.mem_filter.mp h).2
    simp [vx_ot, this]
  rcases zc_atS hw1 with h | h
  · subst h
    exact ⟨hts _ hw, hg _ hw⟩
  · have h2 := zc_twa ha w h
    simp only [zc_tw, Bool.or_eq_true, Bool.and_eq_true, decide_eq_true_eq] at h2
    obtain ⟨h2, h3⟩ := h2
    refine ⟨?_, h3⟩
    rcases h2 with (h2 | h2) | h2
    · exact hts _ (List.mem_filter.mpr h2)
    · subst h2
      exact va_Nw.use rfl (hN.2.2.2.1 a ha)
    · obtain ⟨x, hx1, hx2⟩ := List.any_eq_true.mp h2
      simp only [decide_eq_true_eq] at hx2
      subst hx2
      exact va_Nw.use rfl (hN.2.2.2.2.2.2.2 x hx1)
theorem zr_throw {ik is ic si wd a : Nat} (hp : zm_pc m i = some bp) (ha3 : a < 3) (how : zm_ow m = RX7) (hhh : zm_hh m = []) (htx : (zm_tx[si]?).map (fun q => q.1) = some is) (hw0 : Cond.classLink (zm_ow m) ik (zm_ex a) ∈ zm_GW) (hw1 : Cond.initialized (zm_ex a) ∈ zm_GW) (hw2 : Cond.methodLink (zm_ow m) ic (Bundle.initS (zm_ex a)) ∈ zm_GW)
    (hf : 6 ≤ zm_rf m) (hlo : 82 ≤ zm_rl m) (hd : decode (zm_by m) bp = .ok (.new ik, 3)) (hd3 : decode (zm_by m) (bp + 3) = .ok (.dup, 1))
    (hd4 : (decode (zm_by m) (bp + 4) = .ok (.ldc is, 2) ∧ decode (zm_by m) (bp + 6) = .ok (.invokespecial ic, 3) ∧ decode (zm_by m) (bp + 9) = .ok (.athrow, 1)) ∨ (decode (zm_by m) (bp + 4) = .ok (.ldc_w is, 3) ∧ decode (zm_by m) (bp + 7) = .ok (.invokespecial ic, 3) ∧ decode (zm_by m) (bp + 10) = .ok (.athrow, 1))) :
    zs_S l b L xs m i ls [] h (.inr a, zm_th h) := by
  refine ⟨Nat.le_succ _, Nat.le_add_right _ _, ?_⟩
  intro p e R s mid args below meth c dC dI A H locs cells slots ws tys rls rst as0 kc ks mc ms pc X hT hW ha hl hml hv hpc h1 h2 h3 h4 h5 h6
  cases Option.some.inj (hp.symm.trans hpc)
  rw [how] at hw0 hw2
  have hwd := zs_words X ha3 hw2
  obtain ⟨hx, hb, hre, hlk, hmx, hown, -, hts, hN, hXX, hbl, hbA, hA, hst, hrf, hrl⟩ := X
  cases zs_nil hv
  rw [how] at hown
  have h3' : h.2.2.1 + 1 = kc + mc := h3
  have h4' : h.2.2.2 + 6 = ks + ms := h4
  have htab : c.exceptionTable.toList = [] := by
    rw [hT (Or.inr ⟨a, rfl⟩), hhh]
    rfl
  obtain ⟨hP, hK, hD, hS, hh⟩ := hW
  obtain ⟨tq, ht1, ht2⟩ := Option.map_eq_some_iff.mp htx
  obtain ⟨sa, hsa⟩ := hN.2.2.1 tq (List.mem_of_getElem? ht1)
  rw [ht2] at hsa
  have hg : ∀ w ∈ Cond.classLink RX7 ik (zm_ex a) :: Cond.initialized (zm_ex a) :: vx_atS RX7 ic (zm_ex a) zm_sup, vx_ot w = true := by
    intro w hw
    rcases List.mem_cons.mp hw with e | hw
    · subst e; rfl
    · rcases List.mem_cons.mp hw with e | hw
      · subst e; rfl
      · exact (hwd w hw).2
  have hXT : ∀ t : State, s.vm.Alike t.vm → H.size ≤ t.heap.size → (∀ q : Nat, q < H.size → t.heap[q]? = H[q]?) → zs_T b dC dI as0 A (.inr a, zm_th h) (zm_ex a) s t := by
    intro t hal hsz hq
    refine ⟨⟨a, ws, tys, rfl, rfl, ha3, ha, hP.kept fun k q hk => hq _ (hP k q hk).lt, va_K.moved hal hK, hD, hh⟩, ?_, ?_⟩
    · exact Nat.le_trans hS.1 hsz
    · intro q hq1 hq2
      rw [hq q (Nat.lt_of_lt_of_le hq1 hS.1)]
      exact hS.2.1 q hq1 hq2
  rcases hd4 with ⟨d4, d6, d9⟩ | ⟨d4, d6, d9⟩
  · refine vx_throwS (names := zm_sup) hx hb hst hown (zc_fit ha3) zc_fits (hts _ hw0) (hts _ hw1) hsa (fun w hw => (hwd w hw).1) hg hN.2.2.2.2.2.1 hN.2.2.2.2.2.2.1 hS (by rw [hmx, ← hml]; exact hl.1) hd hd3 d4 d6 d9 (fun x hx => by rw [htab] at hx; cases hx) ?_ ?_ (by omega) (by omega) hlk hXT hS.2.2 (by omega) (by omega)
    · show 2 + 3 < R.frames
      omega
    · show 0 + (13 * 3 + 43) ≤ R.locals
      omega
  · refine vx_throwSW (names := zm_sup) hx hb hst hown (zc_fit ha3) zc_fits (hts _ hw0) (hts _ hw1) hsa (fun w hw => (hwd w hw).1) hg hN.2.2.2.2.2.1 hN.2.2.2.2.2.2.1 hS (by rw [hmx, ← hml]; exact hl.1) hd hd3 d4 d6 d9 (fun x hx => by rw [htab] at hx; cases hx) ?_ ?_ (by omega) (by omega) hlk hXT hS.2.2 (by omega) (by omega)
    · show 2 + 3 < R.frames
      omega
    · show 0 + (13 * 3 + 43) ≤ R.locals
      omega
end ZR
/-! what the checks say at an index -/
def zc_All : Prop := ∀ m, m < zm_n → ∃ hp, zc_me m hp = true
theorem zc_roat (m : Nat) : ∀ (es : List zm_E) (pss : List (List Nat)) (z : Option Nat) (i : Nat) (bp : Nat) (ins : Instr) (len a b c : Nat) (v : Int32) (w : Int64) (ts : List Nat), zc_ro m es pss z = true → es[i]? = some (bp, ins, len, a, b, c, v, w, ts) → ∃ ps, zc_in m (match es[i + 1]? with
    | some e => some e.1
    | none => z) bp ins len a b c v w ts ps = true
  | [], _, z, i, bp, ins, len, a, b, c, v, w, ts, h, he => by simp at he
  | e :: es, [], z, i, bp, ins, len, a, b, c, v, w, ts, h, he => by
    obtain ⟨x1, x2, x3, x4, x5, x6, x7, x8, x9⟩ := e
    simp [zc_ro] at h
  | (x1, x2, x3, x4, x5, x6, x7, x8, x9) :: es, ps :: pss, z, 0, bp, ins, len, a, b, c, v, w, ts, h, he => by
    simp only [zc_ro, Bool.and_eq_true] at h
    simp only [List.getElem?_cons_zero, Option.some.injEq, Prod.mk.injEq] at he
    obtain ⟨rfl, rfl, rfl, rfl, rfl, rfl, rfl, rfl, rfl⟩ := he
    refine ⟨ps, ?_⟩
    have h1 := h.1
    cases es with
    | nil => exact h1
    | cons f fs => exact h1
  | (x1, x2, x3, x4, x5, x6, x7, x8, x9) :: es, ps :: pss, z, i + 1, bp, ins, len, a, b, c, v, w, ts, h, he => by
    simp only [zc_ro, Bool.and_eq_true] at h
    simp only [List.getElem?_cons_succ] at he ⊢
    exact zc_roat m es pss z i bp ins len a b c v w ts h.2 he
theorem zm_lt {m i : Nat} {e : zm_E} (h : (zm_cd m)[i]? = some e) : m < zm_n := by
  rcases Nat.lt_or_ge m zm_n with h1 | h1
  · exact h1
  · exfalso
    have h2 : zm_cds.length = zm_n := by decide +kernel
    have h3 : zm_cds[m]? = none := List.getElem?_eq_none (by rw [h2]; exact h1)
    unfold zm_cd at h
    rw [h3] at h
    simp at h
theorem zc_at (hall : zc_All) {m i bp : Nat} {ins : Instr} {len a b c : Nat} {v : Int32} {w : Int64} {ts : List Nat} (h : (zm_cd m)[i]? = some (bp, ins, len, a, b, c, v, w, ts)) : ∃ ps, zc_in m (zm_pc m (i + 1)) bp ins len a b c v w ts ps = true := by
  obtain ⟨hp, h1⟩ := hall m (zm_lt h)
  unfold zc_me at h1
  rw [Bool.and_eq_true] at h1
  exact zc_roat m _ _ none i _ _ _ _ _ _ _ _ _ h1.1 h
theorem zc_next {nx : Option Nat} {k : Nat} (h : zc_nx nx k = true) : nx = some k := by
  unfold zc_nx at h
  split at h
  · rw [Nat.eq_of_beq_eq_true h]
  · cases h
theorem zc_okw {i : Nat} {w : Cond} (h : zc_ok i w = true) : w ∈ zm_GW := by
  unfold zc_ok at h
  simp only [Bool.and_eq_true, decide_eq_true_eq] at h
  exact List.mem_filter.mpr ⟨List.mem_of_getElem? h.1, h.2⟩
theorem zc_okg {i : Nat} {w : Cond} (h : zc_ok i w = true) : goodWord w = true := by
  unfold zc_ok at h
  simp only [Bool.and_eq_true, decide_eq_true_eq] at h
  exact h.2
/-- places rise with the indices -/
theorem zc_rise : ∀ (es : List zm_E) (i j : Nat) (x y : zm_E), zc_up es = true → es[i]? = some x → es[j]? = some y → i < j → x.1 < y.1
  | [], i, j, x, y, _, h, _, _ => by simp at h
  | [e], i, j, x, y, _, h, h2, hij => by
    have h1 := (List.getElem?_eq_some_iff.mp h2).1
    simp at h1
    omega
  | e :: f :: es, 0, j + 1, x, y, hu, h, h2, hij => by
    simp only [List.getElem?_cons_zero, Option.some.injEq] at h
    subst h
    simp only [List.getElem?_cons_succ] at h2
    simp only [zc_up, Bool.and_eq_true] at hu
    have h3 : e.1 < f.1 := by simpa using hu.1
    match j, h2 with
    | 0, h2 =>
      simp only [List.getElem?_cons_zero, Option.some.injEq] at h2
      subst h2
      exact h3
    | j + 1, h2 => exact Nat.lt_trans h3 (zc_rise (f :: es) 0 (j + 1) f y (by simpa [zc_up] using hu.2) rfl h2 (by omega))
  | e :: f :: es, i + 1, j + 1, x, y, hu, h, h2, hij => by
    simp only [List.getElem?_cons_succ] at h h2
    simp only [zc_up, Bool.and_eq_true] at hu
    exact zc_rise (f :: es) i j x y (by simpa [zc_up] using hu.2) h h2 (by omega)
  | e :: f :: es, i, 0, x, y, hu, h, h2, hij => by omega
