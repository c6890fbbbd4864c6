/-! .. a call at its place: what the tables give, the run of the callee -/
section ZI
variable {p : Program} {l : Launch} {e : Env} {R : Room} {s : State} {mid : MethodId} {args : Array Value} {below : List Frame} {meth : Method} {c : Code} {H : Heap} {locs : List Loc} {cells slots bp : Nat} {rls : Array Slot}
  {b L : Nat} {xs : Nat → Int32} {m : Nat} {dC : Nat → ClassId} {dI : Nat → Nat → Nat} {ws : va_W} {tys : List (ClassId × FieldType)} {A : Nat → Prop} {h : zm_H} {r1 : zm_R}
theorem zs_goodGW : ∀ w ∈ zm_GW, w ∈ zm_GW ∧ ((w.onTables && w.keeps) = true ∨ ∃ ty, w = .arrayClass ty) := fun w hw => ⟨hw, good_of_word (List.mem_filter.mp hw).2⟩
theorem zs_good {a : Nat} (h : zm_cw a ∈ zm_GW) : GoodIn zm_GW (zm_cw a :: zm_GW) := fun w hw => by
  rcases List.mem_cons.mp hw with e | hw
  · subst e; exact zs_goodGW _ h
  · exact zs_goodGW _ hw
theorem zc_clh {m a b c pc : Nat} (h : zc_cl m a b c pc = true) : zm_cw a ∈ zm_GW ∧ a < zm_n ∧ (parseMethodDescriptor (zm_nm a).desc).map (fun d => d.parameters.length) = some b ∧ zc_rk c (zm_re a) = true ∧ ((zm_nm a).cls ≠ "java/lang/invoke/MethodHandle" ∧ (zm_nm a).cls ≠ "java/lang/invoke/VarHandle") ∧ zm_rf a + 1 ≤ zm_rf m ∧ 8 + (zm_ml a + 11) + zm_rl a ≤ zm_rl m := by
  unfold zc_cl at h
  simp only [Bool.and_eq_true, decide_eq_true_eq] at h
  obtain ⟨⟨⟨⟨⟨⟨h1, h2⟩, h3⟩, h4⟩, h5⟩, h6⟩, h7⟩ := h
  exact ⟨zc_okw h1, h2, h3, h4, h5, Nat.le_of_ble_eq_true h6, Nat.le_of_ble_eq_true h7⟩
theorem zs_fix (X : zs_X l p R s mid args meth c m b L xs A) : CallFix p mid c (zm_by m) (zm_ml m) s args zm_GW (zm_ow m) := ⟨X.1, X.2.1, X.2.2.2.2.1, X.2.2.2.2.2.1, X.2.2.2.2.2.2.2.1⟩
theorem zs_par {a b : Nat} (h : (parseMethodDescriptor (zm_nm a).desc).map (fun d => d.parameters.length) = some b) : ∀ sig, parseMethodDescriptor (zm_nm a).desc = some sig → b = sig.parameters.length := by
  intro sig hs
  rw [hs] at h
  exact (Option.some.inj h).symm
theorem zs_pay (X : zs_X l p R s mid args meth c m b L xs A) {a b0 c0 pc mc1 ms1 : Nat} (hcl : zc_cl m a b0 c0 pc = true) :
    (({ frames := zm_rf a, cells := mc1, slots := ms1, locals := zm_rl a } : Room).cells = mc1 ∧ ({ frames := zm_rf a, cells := mc1, slots := ms1, locals := zm_rl a } : Room).slots = ms1 ∧ ({ frames := zm_rf a, cells := mc1, slots := ms1, locals := zm_rl a } : Room).frames + 1 ≤ R.frames ∧ 8 + (zm_ml a + 11) + ({ frames := zm_rf a, cells := mc1, slots := ms1, locals := zm_rl a } : Room).locals ≤ R.locals ∧
      (∀ w ∈ zm_cw a :: zm_GW, ∀ (a' : Array Value) (U : State), s.WarmedH U.vm → w.before a' U = true) ∧ zm_cw a ∈ zm_cw a :: zm_GW) := by
  obtain ⟨h1, -, -, -, -, h6, h7⟩ := zc_clh hcl
  obtain ⟨-, -, -, -, -, -, -, hts, -, -, -, -, -, -, hrf, hrl⟩ := X
  refine ⟨rfl, rfl, ?_, ?_, pay_in hts (zs_good h1), List.mem_cons_self⟩
  · show zm_rf a + 1 ≤ R.frames
    omega
  · show 8 + (zm_ml a + 11) + zm_rl a ≤ R.locals
    omega
/-- a method without a table of handlers -/
theorem zs_cb (X : zs_X l p R s mid args meth c m b L xs A) {a b0 c0 pc mc1 ms1 idx : Nat} (hcl : zc_cl m a b0 c0 pc = true) (hh : zm_hh a = []) (hini : Cond.initialized (zm_nm a).cls ∈ zm_GW) (hlk : Cond.methodLink (zm_ow m) idx (zm_nm a) ∈ zm_GW) :
    CallB R s args (zm_ow m) idx (zm_nm a) (zm_by a) (zm_ml a) (zm_re a) (zm_cw a :: zm_GW) { frames := zm_rf a, cells := mc1, slots := ms1, locals := zm_rl a } mc1 ms1 b0 := by
  have hp := zs_pay (mc1 := mc1) (ms1 := ms1) X hcl
  obtain ⟨h1, h2, h3, h4, h5, h6, h7⟩ := zc_clh hcl
  have hcw : zm_cw a = .code (zm_nm a) (zm_by a) (zm_ml a) (zm_re a) := by unfold zm_cw; rw [hh]
  have hts := X.2.2.2.2.2.2.2.1
  refine ⟨hp.1, hp.2.1, hp.2.2.1, hp.2.2.2.1, hp.2.2.2.2.1, ?_, ?_, hts _ hini, h5, zs_par h3, hts _ hlk⟩
  · rw [← hcw]; exact List.mem_cons_self
  · rw [← hcw]; exact hts _ h1
theorem zs_cn (X : zs_X l p R s mid args meth c m b L xs A) {a b0 c0 pc mc1 ms1 idx : Nat} {host : String} (hcl : zc_cl m a b0 c0 pc = true) (hh : zm_hh a = []) (hini : Cond.initialized (zm_nm a).cls ∈ zm_GW) (hlk : va_Nw (.methodLinkNest (zm_ow m) idx (zm_nm a) host) s) :
    va_CN R s args (zm_ow m) idx (zm_nm a) host (zm_by a) (zm_ml a) (zm_re a) (zm_cw a :: zm_GW) { frames := zm_rf a, cells := mc1, slots := ms1, locals := zm_rl a } mc1 ms1 b0 := by
  have hp := zs_pay (mc1 := mc1) (ms1 := ms1) X hcl
  obtain ⟨h1, h2, h3, h4, h5, h6, h7⟩ := zc_clh hcl
  have hcw : zm_cw a = .code (zm_nm a) (zm_by a) (zm_ml a) (zm_re a) := by unfold zm_cw; rw [hh]
  have hts := X.2.2.2.2.2.2.2.1
  refine ⟨⟨hp.1, hp.2.1, hp.2.2.1, hp.2.2.2.1, hp.2.2.2.2.1, ?_⟩, ?_, hts _ hini, h5, zs_par h3, va_Nw.use rfl hlk⟩
  · rw [← hcw]; exact List.mem_cons_self
  · rw [← hcw]; exact hts _ h1
theorem zs_csw (X : zs_X l p R s mid args meth c m b L xs A) {a b0 c0 pc mc1 ms1 idx : Nat} (hcl : zc_cl m a b0 c0 pc = true) {t : Nat × Nat × Nat × Nat} {tt : List (Nat × Nat × Nat × Nat)} (hh : zm_hh a = t :: tt) (hini : Cond.initialized (zm_nm a).cls ∈ zm_GW) (hlk : Cond.methodLink (zm_ow m) idx (zm_nm a) ∈ zm_GW) (hst : Cond.static (zm_nm a) ∈ zm_GW) :
    vx_CSW R s args (zm_ow m) idx (zm_nm a) (zm_by a) (zm_ml a) (zm_re a) (t :: tt) (zm_cw a :: zm_GW) { frames := zm_rf a, cells := mc1, slots := ms1, locals := zm_rl a } mc1 ms1 b0 := by
  have hp := zs_pay (mc1 := mc1) (ms1 := ms1) X hcl
  obtain ⟨h1, h2, h3, h4, h5, h6, h7⟩ := zc_clh hcl
  have hcw : zm_cw a = .codeWith (zm_nm a) (zm_by a) (zm_ml a) (zm_re a) (t :: tt) := by unfold zm_cw; rw [hh]
  have hts := X.2.2.2.2.2.2.2.1
  refine ⟨⟨hp.1, hp.2.1, hp.2.2.1, hp.2.2.2.1, hp.2.2.2.2.1, ?_⟩, ?_, hts _ hini, h5, zs_par h3, hts _ hlk, hts _ hst⟩
  · rw [← hcw]; exact List.mem_cons_self
  · rw [← hcw]; exact hts _ h1
theorem zc_lkh {m idx a : Nat} {v : Int32} {q : Nat} (h : zc_lk m idx a v q = true) : (v = 0 ∧ Cond.methodLink (zm_ow m) idx (zm_nm a) ∈ zm_GW) ∨ (¬ v = 0 ∧ (zm_ow m, idx, zm_nm a, "TradeRings") ∈ zm_nest) := by
  unfold zc_lk at h
  split at h
  · exact Or.inl ⟨‹_›, zc_okw h⟩
  · exact Or.inr ⟨‹_›, List.mem_of_getElem? (of_decide_eq_true h)⟩
/-- a virtual call -/
theorem zs_runV (hall : zc_All) {a b0 c0 q0 q4 mc1 ms1 idx ci o ad : Nat} {v : Int32} {qc : vw_C} {vs rr pops : List Value} (X : zs_X l p R s mid args meth c m b L xs A) (hW : zs_W b dC dI ws tys A s H locs h)
    (hS : zs_S l b L xs a 0 (zm_in (zm_ml a) (.ref o :: vs)) [] h r1) (hin : (zm_in (zm_ml a) (.ref o :: vs)).length = zm_ml a)
    (hcl : zc_cl m a b0 c0 q4 = true) (hlk : zc_lk m idx a v q0 = true) (hi : Cond.instanceMethod (zm_nm a) ∈ zm_GW) (hci : vwCl[ci]? = some qc) (hse : Cond.selects qc.1 (zm_nm a) (zm_nm a) ∈ zm_GW) (hini : Cond.initialized (zm_nm a).cls ∈ zm_GW) (hh : zm_hh a = []) (his : zm_is h o ci = true)
    (hvs : zs_vs b (ws.map Prod.fst) vs pops.reverse) (hpl : pops.length = b0) (ho : (ws.map Prod.fst)[o]? = some ad) (hrl : rls.size = zm_ml m) (hcs : (rr.map fun v => v.category).sum ≤ 8)
    (hd : decode (zm_by m) bp = .ok (.invokevirtual idx, 3)) (hm1 : mc1 = r1.2.2.2.1 - h.2.2.1) (hm2 : ms1 = r1.2.2.2.2 - h.2.2.2) (hf : cells + mc1 ≤ R.cells ∧ slots + ms1 ≤ R.slots) :
    vx_Run p l e R s mid args below meth c H locs cells slots mc1 ms1 (F0 mid bp rls (pops ++ .ref ad :: rr)) rr (zs_Q b dC dI (ws.map Prod.fst) (va_A ws H.size) r1 (Value.ref ad :: pops.reverse).toArray) (zs_T b dC dI (ws.map Prod.fst) (va_A ws H.size) r1) (va_A ws H.size) := by
  have hlt := (zc_clh hcl).2.1
  have hst := X.2.2.2.2.2.2.2.2.2.2.2.2.2.1
  have hM := zs_met hall hst hlt hS hin (dC := dC) (dI := dI) (ws := ws) (tys := tys) (sz := H.size) (rvs := .ref ad :: pops.reverse) ⟨⟨ad, ho, rfl⟩, hvs⟩ hW.2.2.2.2
  rw [← hm1, ← hm2] at hM
  have hpre := zs_pre X hW
  obtain ⟨hP, hK, hD, hS0, hh0⟩ := id hW
  obtain ⟨el, he⟩ := zs_at ho
  have hcell := hh0.2 o _ he
  unfold zm_is at his
  split at his
  · rename_i cj fs hcj
    have hcc := Nat.eq_of_beq_eq_true his
    subst hcc
    rw [hcj] at hcell
    obtain ⟨gs, e2, h2⟩ := hcell
    dsimp only at e2
    subst e2
    have hPV : PreV s H qc.1 ad (va_Pc (.ref ad :: pops.reverse) (zs_B b L xs dC dI ws tys H.size)) pops.reverse := ⟨zs_blind, va_recv hK hP hci he, fun U h1 h2 => ⟨rfl, hpre U h1 h2⟩⟩
    have hn : pops.reverse.length = b0 := by rw [List.length_reverse, hpl]
    have hstk : (F0 mid bp rls (pops ++ .ref ad :: rr)).stack = pops.reverse.reverse ++ .ref ad :: rr := by rw [List.reverse_reverse]
    have hts := X.2.2.2.2.2.2.2.1
    rcases zc_lkh hlk with ⟨-, hl⟩ | ⟨-, hl⟩
    · exact vx_runV (C := qc.1) (zs_fix X) hM ⟨zs_cb X hcl hh hini hl, hts _ hi, hts _ hse⟩ hPV rfl hn hrl hstk (by show 2 * 0 + _ ≤ 8; omega) hd hf
    · exact vx_runVN (C := qc.1) (zs_fix X) hM ⟨zs_cn X hcl hh hini (X.2.2.2.2.2.2.2.2.1.1 _ hl), hts _ hi, hts _ hse⟩ hPV rfl hn hrl hstk (by show 2 * 0 + _ ≤ 8; omega) hd hf
  · cases his
/-- a constructor's call -/
theorem zs_runI (hall : zc_All) {a b0 c0 q0 q4 mc1 ms1 idx o ad : Nat} {v : Int32} {vs rr pops : List Value} (X : zs_X l p R s mid args meth c m b L xs A) (hW : zs_W b dC dI ws tys A s H locs h)
    (hS : zs_S l b L xs a 0 (zm_in (zm_ml a) (.ref o :: vs)) [] h r1) (hin : (zm_in (zm_ml a) (.ref o :: vs)).length = zm_ml a)
    (hcl : zc_cl m a b0 c0 q4 = true) (hlk : zc_lk m idx a v q0 = true) (hi : Cond.instanceMethod (zm_nm a) ∈ zm_GW) (hini : Cond.initialized (zm_nm a).cls ∈ zm_GW) (hh : zm_hh a = []) (hnm : (zm_nm a).name = "<init>") (hre : zm_re a = none)
    (hvs : zs_vs b (ws.map Prod.fst) vs pops.reverse) (hpl : pops.length = b0) (ho : (ws.map Prod.fst)[o]? = some ad) (hrl : rls.size = zm_ml m) (hcs : (rr.map fun v => v.category).sum ≤ 8)
    (hd : decode (zm_by m) bp = .ok (.invokespecial idx, 3)) (hm1 : mc1 = r1.2.2.2.1 - h.2.2.1) (hm2 : ms1 = r1.2.2.2.2 - h.2.2.2) (hf : cells + mc1 ≤ R.cells ∧ slots + ms1 ≤ R.slots) :
    vx_Run p l e R s mid args below meth c H locs cells slots mc1 ms1 (F0 mid bp rls (pops ++ .ref ad :: rr)) rr (zs_Q b dC dI (ws.map Prod.fst) (va_A ws H.size) r1 (Value.ref ad :: pops.reverse).toArray) (zs_T b dC dI (ws.map Prod.fst) (va_A ws H.size) r1) (va_A ws H.size) := by
  have hlt := (zc_clh hcl).2.1
  have hst := X.2.2.2.2.2.2.2.2.2.2.2.2.2.1
  have hM := zs_met hall hst hlt hS hin (dC := dC) (dI := dI) (ws := ws) (tys := tys) (sz := H.size) (rvs := .ref ad :: pops.reverse) ⟨⟨ad, ho, rfl⟩, hvs⟩ hW.2.2.2.2
  rw [← hm1, ← hm2] at hM
  have hpre := zs_pre X hW
  have hPV : PreS s H (va_Pc (.ref ad :: pops.reverse) (zs_B b L xs dC dI ws tys H.size)) (.ref ad :: pops.reverse) := ⟨zs_blind, fun U h1 h2 => ⟨rfl, hpre U h1 h2⟩⟩
  have hn : pops.reverse.length = b0 := by rw [List.length_reverse, hpl]
  have hstk : (F0 mid bp rls (pops ++ .ref ad :: rr)).stack = pops.reverse.reverse ++ .ref ad :: rr := by rw [List.reverse_reverse]
  have hts := X.2.2.2.2.2.2.2.1
  rcases zc_lkh hlk with ⟨-, hl⟩ | ⟨-, hl⟩
  · have hcb := zs_cb (mc1 := mc1) (ms1 := ms1) X hcl hh hini hl
    rw [hre] at hcb
    exact vx_runI (zs_fix X) hM ⟨hcb, hnm, hts _ hi⟩ hPV rfl hn hrl hstk (by show 2 * 0 + _ ≤ 8; omega) hd hf
  · have hcb := zs_cn (mc1 := mc1) (ms1 := ms1) X hcl hh hini (X.2.2.2.2.2.2.2.2.1.1 _ hl)
    rw [hre] at hcb
    exact vx_runIN (zs_fix X) hM ⟨hcb, hnm, hts _ hi⟩ hPV rfl hn hrl hstk (by show 2 * 0 + _ ≤ 8; omega) hd hf
/-- a static call -/
theorem zs_runS (hall : zc_All) {a b0 c0 q0 q4 mc1 ms1 idx : Nat} {v : Int32} {vs rr pops : List Value} (X : zs_X l p R s mid args meth c m b L xs A) (hW : zs_W b dC dI ws tys A s H locs h)
    (hS : zs_S l b L xs a 0 (zm_in (zm_ml a) vs) [] h r1) (hin : (zm_in (zm_ml a) vs).length = zm_ml a)
    (hcl : zc_cl m a b0 c0 q4 = true) (hlk : zc_lk m idx a v q0 = true) (hi : Cond.static (zm_nm a) ∈ zm_GW) (hini : Cond.initialized (zm_nm a).cls ∈ zm_GW) (hh : zm_hh a = [] ∨ v = 0)
    (hvs : zs_vs b (ws.map Prod.fst) vs pops.reverse) (hpl : pops.length = b0) (hrl : rls.size = zm_ml m) (hcs : (rr.map fun v => v.category).sum ≤ 8)
    (hd : decode (zm_by m) bp = .ok (.invokestatic idx, 3)) (hm1 : mc1 = r1.2.2.2.1 - h.2.2.1) (hm2 : ms1 = r1.2.2.2.2 - h.2.2.2) (hf : cells + mc1 ≤ R.cells ∧ slots + ms1 ≤ R.slots) :
    vx_Run p l e R s mid args below meth c H locs cells slots mc1 ms1 (F0 mid bp rls (pops ++ rr)) rr (zs_Q b dC dI (ws.map Prod.fst) (va_A ws H.size) r1 pops.reverse.toArray) (zs_T b dC dI (ws.map Prod.fst) (va_A ws H.size) r1) (va_A ws H.size) := by
  have hlt := (zc_clh hcl).2.1
  have hst := X.2.2.2.2.2.2.2.2.2.2.2.2.2.1
  have hM := zs_met hall hst hlt hS hin (dC := dC) (dI := dI) (ws := ws) (tys := tys) (sz := H.size) (rvs := pops.reverse) hvs hW.2.2.2.2
  rw [← hm1, ← hm2] at hM
  have hpre := zs_pre X hW
  have hPV : PreS s H (va_Pc pops.reverse (zs_B b L xs dC dI ws tys H.size)) pops.reverse := ⟨zs_blind, fun U h1 h2 => ⟨rfl, hpre U h1 h2⟩⟩
  have hn : pops.reverse.length = b0 := by rw [List.length_reverse, hpl]
  have hstk : (F0 mid bp rls (pops ++ rr)).stack = pops.reverse.reverse ++ rr := by rw [List.reverse_reverse]
  have hts := X.2.2.2.2.2.2.2.1
  rcases zc_lkh hlk with ⟨-, hl⟩ | ⟨hv0, hl⟩
  · cases hq : zm_hh a with
    | nil => exact vx_runS (zs_fix X) hM ⟨zs_cb X hcl hq hini hl, hts _ hi⟩ hPV rfl hn hrl hstk (by show 2 * 0 + _ ≤ 8; omega) hd hf
    | cons t tt => exact vx_runSX (zs_fix X) hM (zs_csw X hcl hq hini hl hi) hPV rfl hn hrl hstk (by show 2 * 0 + _ ≤ 8; omega) hd hf
  · have hh' : zm_hh a = [] := hh.resolve_right hv0
    exact vx_runSN (zs_fix X) hM ⟨zs_cn X hcl hh' hini (X.2.2.2.2.2.2.2.2.1.1 _ hl), hts _ hi, trivial⟩ hPV rfl hn hrl hstk (by show 2 * 0 + _ ≤ 8; omega) hd hf
end ZI
