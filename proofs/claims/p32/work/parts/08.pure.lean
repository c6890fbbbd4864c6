/-! THE MACHINE FOLLOWS THE PURE MACHINE: what is known at a method's place, and the instructions that touch no heap. -/
def zm_GW : List Cond := lw_tbl.filter goodWord
def zm_pc (m i : Nat) : Option Nat := match (zm_cd m)[i]? with
  | some e => some e.1
  | none => none
def zs_N (A : Nat → Prop) (U : State) (H : Heap) : Prop :=
  (∀ q ∈ zm_nest, va_Nw (.methodLinkNest q.1 q.2.1 q.2.2.1 q.2.2.2) U) ∧ va_AO RX1 U ∧ (∀ q ∈ zm_tx, ∃ a, vk_R RX7 q.1 q.2 a U) ∧
  (∀ x, x < 3 → va_Nw (.castable (zm_ex x) (zm_ex x)) U) ∧ (∀ x y : Nat, x < 3 → y < 3 → x ≠ y → True) ∧
  vx_Zq Bundle.tN "UNASSIGNED_STACK" Bundle.steD A U H ∧ vx_Zq Bundle.tN "SUPPRESSED_SENTINEL" Bundle.listD A U H ∧ ∀ x ∈ zm_dcl, va_Nw (.declares x) U
theorem zs_N.to {A A' : Nat → Prop} {s U : State} {H H' : Heap} (hW : s.WarmedH U.vm) (hk : ∀ a : Nat, a < H.size → ¬ A a → H'[a]? = H[a]?) (hA : ∀ q, A' q → A q) (h : zs_N A s H) : zs_N A' U H' :=
  ⟨fun q hq => va_Nw.warmM hW (h.1 q hq), va_AO.moved hW.alike h.2.1, fun q hq => by obtain ⟨a, ha⟩ := h.2.2.1 q hq; exact ⟨a, vk_R.warm hW ha⟩, fun x hx => va_Nw.warmC hW (h.2.2.2.1 x hx),
    fun _ _ _ _ _ => trivial, ((vx_Zq.moved hW.alike h.2.2.2.2.2.1).kept hk).narrow hA, ((vx_Zq.moved hW.alike h.2.2.2.2.2.2.1).kept hk).narrow hA, fun x hx => va_Nw.warmD hW (h.2.2.2.2.2.2.2 x hx)⟩
def zs_X (l : Launch) (p : Program) (R : Room) (s : State) (mid : MethodId) (args : Array Value) (meth : Method) (c : Code) (m b L : Nat) (xs : Nat → Int32) (A : Nat → Prop) : Prop :=
  p.tables.exec = Jvm.exec ∧ c.code = zm_by m ∧ meth.sig.returnType = zm_re m ∧ meth.locks = false ∧ c.maxLocals = zm_ml m ∧ s.vm.findClass (zm_ow m) = some mid.cls ∧ ((zm_nm m).name = "<init>" → meth.name = "<init>") ∧
  (∀ w ∈ zm_GW, w.before args s = true) ∧ zs_N A s s.heap ∧ va_X b L xs s s.heap ∧ b < s.heap.size ∧ ¬ A b ∧ (∀ q, s.heap.size ≤ q → A q) ∧ l.stackTraces = false ∧ zm_rf m ≤ R.frames ∧ zm_rl m ≤ R.locals
def zs_W (b : Nat) (dC : Nat → ClassId) (dI : Nat → Nat → Nat) (ws : va_W) (tys : List (ClassId × FieldType)) (A : Nat → Prop) (s : State) (H : Heap) (locs : List Loc) (h : zm_H) : Prop :=
  va_P (dC, dI) vwCl ws H ∧ va_K (dC, dI) vwCl tys s ∧ va_D A ws ∧ va_S A s.heap H locs ∧ zs_h b ws tys h
/-- the world at a method's end -/
def zs_E (b : Nat) (dC : Nat → ClassId) (dI : Nat → Nat → Nat) (as0 : List Nat) (A : Nat → Prop) (ws : va_W) (tys : List (ClassId × FieldType)) (h : zm_H) (t : State) : Prop :=
  (∃ t0, ws.map Prod.fst = as0 ++ t0) ∧ va_P (dC, dI) vwCl ws t.heap ∧ va_K (dC, dI) vwCl tys t ∧ va_D A ws ∧ zs_h b ws tys h
def zs_Q (b : Nat) (dC : Nat → ClassId) (dI : Nat → Nat → Nat) (as0 : List Nat) (A : Nat → Prop) (r : zm_R) : Array Value → State → Outcome → State → Prop := fun _ st o t =>
  (∃ (v ov : Option Value) (ws : va_W) (tys : List (ClassId × FieldType)), o = .returned ov ∧ r.1 = .inl v ∧ zs_o b (ws.map Prod.fst) v ov ∧ zs_E b dC dI as0 A ws tys r.2 t) ∧ va_F A st t
def zs_T (b : Nat) (dC : Nat → ClassId) (dI : Nat → Nat → Nat) (as0 : List Nat) (A : Nat → Prop) (r : zm_R) : String → State → State → Prop := fun E st t =>
  (∃ (k : Nat) (ws : va_W) (tys : List (ClassId × FieldType)), r.1 = .inr k ∧ E = zm_ex k ∧ k < 3 ∧ zs_E b dC dI as0 A ws tys r.2 t) ∧ va_F A st t
def zs_S (l : Launch) (b L : Nat) (xs : Nat → Int32) (m i : Nat) (ls : zm_L) (st : List Value) (h : zm_H) (r : zm_R) : Prop :=
  h.2.2.1 ≤ r.2.2.2.1 ∧ h.2.2.2 ≤ r.2.2.2.2 ∧ ∀ (p : Program) (e : Env) (R : Room) (s : State) (mid : MethodId) (args : Array Value) (below : List Frame) (meth : Method) (c : Code) (dC : Nat → ClassId) (dI : Nat → Nat → Nat) (A : Nat → Prop) (H : Heap) (locs : List Loc) (cells slots : Nat)
    (ws : va_W) (tys : List (ClassId × FieldType)) (rls : Array Slot) (rst : List Value) (as0 : List Nat) (kc ks mc ms pc : Nat),
    zs_X l p R s mid args meth c m b L xs A → ((zm_hh m ≠ [] ∨ ∃ k, r.1 = .inr k) → c.exceptionTable.toList = tableOf (zm_hh m)) → zs_W b dC dI ws tys A s H locs h → (∃ t0, ws.map Prod.fst = as0 ++ t0) →
    zs_l b (ws.map Prod.fst) ls rls → ls.length = zm_ml m → zs_vs b (ws.map Prod.fst) st rst → zm_pc m i = some pc →
    h.2.2.1 = kc + cells → h.2.2.2 = ks + slots → r.2.2.2.1 = kc + mc → r.2.2.2.2 = ks + ms → mc ≤ R.cells → ms ≤ R.slots →
    W p l e R s mid args below meth c H locs cells slots (vx_MQ below (zs_Q b dC dI as0 A r) (zs_T b dC dI as0 A r) args s mc ms A) (F0 mid pc rls rst)
/-- an instruction without the heap: from its place to the next -/
def zs_ST (l : Launch) (b L : Nat) (xs : Nat → Int32) (m bp : Nat) (ls : zm_L) (st : List Value) (ls' : zm_L) (pc' : Nat) (st' : List Value) : Prop :=
  ∀ (p : Program) (e : Env) (R : Room) (s : State) (mid : MethodId) (args : Array Value) (below : List Frame) (meth : Method) (c : Code) (A : Nat → Prop) (H : Heap) (locs : List Loc) (cells slots : Nat) (Q : State → Prop) (as : List Nat) (rls : Array Slot) (rst : List Value),
    zs_X l p R s mid args meth c m b L xs A → va_S A s.heap H locs → zs_l b as ls rls → ls.length = zm_ml m → zs_vs b as st rst →
    ∃ rst', zs_vs b as st' rst' ∧ ((∀ rls', zs_l b as ls' rls' → W p l e R s mid args below meth c H locs cells slots Q (F0 mid pc' rls' rst')) → W p l e R s mid args below meth c H locs cells slots Q (F0 mid bp rls rst))
theorem zs_pure {l : Launch} {b L : Nat} {xs : Nat → Int32} {m i i' bp pc' : Nat} {ls ls' : zm_L} {st st' : List Value} {h : zm_H} {r : zm_R} (hp : zm_pc m i = some bp) (hp' : zm_pc m i' = some pc') (hlen : ls'.length = ls.length) (hs : zs_ST l b L xs m bp ls st ls' pc' st') (hr : zs_S l b L xs m i' ls' st' h r) : zs_S l b L xs m i ls st h r := by
  refine ⟨hr.1, hr.2.1, ?_⟩
  intro p e R s mid args below meth c dC dI A H locs cells slots ws tys rls rst as0 kc ks mc ms pc X hT hW ha hl hml hv hpc h1 h2 h3 h4 h5 h6
  cases Option.some.inj (hp.symm.trans hpc)
  obtain ⟨rst', hv', hk⟩ := hs p e R s mid args below meth c A H locs cells slots (vx_MQ below (zs_Q b dC dI as0 A r) (zs_T b dC dI as0 A r) args s mc ms A) (ws.map Prod.fst) rls rst X hW.2.2.2.1 hl hml hv
  exact hk fun rls' hl' => hr.2.2 p e R s mid args below meth c dC dI A H locs cells slots ws tys rls' rst' as0 kc ks mc ms pc' X hT hW ha hl' (hlen.trans hml) hv' hp' h1 h2 h3 h4 h5 h6
theorem zs_int {b : Nat} {as : List Nat} {x : Int32} {vs rst : List Value} (h : zs_vs b as (.int x :: vs) rst) : ∃ ws, rst = .int x :: ws ∧ zs_vs b as vs ws := by
  match rst, h with
  | [], h => exact h.elim
  | w :: ws, h => exact ⟨ws, by rw [show w = .int x from h.1], h.2⟩
theorem zs_lng {b : Nat} {as : List Nat} {x : Int64} {vs rst : List Value} (h : zs_vs b as (.long x :: vs) rst) : ∃ ws, rst = .long x :: ws ∧ zs_vs b as vs ws := by
  match rst, h with
  | [], h => exact h.elim
  | w :: ws, h => exact ⟨ws, by rw [show w = .long x from h.1], h.2⟩
theorem zs_flt {b : Nat} {as : List Nat} {x : UInt32} {vs rst : List Value} (h : zs_vs b as (.float x :: vs) rst) : ∃ ws, rst = .ref b :: ws ∧ zs_vs b as vs ws := by
  match rst, h with
  | [], h => exact h.elim
  | w :: ws, h => exact ⟨ws, by rw [show w = .ref b from h.1], h.2⟩
theorem zs_ref {b : Nat} {as : List Nat} {x : Nat} {vs rst : List Value} (h : zs_vs b as (.ref x :: vs) rst) : ∃ a ws, rst = .ref a :: ws ∧ as[x]? = some a ∧ zs_vs b as vs ws := by
  match rst, h with
  | [], h => exact h.elim
  | w :: ws, h =>
    obtain ⟨a, h1, h2⟩ := h.1
    exact ⟨a, ws, by rw [h2], h1, h.2⟩
theorem zs_mI {b : Nat} {as : List Nat} {x : Int32} {vs ws : List Value} (h : zs_vs b as vs ws) : zs_vs b as (.int x :: vs) (.int x :: ws) := ⟨rfl, h⟩
theorem zs_mL {b : Nat} {as : List Nat} {x : Int64} {vs ws : List Value} (h : zs_vs b as vs ws) : zs_vs b as (.long x :: vs) (.long x :: ws) := ⟨rfl, h⟩
theorem zs_mF {b : Nat} {as : List Nat} {x : UInt32} {vs ws : List Value} (h : zs_vs b as vs ws) : zs_vs b as (.float x :: vs) (.ref b :: ws) := ⟨rfl, h⟩
theorem zs_mR {b : Nat} {as : List Nat} {x a : Nat} {vs ws : List Value} (h0 : as[x]? = some a) (h : zs_vs b as vs ws) : zs_vs b as (.ref x :: vs) (.ref a :: ws) := ⟨⟨a, h0, rfl⟩, h⟩
theorem zs_mV {b : Nat} {as : List Nat} {v w : Value} {vs ws : List Value} (h0 : zs_v b as v w) (h : zs_vs b as vs ws) : zs_vs b as (v :: vs) (w :: ws) := ⟨h0, h⟩
theorem zs_nil {b : Nat} {as : List Nat} {rst : List Value} (h : zs_vs b as [] rst) : rst = [] := by
  match rst, h with
  | [], _ => rfl
  | _ :: _, h => exact h.elim
theorem zt_iadd {l : Launch} {b L : Nat} {xs : Nat → Int32} {m bp : Nat} {ls : zm_L} {r : List Value} {x y : Int32} (hd : decode (zm_by m) bp = .ok (.iadd, 1)) : zs_ST l b L xs m bp ls (.int y :: .int x :: r) ls (bp + 1) (.int (x + y) :: r) := by
  intro p e R s mid args below meth c A H locs cells slots Q as rls rst X hS hl hlen hv
  obtain ⟨hx, hb, -⟩ := X
  obtain ⟨w0, e0, hv0⟩ := zs_int hv
  obtain ⟨w1, e1, hv1⟩ := zs_int hv0
  subst e1
  subst e0
  exact ⟨_, zs_mI hv1, fun k => lv_iadd hx hb hd (k rls hl)⟩
theorem zt_isub {l : Launch} {b L : Nat} {xs : Nat → Int32} {m bp : Nat} {ls : zm_L} {r : List Value} {x y : Int32} (hd : decode (zm_by m) bp = .ok (.isub, 1)) : zs_ST l b L xs m bp ls (.int y :: .int x :: r) ls (bp + 1) (.int (x - y) :: r) := by
  intro p e R s mid args below meth c A H locs cells slots Q as rls rst X hS hl hlen hv
  obtain ⟨hx, hb, -⟩ := X
  obtain ⟨w0, e0, hv0⟩ := zs_int hv
  obtain ⟨w1, e1, hv1⟩ := zs_int hv0
  subst e1
  subst e0
  exact ⟨_, zs_mI hv1, fun k => lv_isub hx hb hd (k rls hl)⟩
theorem zt_imul {l : Launch} {b L : Nat} {xs : Nat → Int32} {m bp : Nat} {ls : zm_L} {r : List Value} {x y : Int32} (hd : decode (zm_by m) bp = .ok (.imul, 1)) : zs_ST l b L xs m bp ls (.int y :: .int x :: r) ls (bp + 1) (.int (x * y) :: r) := by
  intro p e R s mid args below meth c A H locs cells slots Q as rls rst X hS hl hlen hv
  obtain ⟨hx, hb, -⟩ := X
  obtain ⟨w0, e0, hv0⟩ := zs_int hv
  obtain ⟨w1, e1, hv1⟩ := zs_int hv0
  subst e1
  subst e0
  exact ⟨_, zs_mI hv1, fun k => lv_imul hx hb hd (k rls hl)⟩
theorem zt_iand {l : Launch} {b L : Nat} {xs : Nat → Int32} {m bp : Nat} {ls : zm_L} {r : List Value} {x y : Int32} (hd : decode (zm_by m) bp = .ok (.iand, 1)) : zs_ST l b L xs m bp ls (.int y :: .int x :: r) ls (bp + 1) (.int (x &&& y) :: r) := by
  intro p e R s mid args below meth c A H locs cells slots Q as rls rst X hS hl hlen hv
  obtain ⟨hx, hb, -⟩ := X
  obtain ⟨w0, e0, hv0⟩ := zs_int hv
  obtain ⟨w1, e1, hv1⟩ := zs_int hv0
  subst e1
  subst e0
  exact ⟨_, zs_mI hv1, fun k => lv_iand hx hb hd (k rls hl)⟩
theorem zt_ior {l : Launch} {b L : Nat} {xs : Nat → Int32} {m bp : Nat} {ls : zm_L} {r : List Value} {x y : Int32} (hd : decode (zm_by m) bp = .ok (.ior, 1)) : zs_ST l b L xs m bp ls (.int y :: .int x :: r) ls (bp + 1) (.int (x ||| y) :: r) := by
  intro p e R s mid args below meth c A H locs cells slots Q as rls rst X hS hl hlen hv
  obtain ⟨hx, hb, -⟩ := X
  obtain ⟨w0, e0, hv0⟩ := zs_int hv
  obtain ⟨w1, e1, hv1⟩ := zs_int hv0
  subst e1
  subst e0
  exact ⟨_, zs_mI hv1, fun k => lv_ior hx hb hd (k rls hl)⟩
theorem zt_ixor {l : Launch} {b L : Nat} {xs : Nat → Int32} {m bp : Nat} {ls : zm_L} {r : List Value} {x y : Int32} (hd : decode (zm_by m) bp = .ok (.ixor, 1)) : zs_ST l b L xs m bp ls (.int y :: .int x :: r) ls (bp + 1) (.int (x ^^^ y) :: r) := by
  intro p e R s mid args below meth c A H locs cells slots Q as rls rst X hS hl hlen hv
  obtain ⟨hx, hb, -⟩ := X
  obtain ⟨w0, e0, hv0⟩ := zs_int hv
  obtain ⟨w1, e1, hv1⟩ := zs_int hv0
  subst e1
  subst e0
  exact ⟨_, zs_mI hv1, fun k => lv_ixor hx hb hd (k rls hl)⟩
theorem zt_ishl {l : Launch} {b L : Nat} {xs : Nat → Int32} {m bp : Nat} {ls : zm_L} {r : List Value} {x y : Int32} (hd : decode (zm_by m) bp = .ok (.ishl, 1)) : zs_ST l b L xs m bp ls (.int y :: .int x :: r) ls (bp + 1) (.int (x <<< (y &&& 31)) :: r) := by
  intro p e R s mid args below meth c A H locs cells slots Q as rls rst X hS hl hlen hv
  obtain ⟨hx, hb, -⟩ := X
  obtain ⟨w0, e0, hv0⟩ := zs_int hv
  obtain ⟨w1, e1, hv1⟩ := zs_int hv0
  subst e1
  subst e0
  exact ⟨_, zs_mI hv1, fun k => lv_ishl hx hb hd (k rls hl)⟩
theorem zt_ishr {l : Launch} {b L : Nat} {xs : Nat → Int32} {m bp : Nat} {ls : zm_L} {r : List Value} {x y : Int32} (hd : decode (zm_by m) bp = .ok (.ishr, 1)) : zs_ST l b L xs m bp ls (.int y :: .int x :: r) ls (bp + 1) (.int (x >>> (y &&& 31)) :: r) := by
  intro p e R s mid args below meth c A H locs cells slots Q as rls rst X hS hl hlen hv
  obtain ⟨hx, hb, -⟩ := X
  obtain ⟨w0, e0, hv0⟩ := zs_int hv
  obtain ⟨w1, e1, hv1⟩ := zs_int hv0
  subst e1
  subst e0
  exact ⟨_, zs_mI hv1, fun k => lv_ishr hx hb hd (k rls hl)⟩
theorem zt_iushr {l : Launch} {b L : Nat} {xs : Nat → Int32} {m bp : Nat} {ls : zm_L} {r : List Value} {x y : Int32} (hd : decode (zm_by m) bp = .ok (.iushr, 1)) : zs_ST l b L xs m bp ls (.int y :: .int x :: r) ls (bp + 1) (.int ((x.toUInt32 >>> (y.toUInt32 &&& Int32.toUInt32 31)).toInt32) :: r) := by
  intro p e R s mid args below meth c A H locs cells slots Q as rls rst X hS hl hlen hv
  obtain ⟨hx, hb, -⟩ := X
  obtain ⟨w0, e0, hv0⟩ := zs_int hv
  obtain ⟨w1, e1, hv1⟩ := zs_int hv0
  subst e1
  subst e0
  exact ⟨_, zs_mI hv1, fun k => lv_iushr hx hb hd rfl (k rls hl)⟩
theorem zt_idiv {l : Launch} {b L : Nat} {xs : Nat → Int32} {m bp : Nat} {ls : zm_L} {r : List Value} {x y : Int32} (hne : ¬ y = 0) (hd : decode (zm_by m) bp = .ok (.idiv, 1)) : zs_ST l b L xs m bp ls (.int y :: .int x :: r) ls (bp + 1) (.int (x / y) :: r) := by
  intro p e R s mid args below meth c A H locs cells slots Q as rls rst X hS hl hlen hv
  obtain ⟨hx, hb, -⟩ := X
  obtain ⟨w0, e0, hv0⟩ := zs_int hv
  obtain ⟨w1, e1, hv1⟩ := zs_int hv0
  subst e1
  subst e0
  exact ⟨_, zs_mI hv1, fun k => lv_idiv hx hb hd hne (k rls hl)⟩
theorem zt_irem {l : Launch} {b L : Nat} {xs : Nat → Int32} {m bp : Nat} {ls : zm_L} {r : List Value} {x y : Int32} (hne : ¬ y = 0) (hd : decode (zm_by m) bp = .ok (.irem, 1)) : zs_ST l b L xs m bp ls (.int y :: .int x :: r) ls (bp + 1) (.int (x - x / y * y) :: r) := by
  intro p e R s mid args below meth c A H locs cells slots Q as rls rst X hS hl hlen hv
  obtain ⟨hx, hb, -⟩ := X
  obtain ⟨w0, e0, hv0⟩ := zs_int hv
  obtain ⟨w1, e1, hv1⟩ := zs_int hv0
  subst e1
  subst e0
  exact ⟨_, zs_mI hv1, fun k => lv_irem hx hb hd hne (k rls hl)⟩
theorem zt_ladd {l : Launch} {b L : Nat} {xs : Nat → Int32} {m bp : Nat} {ls : zm_L} {r : List Value} {x y : Int64} (hd : decode (zm_by m) bp = .ok (.ladd, 1)) : zs_ST l b L xs m bp ls (.long y :: .long x :: r) ls (bp + 1) (.long (x + y) :: r) := by
  intro p e R s mid args below meth c A H locs cells slots Q as rls rst X hS hl hlen hv
  obtain ⟨hx, hb, -⟩ := X
  obtain ⟨w0, e0, hv0⟩ := zs_lng hv
  obtain ⟨w1, e1, hv1⟩ := zs_lng hv0
  subst e1
  subst e0
  exact ⟨_, zs_mL hv1, fun k => lv_ladd hx hb hd (k rls hl)⟩
theorem zt_lmul {l : Launch} {b L : Nat} {xs : Nat → Int32} {m bp : Nat} {ls : zm_L} {r : List Value} {x y : Int64} (hd : decode (zm_by m) bp = .ok (.lmul, 1)) : zs_ST l b L xs m bp ls (.long y :: .long x :: r) ls (bp + 1) (.long (x * y) :: r) := by
  intro p e R s mid args below meth c A H locs cells slots Q as rls rst X hS hl hlen hv
  obtain ⟨hx, hb, -⟩ := X
  obtain ⟨w0, e0, hv0⟩ := zs_lng hv
  obtain ⟨w1, e1, hv1⟩ := zs_lng hv0
  subst e1
  subst e0
  exact ⟨_, zs_mL hv1, fun k => lv_lmul hx hb hd (k rls hl)⟩
theorem zt_land {l : Launch} {b L : Nat} {xs : Nat → Int32} {m bp : Nat} {ls : zm_L} {r : List Value} {x y : Int64} (hd : decode (zm_by m) bp = .ok (.land, 1)) : zs_ST l b L xs m bp ls (.long y :: .long x :: r) ls (bp + 1) (.long (x &&& y) :: r) := by
  intro p e R s mid args below meth c A H locs cells slots Q as rls rst X hS hl hlen hv
  obtain ⟨hx, hb, -⟩ := X
  obtain ⟨w0, e0, hv0⟩ := zs_lng hv
  obtain ⟨w1, e1, hv1⟩ := zs_lng hv0
  subst e1
  subst e0
  exact ⟨_, zs_mL hv1, fun k => lv_land hx hb hd (k rls hl)⟩
theorem zt_lor {l : Launch} {b L : Nat} {xs : Nat → Int32} {m bp : Nat} {ls : zm_L} {r : List Value} {x y : Int64} (hd : decode (zm_by m) bp = .ok (.lor, 1)) : zs_ST l b L xs m bp ls (.long y :: .long x :: r) ls (bp + 1) (.long (x ||| y) :: r) := by
  intro p e R s mid args below meth c A H locs cells slots Q as rls rst X hS hl hlen hv
  obtain ⟨hx, hb, -⟩ := X
  obtain ⟨w0, e0, hv0⟩ := zs_lng hv
  obtain ⟨w1, e1, hv1⟩ := zs_lng hv0
  subst e1
  subst e0
  exact ⟨_, zs_mL hv1, fun k => lv_lor hx hb hd (k rls hl)⟩
theorem zt_ldiv {l : Launch} {b L : Nat} {xs : Nat → Int32} {m bp : Nat} {ls : zm_L} {r : List Value} {x y : Int64} (hne : ¬ y = 0) (hd : decode (zm_by m) bp = .ok (.ldiv, 1)) : zs_ST l b L xs m bp ls (.long y :: .long x :: r) ls (bp + 1) (.long (x / y) :: r) := by
  intro p e R s mid args below meth c A H locs cells slots Q as rls rst X hS hl hlen hv
  obtain ⟨hx, hb, -⟩ := X
  obtain ⟨w0, e0, hv0⟩ := zs_lng hv
  obtain ⟨w1, e1, hv1⟩ := zs_lng hv0
  subst e1
  subst e0
  exact ⟨_, zs_mL hv1, fun k => lv_ldiv hx hb hd hne (k rls hl)⟩
theorem zt_lrem {l : Launch} {b L : Nat} {xs : Nat → Int32} {m bp : Nat} {ls : zm_L} {r : List Value} {x y : Int64} (hne : ¬ y = 0) (hd : decode (zm_by m) bp = .ok (.lrem, 1)) : zs_ST l b L xs m bp ls (.long y :: .long x :: r) ls (bp + 1) (.long (x - x / y * y) :: r) := by
  intro p e R s mid args below meth c A H locs cells slots Q as rls rst X hS hl hlen hv
  obtain ⟨hx, hb, -⟩ := X
  obtain ⟨w0, e0, hv0⟩ := zs_lng hv
  obtain ⟨w1, e1, hv1⟩ := zs_lng hv0
  subst e1
  subst e0
  exact ⟨_, zs_mL hv1, fun k => lv_lrem hx hb hd hne (k rls hl)⟩
theorem zt_lshl {l : Launch} {b L : Nat} {xs : Nat → Int32} {m bp : Nat} {ls : zm_L} {r : List Value} {x : Int64} {y : Int32} (hd : decode (zm_by m) bp = .ok (.lshl, 1)) : zs_ST l b L xs m bp ls (.int y :: .long x :: r) ls (bp + 1) (.long (x <<< (y.toInt64 &&& 63)) :: r) := by
  intro p e R s mid args below meth c A H locs cells slots Q as rls rst X hS hl hlen hv
  obtain ⟨hx, hb, -⟩ := X
  obtain ⟨w0, e0, hv0⟩ := zs_int hv
  obtain ⟨w1, e1, hv1⟩ := zs_lng hv0
  subst e1
  subst e0
  exact ⟨_, zs_mL hv1, fun k => lv_lshl hx hb hd rfl (k rls hl)⟩
theorem zt_lushr {l : Launch} {b L : Nat} {xs : Nat → Int32} {m bp : Nat} {ls : zm_L} {r : List Value} {x : Int64} {y : Int32} (hd : decode (zm_by m) bp = .ok (.lushr, 1)) : zs_ST l b L xs m bp ls (.int y :: .long x :: r) ls (bp + 1) (.long ((x.toUInt64 >>> (y.toInt64.toUInt64 &&& Int64.toUInt64 63)).toInt64) :: r) := by
  intro p e R s mid args below meth c A H locs cells slots Q as rls rst X hS hl hlen hv
  obtain ⟨hx, hb, -⟩ := X
  obtain ⟨w0, e0, hv0⟩ := zs_int hv
  obtain ⟨w1, e1, hv1⟩ := zs_lng hv0
  subst e1
  subst e0
  exact ⟨_, zs_mL hv1, fun k => lv_lushr hx hb hd rfl (k rls hl)⟩
theorem zt_lcmp {l : Launch} {b L : Nat} {xs : Nat → Int32} {m bp : Nat} {ls : zm_L} {r : List Value} {x y : Int64} (hd : decode (zm_by m) bp = .ok (.lcmp, 1)) : zs_ST l b L xs m bp ls (.long y :: .long x :: r) ls (bp + 1) (.int (lg_cmp x y) :: r) := by
  intro p e R s mid args below meth c A H locs cells slots Q as rls rst X hS hl hlen hv
  obtain ⟨hx, hb, -⟩ := X
  obtain ⟨w0, e0, hv0⟩ := zs_lng hv
  obtain ⟨w1, e1, hv1⟩ := zs_lng hv0
  subst e1
  subst e0
  exact ⟨_, zs_mI hv1, fun k => W.lcmp hx hb hd (k rls hl)⟩
theorem zt_i2l {l : Launch} {b L : Nat} {xs : Nat → Int32} {m bp : Nat} {ls : zm_L} {r : List Value} {x : Int32} (hd : decode (zm_by m) bp = .ok (.i2l, 1)) : zs_ST l b L xs m bp ls (.int x :: r) ls (bp + 1) (.long x.toInt64 :: r) := by
  intro p e R s mid args below meth c A H locs cells slots Q as rls rst X hS hl hlen hv
  obtain ⟨hx, hb, -⟩ := X
  obtain ⟨w0, e0, hv0⟩ := zs_int hv
  subst e0
  exact ⟨_, zs_mL hv0, fun k => lv_i2l hx hb hd rfl (k rls hl)⟩
theorem zt_l2i {l : Launch} {b L : Nat} {xs : Nat → Int32} {m bp : Nat} {ls : zm_L} {r : List Value} {x : Int64} (hd : decode (zm_by m) bp = .ok (.l2i, 1)) : zs_ST l b L xs m bp ls (.long x :: r) ls (bp + 1) (.int x.toInt32 :: r) := by
  intro p e R s mid args below meth c A H locs cells slots Q as rls rst X hS hl hlen hv
  obtain ⟨hx, hb, -⟩ := X
  obtain ⟨w0, e0, hv0⟩ := zs_lng hv
  subst e0
  exact ⟨_, zs_mI hv0, fun k => lv_l2i hx hb hd rfl (k rls hl)⟩
theorem zt_iconst {l : Launch} {b L : Nat} {xs : Nat → Int32} {m bp : Nat} {ls : zm_L} {r : List Value} {n : Int} {v : Int32} (hv0 : Int32.ofInt n = v) (hd : decode (zm_by m) bp = .ok (.iconst n, 1)) : zs_ST l b L xs m bp ls (r) ls (bp + 1) (.int v :: r) := by
  intro p e R s mid args below meth c A H locs cells slots Q as rls rst X hS hl hlen hv
  obtain ⟨hx, hb, -⟩ := X

  exact ⟨_, zs_mI hv, fun k => lv_iconst hx hb hd hv0 (k rls hl)⟩
theorem zt_bipush {l : Launch} {b L : Nat} {xs : Nat → Int32} {m bp : Nat} {ls : zm_L} {r : List Value} {n : Int} {v : Int32} (hv0 : (Int8.ofInt n).toInt32 = v) (hd : decode (zm_by m) bp = .ok (.bipush n, 2)) : zs_ST l b L xs m bp ls (r) ls (bp + 2) (.int v :: r) := by
  intro p e R s mid args below meth c A H locs cells slots Q as rls rst X hS hl hlen hv
  obtain ⟨hx, hb, -⟩ := X

  exact ⟨_, zs_mI hv, fun k => lv_bipush hx hb hd hv0 (k rls hl)⟩
theorem zt_sipush {l : Launch} {b L : Nat} {xs : Nat → Int32} {m bp : Nat} {ls : zm_L} {r : List Value} {n : Int} {v : Int32} (hv0 : (Int16.ofInt n).toInt32 = v) (hd : decode (zm_by m) bp = .ok (.sipush n, 3)) : zs_ST l b L xs m bp ls (r) ls (bp + 3) (.int v :: r) := by
  intro p e R s mid args below meth c A H locs cells slots Q as rls rst X hS hl hlen hv
  obtain ⟨hx, hb, -⟩ := X

  exact ⟨_, zs_mI hv, fun k => lv_sipush hx hb hd hv0 (k rls hl)⟩
theorem zt_lconst {l : Launch} {b L : Nat} {xs : Nat → Int32} {m bp : Nat} {ls : zm_L} {r : List Value} {n : Fin 2} {v : Int64} (hv0 : Int64.ofNat (n : Nat) = v) (hd : decode (zm_by m) bp = .ok (.lconst n, 1)) : zs_ST l b L xs m bp ls (r) ls (bp + 1) (.long v :: r) := by
  intro p e R s mid args below meth c A H locs cells slots Q as rls rst X hS hl hlen hv
  obtain ⟨hx, hb, -⟩ := X

  exact ⟨_, zs_mL hv, fun k => lv_lconst hx hb hd hv0 (k rls hl)⟩
theorem zt_icmp_eq_t {l : Launch} {b L : Nat} {xs : Nat → Int32} {m bp : Nat} {ls : zm_L} {r : List Value} {x y : Int32} {off : Int} {tgt : Nat} (ht : (bp : Int) + off = (tgt : Int)) (hc : x = y) (hd : decode (zm_by m) bp = .ok (.if_icmp .eq off, 3)) : zs_ST l b L xs m bp ls (.int y :: .int x :: r) ls tgt r := by
  intro p e R s mid args below meth c A H locs cells slots Q as rls rst X hS hl hlen hv
  obtain ⟨hx, hb, -⟩ := X
  obtain ⟨w0, e0, hv0⟩ := zs_int hv
  obtain ⟨w1, e1, hv1⟩ := zs_int hv0
  subst e1
  subst e0
  exact ⟨_, hv1, fun k => lv_icmp_eq hx hb hd ht (fun _ => k rls hl) (fun z => absurd hc z)⟩
theorem zt_icmp_eq_f {l : Launch} {b L : Nat} {xs : Nat → Int32} {m bp : Nat} {ls : zm_L} {r : List Value} {x y : Int32} {off : Int} {tgt : Nat} (ht : (bp : Int) + off = (tgt : Int)) (hc : ¬ x = y) (hd : decode (zm_by m) bp = .ok (.if_icmp .eq off, 3)) : zs_ST l b L xs m bp ls (.int y :: .int x :: r) ls (bp + 3) r := by
  intro p e R s mid args below meth c A H locs cells slots Q as rls rst X hS hl hlen hv
  obtain ⟨hx, hb, -⟩ := X
  obtain ⟨w0, e0, hv0⟩ := zs_int hv
  obtain ⟨w1, e1, hv1⟩ := zs_int hv0
  subst e1
  subst e0
  exact ⟨_, hv1, fun k => lv_icmp_eq hx hb hd ht (fun z => absurd z hc) (fun _ => k rls hl)⟩
theorem zt_if_eq_t {l : Launch} {b L : Nat} {xs : Nat → Int32} {m bp : Nat} {ls : zm_L} {r : List Value} {x : Int32} {off : Int} {tgt : Nat} (ht : (bp : Int) + off = (tgt : Int)) (hc : x = 0) (hd : decode (zm_by m) bp = .ok (.ifCond .eq off, 3)) : zs_ST l b L xs m bp ls (.int x :: r) ls tgt r := by
  intro p e R s mid args below meth c A H locs cells slots Q as rls rst X hS hl hlen hv
  obtain ⟨hx, hb, -⟩ := X
  obtain ⟨w0, e0, hv0⟩ := zs_int hv
  subst e0
  exact ⟨_, hv0, fun k => lv_if_eq hx hb hd ht (fun _ => k rls hl) (fun z => absurd hc z)⟩
theorem zt_if_eq_f {l : Launch} {b L : Nat} {xs : Nat → Int32} {m bp : Nat} {ls : zm_L} {r : List Value} {x : Int32} {off : Int} {tgt : Nat} (ht : (bp : Int) + off = (tgt : Int)) (hc : ¬ x = 0) (hd : decode (zm_by m) bp = .ok (.ifCond .eq off, 3)) : zs_ST l b L xs m bp ls (.int x :: r) ls (bp + 3) r := by
  intro p e R s mid args below meth c A H locs cells slots Q as rls rst X hS hl hlen hv
  obtain ⟨hx, hb, -⟩ := X
  obtain ⟨w0, e0, hv0⟩ := zs_int hv
  subst e0
  exact ⟨_, hv0, fun k => lv_if_eq hx hb hd ht (fun z => absurd z hc) (fun _ => k rls hl)⟩
theorem zt_icmp_ne_t {l : Launch} {b L : Nat} {xs : Nat → Int32} {m bp : Nat} {ls : zm_L} {r : List Value} {x y : Int32} {off : Int} {tgt : Nat} (ht : (bp : Int) + off = (tgt : Int)) (hc : ¬ x = y) (hd : decode (zm_by m) bp = .ok (.if_icmp .ne off, 3)) : zs_ST l b L xs m bp ls (.int y :: .int x :: r) ls tgt r := by
  intro p e R s mid args below meth c A H locs cells slots Q as rls rst X hS hl hlen hv
  obtain ⟨hx, hb, -⟩ := X
  obtain ⟨w0, e0, hv0⟩ := zs_int hv
  obtain ⟨w1, e1, hv1⟩ := zs_int hv0
  subst e1
  subst e0
  exact ⟨_, hv1, fun k => lv_icmp_ne hx hb hd ht (fun _ => k rls hl) (fun z => absurd z hc)⟩
theorem zt_icmp_ne_f {l : Launch} {b L : Nat} {xs : Nat → Int32} {m bp : Nat} {ls : zm_L} {r : List Value} {x y : Int32} {off : Int} {tgt : Nat} (ht : (bp : Int) + off = (tgt : Int)) (hc : x = y) (hd : decode (zm_by m) bp = .ok (.if_icmp .ne off, 3)) : zs_ST l b L xs m bp ls (.int y :: .int x :: r) ls (bp + 3) r := by
  intro p e R s mid args below meth c A H locs cells slots Q as rls rst X hS hl hlen hv
  obtain ⟨hx, hb, -⟩ := X
  obtain ⟨w0, e0, hv0⟩ := zs_int hv
  obtain ⟨w1, e1, hv1⟩ := zs_int hv0
  subst e1
  subst e0
  exact ⟨_, hv1, fun k => lv_icmp_ne hx hb hd ht (fun z => absurd hc z) (fun _ => k rls hl)⟩
theorem zt_if_ne_t {l : Launch} {b L : Nat} {xs : Nat → Int32} {m bp : Nat} {ls : zm_L} {r : List Value} {x : Int32} {off : Int} {tgt : Nat} (ht : (bp : Int) + off = (tgt : Int)) (hc : ¬ x = 0) (hd : decode (zm_by m) bp = .ok (.ifCond .ne off, 3)) : zs_ST l b L xs m bp ls (.int x :: r) ls tgt r := by
  intro p e R s mid args below meth c A H locs cells slots Q as rls rst X hS hl hlen hv
  obtain ⟨hx, hb, -⟩ := X
  obtain ⟨w0, e0, hv0⟩ := zs_int hv
  subst e0
  exact ⟨_, hv0, fun k => lv_if_ne hx hb hd ht (fun _ => k rls hl) (fun z => absurd z hc)⟩
theorem zt_if_ne_f {l : Launch} {b L : Nat} {xs : Nat → Int32} {m bp : Nat} {ls : zm_L} {r : List Value} {x : Int32} {off : Int} {tgt : Nat} (ht : (bp : Int) + off = (tgt : Int)) (hc : x = 0) (hd : decode (zm_by m) bp = .ok (.ifCond .ne off, 3)) : zs_ST l b L xs m bp ls (.int x :: r) ls (bp + 3) r := by
  intro p e R s mid args below meth c A H locs cells slots Q as rls rst X hS hl hlen hv
  obtain ⟨hx, hb, -⟩ := X
  obtain ⟨w0, e0, hv0⟩ := zs_int hv
  subst e0
  exact ⟨_, hv0, fun k => lv_if_ne hx hb hd ht (fun z => absurd hc z) (fun _ => k rls hl)⟩
theorem zt_icmp_lt_t {l : Launch} {b L : Nat} {xs : Nat → Int32} {m bp : Nat} {ls : zm_L} {r : List Value} {x y : Int32} {off : Int} {tgt : Nat} (ht : (bp : Int) + off = (tgt : Int)) (hc : x < y) (hd : decode (zm_by m) bp = .ok (.if_icmp .lt off, 3)) : zs_ST l b L xs m bp ls (.int y :: .int x :: r) ls tgt r := by
  intro p e R s mid args below meth c A H locs cells slots Q as rls rst X hS hl hlen hv
  obtain ⟨hx, hb, -⟩ := X
  obtain ⟨w0, e0, hv0⟩ := zs_int hv
  obtain ⟨w1, e1, hv1⟩ := zs_int hv0
  subst e1
  subst e0
  exact ⟨_, hv1, fun k => lv_icmp_lt hx hb hd ht (fun _ => k rls hl) (fun z => absurd hc z)⟩
theorem zt_icmp_lt_f {l : Launch} {b L : Nat} {xs : Nat → Int32} {m bp : Nat} {ls : zm_L} {r : List Value} {x y : Int32} {off : Int} {tgt : Nat} (ht : (bp : Int) + off = (tgt : Int)) (hc : ¬ x < y) (hd : decode (zm_by m) bp = .ok (.if_icmp .lt off, 3)) : zs_ST l b L xs m bp ls (.int y :: .int x :: r) ls (bp + 3) r := by
  intro p e R s mid args below meth c A H locs cells slots Q as rls rst X hS hl hlen hv
  obtain ⟨hx, hb, -⟩ := X
  obtain ⟨w0, e0, hv0⟩ := zs_int hv
  obtain ⟨w1, e1, hv1⟩ := zs_int hv0
  subst e1
  subst e0
  exact ⟨_, hv1, fun k => lv_icmp_lt hx hb hd ht (fun z => absurd z hc) (fun _ => k rls hl)⟩
theorem zt_if_lt_t {l : Launch} {b L : Nat} {xs : Nat → Int32} {m bp : Nat} {ls : zm_L} {r : List Value} {x : Int32} {off : Int} {tgt : Nat} (ht : (bp : Int) + off = (tgt : Int)) (hc : x < 0) (hd : decode (zm_by m) bp = .ok (.ifCond .lt off, 3)) : zs_ST l b L xs m bp ls (.int x :: r) ls tgt r := by
  intro p e R s mid args below meth c A H locs cells slots Q as rls rst X hS hl hlen hv
  obtain ⟨hx, hb, -⟩ := X
  obtain ⟨w0, e0, hv0⟩ := zs_int hv
  subst e0
  exact ⟨_, hv0, fun k => lv_if_lt hx hb hd ht (fun _ => k rls hl) (fun z => absurd hc z)⟩
theorem zt_if_lt_f {l : Launch} {b L : Nat} {xs : Nat → Int32} {m bp : Nat} {ls : zm_L} {r : List Value} {x : Int32} {off : Int} {tgt : Nat} (ht : (bp : Int) + off = (tgt : Int)) (hc : ¬ x < 0) (hd : decode (zm_by m) bp = .ok (.ifCond .lt off, 3)) : zs_ST l b L xs m bp ls (.int x :: r) ls (bp + 3) r := by
  intro p e R s mid args below meth c A H locs cells slots Q as rls rst X hS hl hlen hv
  obtain ⟨hx, hb, -⟩ := X
  obtain ⟨w0, e0, hv0⟩ := zs_int hv
  subst e0
  exact ⟨_, hv0, fun k => lv_if_lt hx hb hd ht (fun z => absurd z hc) (fun _ => k rls hl)⟩
theorem zt_icmp_ge_t {l : Launch} {b L : Nat} {xs : Nat → Int32} {m bp : Nat} {ls : zm_L} {r : List Value} {x y : Int32} {off : Int} {tgt : Nat} (ht : (bp : Int) + off = (tgt : Int)) (hc : y ≤ x) (hd : decode (zm_by m) bp = .ok (.if_icmp .ge off, 3)) : zs_ST l b L xs m bp ls (.int y :: .int x :: r) ls tgt r := by
  intro p e R s mid args below meth c A H locs cells slots Q as rls rst X hS hl hlen hv
  obtain ⟨hx, hb, -⟩ := X
  obtain ⟨w0, e0, hv0⟩ := zs_int hv
  obtain ⟨w1, e1, hv1⟩ := zs_int hv0
  subst e1
  subst e0
  exact ⟨_, hv1, fun k => lv_icmp_ge hx hb hd ht (fun _ => k rls hl) (fun z => absurd hc z)⟩
theorem zt_icmp_ge_f {l : Launch} {b L : Nat} {xs : Nat → Int32} {m bp : Nat} {ls : zm_L} {r : List Value} {x y : Int32} {off : Int} {tgt : Nat} (ht : (bp : Int) + off = (tgt : Int)) (hc : ¬ y ≤ x) (hd : decode (zm_by m) bp = .ok (.if_icmp .ge off, 3)) : zs_ST l b L xs m bp ls (.int y :: .int x :: r) ls (bp + 3) r := by
  intro p e R s mid args below meth c A H locs cells slots Q as rls rst X hS hl hlen hv
  obtain ⟨hx, hb, -⟩ := X
  obtain ⟨w0, e0, hv0⟩ := zs_int hv
  obtain ⟨w1, e1, hv1⟩ := zs_int hv0
  subst e1
  subst e0
  exact ⟨_, hv1, fun k => lv_icmp_ge hx hb hd ht (fun z => absurd z hc) (fun _ => k rls hl)⟩
theorem zt_if_ge_t {l : Launch} {b L : Nat} {xs : Nat → Int32} {m bp : Nat} {ls : zm_L} {r : List Value} {x : Int32} {off : Int} {tgt : Nat} (ht : (bp : Int) + off = (tgt : Int)) (hc : 0 ≤ x) (hd : decode (zm_by m) bp = .ok (.ifCond .ge off, 3)) : zs_ST l b L xs m bp ls (.int x :: r) ls tgt r := by
  intro p e R s mid args below meth c A H locs cells slots Q as rls rst X hS hl hlen hv
  obtain ⟨hx, hb, -⟩ := X
  obtain ⟨w0, e0, hv0⟩ := zs_int hv
  subst e0
  exact ⟨_, hv0, fun k => lv_if_ge hx hb hd ht (fun _ => k rls hl) (fun z => absurd hc z)⟩
theorem zt_if_ge_f {l : Launch} {b L : Nat} {xs : Nat → Int32} {m bp : Nat} {ls : zm_L} {r : List Value} {x : Int32} {off : Int} {tgt : Nat} (ht : (bp : Int) + off = (tgt : Int)) (hc : ¬ 0 ≤ x) (hd : decode (zm_by m) bp = .ok (.ifCond .ge off, 3)) : zs_ST l b L xs m bp ls (.int x :: r) ls (bp + 3) r := by
  intro p e R s mid args below meth c A H locs cells slots Q as rls rst X hS hl hlen hv
  obtain ⟨hx, hb, -⟩ := X
  obtain ⟨w0, e0, hv0⟩ := zs_int hv
  subst e0
  exact ⟨_, hv0, fun k => lv_if_ge hx hb hd ht (fun z => absurd z hc) (fun _ => k rls hl)⟩
theorem zt_icmp_gt_t {l : Launch} {b L : Nat} {xs : Nat → Int32} {m bp : Nat} {ls : zm_L} {r : List Value} {x y : Int32} {off : Int} {tgt : Nat} (ht : (bp : Int) + off = (tgt : Int)) (hc : y < x) (hd : decode (zm_by m) bp = .ok (.if_icmp .gt off, 3)) : zs_ST l b L xs m bp ls (.int y :: .int x :: r) ls tgt r := by
  intro p e R s mid args below meth c A H locs cells slots Q as rls rst X hS hl hlen hv
  obtain ⟨hx, hb, -⟩ := X
  obtain ⟨w0, e0, hv0⟩ := zs_int hv
  obtain ⟨w1, e1, hv1⟩ := zs_int hv0
  subst e1
  subst e0
  exact ⟨_, hv1, fun k => lv_icmp_gt hx hb hd ht (fun _ => k rls hl) (fun z => absurd hc z)⟩
theorem zt_icmp_gt_f {l : Launch} {b L : Nat} {xs : Nat → Int32} {m bp : Nat} {ls : zm_L} {r : List Value} {x y : Int32} {off : Int} {tgt : Nat} (ht : (bp : Int) + off = (tgt : Int)) (hc : ¬ y < x) (hd : decode (zm_by m) bp = .ok (.if_icmp .gt off, 3)) : zs_ST l b L xs m bp ls (.int y :: .int x :: r) ls (bp + 3) r := by
  intro p e R s mid args below meth c A H locs cells slots Q as rls rst X hS hl hlen hv
  obtain ⟨hx, hb, -⟩ := X
  obtain ⟨w0, e0, hv0⟩ := zs_int hv
  obtain ⟨w1, e1, hv1⟩ := zs_int hv0
  subst e1
  subst e0
  exact ⟨_, hv1, fun k => lv_icmp_gt hx hb hd ht (fun z => absurd z hc) (fun _ => k rls hl)⟩
theorem zt_if_gt_t {l : Launch} {b L : Nat} {xs : Nat → Int32} {m bp : Nat} {ls : zm_L} {r : List Value} {x : Int32} {off : Int} {tgt : Nat} (ht : (bp : Int) + off = (tgt : Int)) (hc : 0 < x) (hd : decode (zm_by m) bp = .ok (.ifCond .gt off, 3)) : zs_ST l b L xs m bp ls (.int x :: r) ls tgt r := by
  intro p e R s mid args below meth c A H locs cells slots Q as rls rst X hS hl hlen hv
  obtain ⟨hx, hb, -⟩ := X
  obtain ⟨w0, e0, hv0⟩ := zs_int hv
  subst e0
  exact ⟨_, hv0, fun k => lv_if_gt hx hb hd ht (fun _ => k rls hl) (fun z => absurd hc z)⟩
theorem zt_if_gt_f {l : Launch} {b L : Nat} {xs : Nat → Int32} {m bp : Nat} {ls : zm_L} {r : List Value} {x : Int32} {off : Int} {tgt : Nat} (ht : (bp : Int) + off = (tgt : Int)) (hc : ¬ 0 < x) (hd : decode (zm_by m) bp = .ok (.ifCond .gt off, 3)) : zs_ST l b L xs m bp ls (.int x :: r) ls (bp + 3) r := by
  intro p e R s mid args below meth c A H locs cells slots Q as rls rst X hS hl hlen hv
  obtain ⟨hx, hb, -⟩ := X
  obtain ⟨w0, e0, hv0⟩ := zs_int hv
  subst e0
  exact ⟨_, hv0, fun k => lv_if_gt hx hb hd ht (fun z => absurd z hc) (fun _ => k rls hl)⟩
theorem zt_icmp_le_t {l : Launch} {b L : Nat} {xs : Nat → Int32} {m bp : Nat} {ls : zm_L} {r : List Value} {x y : Int32} {off : Int} {tgt : Nat} (ht : (bp : Int) + off = (tgt : Int)) (hc : x ≤ y) (hd : decode (zm_by m) bp = .ok (.if_icmp .le off, 3)) : zs_ST l b L xs m bp ls (.int y :: .int x :: r) ls tgt r := by
  intro p e R s mid args below meth c A H locs cells slots Q as rls rst X hS hl hlen hv
  obtain ⟨hx, hb, -⟩ := X
  obtain ⟨w0, e0, hv0⟩ := zs_int hv
  obtain ⟨w1, e1, hv1⟩ := zs_int hv0
  subst e1
  subst e0
  exact ⟨_, hv1, fun k => lv_icmp_le hx hb hd ht (fun _ => k rls hl) (fun z => absurd hc z)⟩
theorem zt_icmp_le_f {l : Launch} {b L : Nat} {xs : Nat → Int32} {m bp : Nat} {ls : zm_L} {r : List Value} {x y : Int32} {off : Int} {tgt : Nat} (ht : (bp : Int) + off = (tgt : Int)) (hc : ¬ x ≤ y) (hd : decode (zm_by m) bp = .ok (.if_icmp .le off, 3)) : zs_ST l b L xs m bp ls (.int y :: .int x :: r) ls (bp + 3) r := by
  intro p e R s mid args below meth c A H locs cells slots Q as rls rst X hS hl hlen hv
  obtain ⟨hx, hb, -⟩ := X
  obtain ⟨w0, e0, hv0⟩ := zs_int hv
  obtain ⟨w1, e1, hv1⟩ := zs_int hv0
  subst e1
  subst e0
  exact ⟨_, hv1, fun k => lv_icmp_le hx hb hd ht (fun z => absurd z hc) (fun _ => k rls hl)⟩
theorem zt_if_le_t {l : Launch} {b L : Nat} {xs : Nat → Int32} {m bp : Nat} {ls : zm_L} {r : List Value} {x : Int32} {off : Int} {tgt : Nat} (ht : (bp : Int) + off = (tgt : Int)) (hc : x ≤ 0) (hd : decode (zm_by m) bp = .ok (.ifCond .le off, 3)) : zs_ST l b L xs m bp ls (.int x :: r) ls tgt r := by
  intro p e R s mid args below meth c A H locs cells slots Q as rls rst X hS hl hlen hv
  obtain ⟨hx, hb, -⟩ := X
  obtain ⟨w0, e0, hv0⟩ := zs_int hv
  subst e0
  exact ⟨_, hv0, fun k => lv_if_le hx hb hd ht (fun _ => k rls hl) (fun z => absurd hc z)⟩
theorem zt_if_le_f {l : Launch} {b L : Nat} {xs : Nat → Int32} {m bp : Nat} {ls : zm_L} {r : List Value} {x : Int32} {off : Int} {tgt : Nat} (ht : (bp : Int) + off = (tgt : Int)) (hc : ¬ x ≤ 0) (hd : decode (zm_by m) bp = .ok (.ifCond .le off, 3)) : zs_ST l b L xs m bp ls (.int x :: r) ls (bp + 3) r := by
  intro p e R s mid args below meth c A H locs cells slots Q as rls rst X hS hl hlen hv
  obtain ⟨hx, hb, -⟩ := X
  obtain ⟨w0, e0, hv0⟩ := zs_int hv
  subst e0
  exact ⟨_, hv0, fun k => lv_if_le hx hb hd ht (fun z => absurd z hc) (fun _ => k rls hl)⟩
theorem zt_const {l : Launch} {b L : Nat} {xs : Nat → Int32} {m bp : Nat} {ls : zm_L} {r : List Value} {k : Nat} {v : Int32} (hw : Cond.constant (zm_ow m) k v ∈ zm_GW) (hd : decode (zm_by m) bp = .ok (.ldc_w k, 3)) : zs_ST l b L xs m bp ls r ls (bp + 3) (.int v :: r) := by
  intro p e R s mid args below meth c A H locs cells slots Q as rls rst X hS hl hlen hv
  obtain ⟨hx, hb, -, -, -, hown, -, hts, -⟩ := X
  exact ⟨_, zs_mI hv, fun k => lv_ldcw hx hb hown (hts _ hw) hd (k rls hl)⟩
theorem zt_ldc {l : Launch} {b L : Nat} {xs : Nat → Int32} {m bp : Nat} {ls : zm_L} {r : List Value} {k : Nat} {v : Int32} (hw : Cond.constant (zm_ow m) k v ∈ zm_GW) (hd : decode (zm_by m) bp = .ok (.ldc k, 2)) : zs_ST l b L xs m bp ls r ls (bp + 2) (.int v :: r) := by
  intro p e R s mid args below meth c A H locs cells slots Q as rls rst X hS hl hlen hv
  obtain ⟨hx, hb, -, -, -, hown, -, hts, -⟩ := X
  exact ⟨_, zs_mI hv, fun k => lv_ldc hx hb hown (hts _ hw) hd (k rls hl)⟩
theorem zt_constL {l : Launch} {b L : Nat} {xs : Nat → Int32} {m bp : Nat} {ls : zm_L} {r : List Value} {k : Nat} {v : Int64} (hw : Cond.constantLong (zm_ow m) k v ∈ zm_GW) (hd : decode (zm_by m) bp = .ok (.ldc2_w k, 3)) : zs_ST l b L xs m bp ls r ls (bp + 3) (.long v :: r) := by
  intro p e R s mid args below meth c A H locs cells slots Q as rls rst X hS hl hlen hv
  obtain ⟨hx, hb, -, -, -, hown, -, hts, -⟩ := X
  exact ⟨_, zs_mL hv, fun k => lv_ldc2 hx hb hown (hts _ hw) hd (k rls hl)⟩
theorem zt_goto {l : Launch} {b L : Nat} {xs : Nat → Int32} {m bp : Nat} {ls : zm_L} {r : List Value} {off : Int} {tgt : Nat} (ht : (bp : Int) + off = (tgt : Int)) (hd : decode (zm_by m) bp = .ok (.goto off, 3)) : zs_ST l b L xs m bp ls r ls tgt r := by
  intro p e R s mid args below meth c A H locs cells slots Q as rls rst X hS hl hlen hv
  obtain ⟨hx, hb, -⟩ := X
  exact ⟨_, hv, fun k => lv_goto hx hb hd ht (k rls hl)⟩
theorem zt_dup {l : Launch} {b L : Nat} {xs : Nat → Int32} {m bp : Nat} {ls : zm_L} {r : List Value} {v : Value} (hc : v.category = 1) (hd : decode (zm_by m) bp = .ok (.dup, 1)) : zs_ST l b L xs m bp ls (v :: r) ls (bp + 1) (v :: v :: r) := by
  intro p e R s mid args below meth c A H locs cells slots Q as rls rst X hS hl hlen hv
  obtain ⟨hx, hb, -⟩ := X
  match rst, hv with
  | w :: rr, hv => exact ⟨_, zs_mV hv.1 (zs_mV hv.1 hv.2), fun k => lv_dup hx hb hd (hv.1.cat.symm.trans hc) (k rls hl)⟩
theorem zt_dup2 {l : Launch} {b L : Nat} {xs : Nat → Int32} {m bp : Nat} {ls : zm_L} {r : List Value} {v u : Value} (hc : v.category = 1) (hc2 : u.category = 1) (hd : decode (zm_by m) bp = .ok (.dup2, 1)) : zs_ST l b L xs m bp ls (v :: u :: r) ls (bp + 1) (v :: u :: v :: u :: r) := by
  intro p e R s mid args below meth c A H locs cells slots Q as rls rst X hS hl hlen hv
  obtain ⟨hx, hb, -⟩ := X
  match rst, hv with
  | w :: z :: rr, hv => exact ⟨_, zs_mV hv.1 (zs_mV hv.2.1 (zs_mV hv.1 (zs_mV hv.2.1 hv.2.2))), fun k => lv_dup2_11 hx hb hd (hv.1.cat.symm.trans hc) (hv.2.1.cat.symm.trans hc2) (k rls hl)⟩
theorem zt_pop {l : Launch} {b L : Nat} {xs : Nat → Int32} {m bp : Nat} {ls : zm_L} {r : List Value} {v : Value} (hc : v.category = 1) (hd : decode (zm_by m) bp = .ok (.pop, 1)) : zs_ST l b L xs m bp ls (v :: r) ls (bp + 1) r := by
  intro p e R s mid args below meth c A H locs cells slots Q as rls rst X hS hl hlen hv
  obtain ⟨hx, hb, -⟩ := X
  match rst, hv with
  | w :: rr, hv => exact ⟨_, hv.2, fun k => lv_pop hx hb hd (hv.1.cat.symm.trans hc) (k rls hl)⟩
theorem zt_ifnull {l : Launch} {b L : Nat} {xs : Nat → Int32} {m bp : Nat} {ls : zm_L} {r : List Value} {x : Nat} {off : Int} (hd : decode (zm_by m) bp = .ok (.ifnull off, 3)) : zs_ST l b L xs m bp ls (.ref x :: r) ls (bp + 3) r := by
  intro p e R s mid args below meth c A H locs cells slots Q as rls rst X hS hl hlen hv
  obtain ⟨hx, hb, -⟩ := X
  obtain ⟨a0, w0, e0, -, hv0⟩ := zs_ref hv
  subst e0
  exact ⟨_, hv0, fun k => lv_ifnull hx hb hd (k rls hl)⟩
theorem zt_iload_n {l : Launch} {b L : Nat} {xs : Nat → Int32} {m bp : Nat} {ls : zm_L} {r : List Value} {k : Fin 4} {i : Nat} (hi : (k : Nat) = i) {x : Int32} (hx0 : zm_lc ls i = some (.int x)) (hd : decode (zm_by m) bp = .ok (.iload_n k, 1)) : zs_ST l b L xs m bp ls r ls (bp + 1) (.int x :: r) := by
  intro p e R s mid args below meth c A H locs cells slots Q as rls rst X hS hl hlen hv
  obtain ⟨hx, hb, -⟩ := X
  obtain ⟨w, h1, h2⟩ := hl.2.2 _ _ hx0
  rw [show w = .int x from h2] at h1
  exact ⟨_, zs_mI hv, fun k => lv_iload_n hx hb hd hi h1 (k rls hl)⟩
theorem zt_iload {l : Launch} {b L : Nat} {xs : Nat → Int32} {m bp : Nat} {ls : zm_L} {r : List Value} {i : Nat} {x : Int32} (hx0 : zm_lc ls i = some (.int x)) (hd : decode (zm_by m) bp = .ok (.iload i, 2)) : zs_ST l b L xs m bp ls r ls (bp + 2) (.int x :: r) := by
  intro p e R s mid args below meth c A H locs cells slots Q as rls rst X hS hl hlen hv
  obtain ⟨hx, hb, -⟩ := X
  obtain ⟨w, h1, h2⟩ := hl.2.2 _ _ hx0
  rw [show w = .int x from h2] at h1
  exact ⟨_, zs_mI hv, fun k => lv_iload hx hb hd h1 (k rls hl)⟩
theorem zt_lload_n {l : Launch} {b L : Nat} {xs : Nat → Int32} {m bp : Nat} {ls : zm_L} {r : List Value} {k : Fin 4} {i : Nat} (hi : (k : Nat) = i) {x : Int64} (hx0 : zm_lc ls i = some (.long x)) (hd : decode (zm_by m) bp = .ok (.lload_n k, 1)) : zs_ST l b L xs m bp ls r ls (bp + 1) (.long x :: r) := by
  intro p e R s mid args below meth c A H locs cells slots Q as rls rst X hS hl hlen hv
  obtain ⟨hx, hb, -⟩ := X
  obtain ⟨w, h1, h2⟩ := hl.2.2 _ _ hx0
  rw [show w = .long x from h2] at h1
  exact ⟨_, zs_mL hv, fun k => lv_lload_n hx hb hd hi h1 (k rls hl)⟩
theorem zt_lload {l : Launch} {b L : Nat} {xs : Nat → Int32} {m bp : Nat} {ls : zm_L} {r : List Value} {i : Nat} {x : Int64} (hx0 : zm_lc ls i = some (.long x)) (hd : decode (zm_by m) bp = .ok (.lload i, 2)) : zs_ST l b L xs m bp ls r ls (bp + 2) (.long x :: r) := by
  intro p e R s mid args below meth c A H locs cells slots Q as rls rst X hS hl hlen hv
  obtain ⟨hx, hb, -⟩ := X
  obtain ⟨w, h1, h2⟩ := hl.2.2 _ _ hx0
  rw [show w = .long x from h2] at h1
  exact ⟨_, zs_mL hv, fun k => lv_lload hx hb hd h1 (k rls hl)⟩
theorem zt_aload_n {l : Launch} {b L : Nat} {xs : Nat → Int32} {m bp : Nat} {ls : zm_L} {r : List Value} {k : Fin 4} {i : Nat} (hi : (k : Nat) = i) {x : Nat} (hx0 : zm_lc ls i = some (.ref x)) (hd : decode (zm_by m) bp = .ok (.aload_n k, 1)) : zs_ST l b L xs m bp ls r ls (bp + 1) (.ref x :: r) := by
  intro p e R s mid args below meth c A H locs cells slots Q as rls rst X hS hl hlen hv
  obtain ⟨hx, hb, -⟩ := X
  obtain ⟨w, h1, a, h2, h3⟩ := hl.2.2 _ _ hx0
  rw [h3] at h1
  exact ⟨.ref a :: rst, zs_mR h2 hv, fun k => lv_aload_n hx hb hd hi h1 (k rls hl)⟩
theorem zt_aload {l : Launch} {b L : Nat} {xs : Nat → Int32} {m bp : Nat} {ls : zm_L} {r : List Value} {i : Nat} {x : Nat} (hx0 : zm_lc ls i = some (.ref x)) (hd : decode (zm_by m) bp = .ok (.aload i, 2)) : zs_ST l b L xs m bp ls r ls (bp + 2) (.ref x :: r) := by
  intro p e R s mid args below meth c A H locs cells slots Q as rls rst X hS hl hlen hv
  obtain ⟨hx, hb, -⟩ := X
  obtain ⟨w, h1, a, h2, h3⟩ := hl.2.2 _ _ hx0
  rw [h3] at h1
  exact ⟨.ref a :: rst, zs_mR h2 hv, fun k => lv_aload hx hb hd h1 (k rls hl)⟩
theorem zt_aload_s {l : Launch} {b L : Nat} {xs : Nat → Int32} {m bp : Nat} {ls : zm_L} {r : List Value} {k : Fin 4} {i : Nat} (hi : (k : Nat) = i) {x : UInt32} (hx0 : zm_lc ls i = some (.float x)) (hd : decode (zm_by m) bp = .ok (.aload_n k, 1)) : zs_ST l b L xs m bp ls r ls (bp + 1) (.float x :: r) := by
  intro p e R s mid args below meth c A H locs cells slots Q as rls rst X hS hl hlen hv
  obtain ⟨hx, hb, -⟩ := X
  obtain ⟨w, h1, h2⟩ := hl.2.2 _ _ hx0
  rw [show w = .ref b from h2] at h1
  exact ⟨.ref b :: rst, zs_mF hv, fun k => lv_aload_n hx hb hd hi h1 (k rls hl)⟩
theorem zt_istore_n {l : Launch} {b L : Nat} {xs : Nat → Int32} {m bp : Nat} {ls : zm_L} {r : List Value} {k : Fin 4} {i : Nat} (hi : (k : Nat) = i) {x : Int32} (hn : i < zm_ml m) (hd : decode (zm_by m) bp = .ok (.istore_n k, 1)) : zs_ST l b L xs m bp ls (.int x :: r) (zm_s1 ls i (.int x)) (bp + 1) r := by
  intro p e R s mid args below meth c A H locs cells slots Q as rls rst X hS hl hlen hv
  obtain ⟨hx, hb, -⟩ := X
  obtain ⟨w0, e0, hv0⟩ := zs_int hv
  subst e0
  exact ⟨_, hv0, fun k => lv_istore_n hx hb hd hi (zs_all_has hl.2.1) (by rw [hl.1, hlen]; exact hn) rfl (fun ls2 h2 => k ls2 (hl.put1 rfl h2))⟩
theorem zt_istore {l : Launch} {b L : Nat} {xs : Nat → Int32} {m bp : Nat} {ls : zm_L} {r : List Value} {i : Nat} {x : Int32} (hn : i < zm_ml m) (hd : decode (zm_by m) bp = .ok (.istore i, 2)) : zs_ST l b L xs m bp ls (.int x :: r) (zm_s1 ls i (.int x)) (bp + 2) r := by
  intro p e R s mid args below meth c A H locs cells slots Q as rls rst X hS hl hlen hv
  obtain ⟨hx, hb, -⟩ := X
  obtain ⟨w0, e0, hv0⟩ := zs_int hv
  subst e0
  exact ⟨_, hv0, fun k => lv_istore hx hb hd (zs_all_has hl.2.1) (by rw [hl.1, hlen]; exact hn) rfl (fun ls2 h2 => k ls2 (hl.put1 rfl h2))⟩
theorem zt_lstore_n {l : Launch} {b L : Nat} {xs : Nat → Int32} {m bp : Nat} {ls : zm_L} {r : List Value} {k : Fin 4} {i : Nat} (hi : (k : Nat) = i) {x : Int64} (hn : i + 1 < zm_ml m) (hd : decode (zm_by m) bp = .ok (.lstore_n k, 1)) : zs_ST l b L xs m bp ls (.long x :: r) (zm_s2 ls i (.long x)) (bp + 1) r := by
  intro p e R s mid args below meth c A H locs cells slots Q as rls rst X hS hl hlen hv
  obtain ⟨hx, hb, -⟩ := X
  obtain ⟨w0, e0, hv0⟩ := zs_lng hv
  subst e0
  exact ⟨_, hv0, fun k => lv_lstore_n hx hb hd hi (zs_all_has hl.2.1) (by rw [hl.1, hlen]; exact hn) rfl (fun ls2 h2 => k ls2 (hl.put2 rfl h2))⟩
theorem zt_lstore {l : Launch} {b L : Nat} {xs : Nat → Int32} {m bp : Nat} {ls : zm_L} {r : List Value} {i : Nat} {x : Int64} (hn : i + 1 < zm_ml m) (hd : decode (zm_by m) bp = .ok (.lstore i, 2)) : zs_ST l b L xs m bp ls (.long x :: r) (zm_s2 ls i (.long x)) (bp + 2) r := by
  intro p e R s mid args below meth c A H locs cells slots Q as rls rst X hS hl hlen hv
  obtain ⟨hx, hb, -⟩ := X
  obtain ⟨w0, e0, hv0⟩ := zs_lng hv
  subst e0
  exact ⟨_, hv0, fun k => lv_lstore hx hb hd (zs_all_has hl.2.1) (by rw [hl.1, hlen]; exact hn) rfl (fun ls2 h2 => k ls2 (hl.put2 rfl h2))⟩
theorem zt_astore_n {l : Launch} {b L : Nat} {xs : Nat → Int32} {m bp : Nat} {ls : zm_L} {r : List Value} {k : Fin 4} {i : Nat} (hi : (k : Nat) = i) {x : Nat} (hn : i < zm_ml m) (hd : decode (zm_by m) bp = .ok (.astore_n k, 1)) : zs_ST l b L xs m bp ls (.ref x :: r) (zm_s1 ls i (.ref x)) (bp + 1) r := by
  intro p e R s mid args below meth c A H locs cells slots Q as rls rst X hS hl hlen hv
  obtain ⟨hx, hb, -⟩ := X
  obtain ⟨a, w0, e0, ha, hv0⟩ := zs_ref hv
  subst e0
  exact ⟨_, hv0, fun k => lv_astore_n hx hb hd hi (zs_all_has hl.2.1) (by rw [hl.1, hlen]; exact hn) rfl (fun ls2 h2 => k ls2 (hl.put1 ⟨a, ha, rfl⟩ h2))⟩
theorem zt_astore {l : Launch} {b L : Nat} {xs : Nat → Int32} {m bp : Nat} {ls : zm_L} {r : List Value} {i : Nat} {x : Nat} (hn : i < zm_ml m) (hd : decode (zm_by m) bp = .ok (.astore i, 2)) : zs_ST l b L xs m bp ls (.ref x :: r) (zm_s1 ls i (.ref x)) (bp + 2) r := by
  intro p e R s mid args below meth c A H locs cells slots Q as rls rst X hS hl hlen hv
  obtain ⟨hx, hb, -⟩ := X
  obtain ⟨a, w0, e0, ha, hv0⟩ := zs_ref hv
  subst e0
  exact ⟨_, hv0, fun k => lv_astore hx hb hd (zs_all_has hl.2.1) (by rw [hl.1, hlen]; exact hn) rfl (fun ls2 h2 => k ls2 (hl.put1 ⟨a, ha, rfl⟩ h2))⟩
theorem zt_iinc {l : Launch} {b L : Nat} {xs : Nat → Int32} {m bp : Nat} {ls : zm_L} {r : List Value} {i : Nat} {n : Int} {x v : Int32} (hx0 : zm_lc ls i = some (.int x)) (hv0 : Int32.ofInt n = v) (hn : i < zm_ml m) (hd : decode (zm_by m) bp = .ok (.iinc i n, 3)) : zs_ST l b L xs m bp ls r (zm_s1 ls i (.int (x + v))) (bp + 3) r := by
  intro p e R s mid args below meth c A H locs cells slots Q as rls rst X hS hl hlen hv
  obtain ⟨hx, hb, -⟩ := X
  obtain ⟨w, h1, h2⟩ := hl.2.2 _ _ hx0
  rw [show w = .int x from h2] at h1
  obtain ⟨k0, hk0⟩ := List.getElem?_of_mem (zs_all_mem h1)
  exact ⟨_, hv, fun k => lv_iinc hx hb hd (zs_all_has hl.2.1) hk0 (by rw [hv0]) (by rw [hl.1, hlen]; exact hn) rfl (fun ls2 h2 => k ls2 (hl.put1 rfl h2))⟩
