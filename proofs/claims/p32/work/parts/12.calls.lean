/-! .. calls -/
def zs_B (b L : Nat) (xs : Nat → Int32) (dC : Nat → ClassId) (dI : Nat → Nat → Nat) (ws : va_W) (tys : List (ClassId × FieldType)) (sz : Nat) (U : State) : Prop :=
  U.heap.size = sz ∧ va_P (dC, dI) vwCl ws U.heap ∧ va_K (dC, dI) vwCl tys U ∧ va_D (fun _ => True) ws ∧ zs_N (va_A ws sz) U U.heap ∧ va_X b L xs U U.heap ∧ b < sz ∧ ¬ va_A ws sz b
theorem zs_blind {b L : Nat} {xs : Nat → Int32} {dC : Nat → ClassId} {dI : Nat → Nat → Nat} {ws : va_W} {tys : List (ClassId × FieldType)} {sz : Nat} {rvs : List Value} : FrameBlind (va_Pc rvs (zs_B b L xs dC dI ws tys sz)) := by
  intro a U g mk q
  obtain ⟨q0, q1, qP, qK, qD, qN, qX, qb, qA⟩ := q
  exact ⟨q0, q1, qP, va_K.moved (u := U) (U := U.calling g mk a) (Vm.Alike.refl U.vm) qK, qD, zs_N.to (s := U) (U := U.calling g mk a) (State.WarmedH.refl U) (fun _ _ _ => rfl) (fun _ h => h) qN, va_X.moved (u := U) (U := U.calling g mk a) (Vm.Alike.refl U.vm) qX, qb, qA⟩
theorem zc_m0h (hall : zc_All) {m : Nat} (hm : m < zm_n) : plainName (zm_nm m).cls = true ∧ (zm_nm m).cls = zm_ow m ∧ zm_pc m 0 = some 0 ∧ zc_up (zm_cd m) = true ∧ ∃ hp, zc_hs m (zm_ht m) (zm_hh m) hp = true := by
  obtain ⟨hp, h⟩ := hall m hm
  simp only [zc_me, zc_m0, Bool.and_eq_true, decide_eq_true_eq] at h
  obtain ⟨-, ⟨⟨⟨h1, h2⟩, h3⟩, h4⟩, h5⟩ := h
  refine ⟨h3, h4, ?_, h2, hp, h1⟩
  unfold zm_pc
  split at h5
  · rename_i e he
    rw [he]
    exact congrArg some (Nat.eq_of_beq_eq_true h5)
  · cases h5
theorem zs_met (hall : zc_All) {l : Launch} (hst : l.stackTraces = false) {b L : Nat} {xs : Nat → Int32} {m : Nat} (hm : m < zm_n) {vs rvs : List Value} {h : zm_H} {r : zm_R} (hS : zs_S l b L xs m 0 (zm_in (zm_ml m) vs) [] h r) (hin : (zm_in (zm_ml m) vs).length = zm_ml m)
    {dC : Nat → ClassId} {dI : Nat → Nat → Nat} {ws : va_W} {tys : List (ClassId × FieldType)} {sz : Nat} (hv : zs_vs b (ws.map Prod.fst) vs rvs) (hh : zs_h b ws tys h) :
    vx_Met l (zm_nm m) (zm_cw m :: zm_GW) { frames := zm_rf m, cells := r.2.2.2.1 - h.2.2.1, slots := r.2.2.2.2 - h.2.2.2, locals := zm_rl m } (va_Pc rvs (zs_B b L xs dC dI ws tys sz))
      (zs_Q b dC dI (ws.map Prod.fst) (va_A ws sz) r) (zs_T b dC dI (ws.map Prod.fst) (va_A ws sz) r) (r.2.2.2.1 - h.2.2.1) (r.2.2.2.2 - h.2.2.2) (va_A ws sz) := by
  obtain ⟨hpl, how, hpc, -, -⟩ := zc_m0h hall hm
  have body : ∀ (p : Program) (e : Env) (s : State) (mid : MethodId) (args : Array Value) (below : List Frame) (meth : Method) (c : Code) (s₁ : State), BodyLoose p l (zm_nm m) (headSpec (zm_cw m :: zm_GW) { frames := zm_rf m, cells := r.2.2.2.1 - h.2.2.1, slots := r.2.2.2.2 - h.2.2.2, locals := zm_rl m }) (zm_by m) (zm_ml m) (zm_re m) e s mid args below meth c s₁ → c.maxLocals = zm_ml m → (c.exceptionTable.toList = tableOf (zm_hh m)) → va_Pc rvs (zs_B b L xs dC dI ws tys sz) args s →
      W p l e { frames := zm_rf m, cells := r.2.2.2.1 - h.2.2.1, slots := r.2.2.2.2 - h.2.2.2, locals := zm_rl m } s mid args below meth c s.heap [] 0 0 (vx_MQ below (zs_Q b dC dI (ws.map Prod.fst) (va_A ws sz) r) (zs_T b dC dI (ws.map Prod.fst) (va_A ws sz) r) args s (r.2.2.2.1 - h.2.2.1) (r.2.2.2.2 - h.2.2.2) (va_A ws sz)) (entryFrame mid args (zm_ml m)) := by
    intro p e s mid args below meth c s₁ B hml ht hPc
    obtain ⟨rfl, hsz, hP, hK, hD0, hN, hXX, hbl, hbA⟩ := hPc
    subst hsz
    rw [lg_entry_eq]
    obtain ⟨g1, g2, hS⟩ := hS
    have hts := atoms_spec (ws := zm_cw m :: zm_GW) B.pre
    refine hS p e _ s mid _ below meth c dC dI (va_A ws s.heap.size) s.heap [] 0 0 ws tys _ [] (ws.map Prod.fst) h.2.2.1 h.2.2.2 (r.2.2.2.1 - h.2.2.1) (r.2.2.2.2 - h.2.2.2) 0 ?_ (fun _ => ht) ⟨hP, hK, hD0.self, va_S.rf, hh⟩ ⟨[], by simp⟩ (zs_entry hv hin) hin trivial hpc rfl rfl (by omega) (by omega) (Nat.le_refl _) (Nat.le_refl _)
    exact ⟨B.exec, B.bytes, B.returns, B.notSynchronized, hml, how ▸ findClass_of_methodNamed B.named, fun _ => (name_of_methodNamed B.named B.method).1.trans ‹_›, fun w hw => hts w (List.mem_cons_of_mem _ hw), hN, hXX, hbl, hbA, fun q hq => Or.inr hq, hst, Nat.le_refl _, Nat.le_refl _⟩
  cases hq : zm_hh m with
  | nil =>
    have hcw : zm_cw m = .code (zm_nm m) (zm_by m) (zm_ml m) (zm_re m) := by unfold zm_cw; rw [hq]
    refine vx_ofW (cc := zm_by m) (maxL := zm_ml m) (ret := zm_re m) (ws' := zm_GW) hpl (by rw [hcw]) ?_
    intro p e s mid args below meth c s₁ B hml ht hPc
    refine body p e s mid args below meth c s₁ B hml ?_ hPc
    rw [hq]
    exact List.eq_nil_iff_forall_not_mem.mpr ht
  | cons t tt =>
    have hcw : zm_cw m = .codeWith (zm_nm m) (zm_by m) (zm_ml m) (zm_re m) (t :: tt) := by unfold zm_cw; rw [hq]
    refine vx_ofWH (cc := zm_by m) (maxL := zm_ml m) (ret := zm_re m) (hh := t :: tt) (ws' := zm_GW) hpl (by rw [hcw]) ?_
    intro p e s mid args below meth c s₁ B hml hPc
    refine body p e s mid args below meth c s₁ B hml ?_ hPc
    rw [hq]
    refine vx_table (x := zm_nm m) B (bytes := zm_by m) (maxL' := zm_ml m) (ret' := zm_re m) ?_
    rw [← hcw]
    exact atoms_spec (ws := zm_cw m :: zm_GW) B.pre _ List.mem_cons_self
section ZK
variable {p : Program} {l : Launch} {e : Env} {R : Room} {s : State} {mid : MethodId} {args : Array Value} {below : List Frame} {meth : Method} {c : Code} {H : Heap} {locs : List Loc} {cells slots mc1 ms1 bp : Nat} {Q : State → Prop} {rls : Array Slot} {st0 rr : List Value} {av : Array Value}
  {b : Nat} {dC : Nat → ClassId} {dI : Nat → Nat → Nat} {ws : va_W} {tys : List (ClassId × FieldType)} {A A1 : Nat → Prop} {h : zm_H} {r1 : zm_R}
/-- behind a call: what came back -/
theorem zs_back (hr : vx_Run p l e R s mid args below meth c H locs cells slots mc1 ms1 (F0 mid bp rls st0) rr (zs_Q b dC dI (ws.map Prod.fst) A1 r1 av) (zs_T b dC dI (ws.map Prod.fst) A1 r1) A1) (hW : zs_W b dC dI ws tys A s H locs h) (hA1 : ∀ q, A1 q → A q)
    (kk : ∀ (v ov : Option Value) (H1 : Heap) (locs1 : List Loc) (ws1 : va_W) (tys1 : List (ClassId × FieldType)), r1.1 = .inl v → zs_o b (ws1.map Prod.fst) v ov → zs_W b dC dI ws1 tys1 A s H1 locs1 r1.2 → (∃ t0, ws1.map Prod.fst = ws.map Prod.fst ++ t0) → W p l e R s mid args below meth c H1 locs1 (cells + mc1) (slots + ms1) Q (F0 mid (bp + 3) rls (ov.toList ++ rr)))
    (kx : ∀ (k : Nat) (H1 : Heap) (locs1 : List Loc) (ws1 : va_W) (tys1 : List (ClassId × FieldType)) (q9 : Addr) (ce : Cell), r1.1 = .inr k → k < 3 → zs_W b dC dI ws1 tys1 A s H1 locs1 r1.2 → (∃ t0, ws1.map Prod.fst = ws.map Prod.fst ++ t0) → H1[q9]? = some ce → ce.vm = .none → s.vm.findClass (zm_ex k) = some ce.cls → vx_W p l e R s mid args below meth c H1 locs1 (cells + mc1) (slots + ms1) Q (F0 mid bp rls rr) q9) :
    W p l e R s mid args below meth c H locs cells slots Q (F0 mid bp rls st0) := by
  obtain ⟨hP, hK, hD, hS, hh⟩ := hW
  intro T hT X
  rcases hr T hT X with ⟨v, st₀, t, T', L, h0, X', hL, e1, e2, ⟨⟨v0, ov, ws1, tys1, hv, hr1, ho, hE1, hE2, hE3, hE4, hE5⟩, hF⟩, st⟩ | ⟨q, st₀, t, T', L, E, ce, h0, X', hL, e1, e2, ⟨⟨k, ws1, tys1, hr1, hE0, hk3, hE1, hE2, hE3, hE4, hE5⟩, hF⟩, hce, hcv, hcl, st⟩
  · cases hv
    obtain ⟨k1, k2, k3⟩ := vx_keep h0 e1 hS (fun q _ h => hA1 q h) hA1 hL hF
    have hal : t.vm.Alike s.vm := by
      rw [← e2]
      exact X'.warmed.alike.symm
    obtain ⟨t2, a1, b1⟩ := kk v0 v T'.heap (locs ++ L) ws1 tys1 hr1 ho ⟨by rw [e1]; exact hE2, va_K.moved hal hE3, hE4.weaken (fun _ _ _ h => hA1 _ h), k3, hE5⟩ hE1 T' rfl X'
    exact ⟨t2, st t2 a1, b1⟩
  · obtain ⟨k1, k2, k3⟩ := vx_keep h0 e1 hS (fun q _ h => hA1 q h) hA1 hL hF
    have hal : t.vm.Alike s.vm := by
      rw [← e2]
      exact X'.warmed.alike.symm
    subst hE0
    obtain ⟨t2, a1, b1⟩ := kx k T'.heap (locs ++ L) ws1 tys1 q ce hr1 hk3 ⟨by rw [e1]; exact hE2, va_K.moved hal hE3, hE4.weaken (fun _ _ _ h => hA1 _ h), k3, hE5⟩ hE1 (by rw [e1]; exact hce) hcv hcl T' rfl X'
    exact ⟨t2, st.trans a1, b1⟩
/-- a callee's cells are the caller's -/
theorem zs_free (hW : zs_W b dC dI ws tys A s H locs h) (hA : ∀ q, s.heap.size ≤ q → A q) : ∀ q, va_A ws H.size q → A q := by
  obtain ⟨hP, hK, hD, hS, hh⟩ := hW
  rintro q (⟨k, e, hk⟩ | hq)
  · exact hD.2 k _ hk
  · exact hA q (Nat.le_trans hS.1 hq)
theorem zs_pre {L : Nat} {xs : Nat → Int32} {m : Nat} (X : zs_X l p R s mid args meth c m b L xs A) (hW : zs_W b dC dI ws tys A s H locs h) : ∀ U : State, U.heap = H → s.WarmedH U.vm → zs_B b L xs dC dI ws tys H.size U := by
  obtain ⟨-, -, -, -, -, -, -, -, hN, hXX, hbl, hbA, hA, -⟩ := X
  have hfr := zs_free hW hA
  obtain ⟨hP, hK, hD, hS, hh⟩ := hW
  intro U hU hWm
  refine ⟨by rw [hU], by rw [hU]; exact hP, va_K.moved hWm.alike hK, hD.weaken (fun _ _ _ _ => trivial), ?_, ?_, Nat.lt_of_lt_of_le hbl hS.1, fun h => hbA (hfr b h)⟩
  · rw [hU]
    exact zs_N.to hWm (fun a h1 h2 => hS.2.1 a h1 h2) hfr hN
  · rw [hU]
    exact va_X.moved hWm.alike (hXX.kept (hS.2.1 b hbl hbA))
end ZK
