/-! THE LAW'S ENTRY: a run of the pure machine gives the law's own -/
def zm_h0 : zm_H := (0, fun _ => .inr (0, []), 0, 0)
theorem zk_nest : (zm_nest.all fun q => decide (Cond.methodLinkNest q.1 q.2.1 q.2.2.1 q.2.2.2 ∈ lw_tbl)) = true := by decide +kernel
theorem zk_txt : (zm_tx.all fun q => decide (Cond.stringRef RX7 q.1 q.2 ∈ lw_tbl) && decide (Cond.exactly (.string RX7 q.1) "java/lang/String" ∈ flatC (Cond.and given_1 narrow_1))) = true := by decide +kernel
theorem zk_cst : ((List.range 3).all fun x => decide (Cond.castable (zm_ex x) (zm_ex x) ∈ lw_tbl)) = true := by decide +kernel
theorem zk_dcl : (zm_dcl.all fun x => decide (Cond.declares x ∈ lw_tbl)) = true := by decide +kernel
theorem zk_ins : (vwCl.all fun q => decide (Cond.instantiable q.1 q.2.2 ∈ lw_tbl)) = true := by decide +kernel
theorem zk_N {s : State} {b : Nat} {A : Nat → Prop} (hts : ∀ w ∈ lw_tbl, w.before #[Value.ref b] s = true) (hg : (Cond.and given_1 narrow_1).before #[Value.ref b] s = true) (hA : ∀ a : Nat, a < s.heap.size → ¬ A a) : zs_N A s s.heap := by
  have hs := flat_of_before _ hg
  refine ⟨fun q hq => ?_, va_AO.of (hts _ (by decide +kernel)), fun q hq => ?_, fun x hx => ?_, fun x y hx hy hne => ?_, vx_Zqof (hts _ (by decide +kernel)) (hts _ (by decide +kernel)) (hs _ (by decide +kernel)) hA, vx_Zqof (hts _ (by decide +kernel)) (hts _ (by decide +kernel)) (hs _ (by decide +kernel)) hA, fun x hx => ?_⟩
  · exact va_Nw.of rfl (hts _ (of_decide_eq_true (List.all_eq_true.mp zk_nest q hq)))
  · have h1 := List.all_eq_true.mp zk_txt q hq
    rw [Bool.and_eq_true, decide_eq_true_eq, decide_eq_true_eq] at h1
    obtain ⟨a, -, -, -, h2, -⟩ := Cond.exactly_spec (hs _ h1.2)
    exact ⟨a, vk_R.of (hts _ h1.1) h2⟩
  · exact va_Nw.of rfl (hts _ (of_decide_eq_true (List.all_eq_true.mp zk_cst x (List.mem_range.mpr hx))))
  · trivial
  · exact va_Nw.of rfl (hts _ (of_decide_eq_true (List.all_eq_true.mp zk_dcl x hx)))
theorem zk_K {s : State} {b : Nat} (hts : ∀ w ∈ lw_tbl, w.before #[Value.ref b] s = true) : ∃ (dC : Nat → ClassId) (dI : Nat → Nat → Nat), va_K (dC, dI) vwCl [] s := by
  have H : ∀ c : Nat, ∃ p : ClassId × (Nat → Nat), ∀ q, vwCl[c]? = some q → u_Kn s q.1 q.2.1 q.2.2 p.1 p.2 := by
    intro c
    cases hq : vwCl[c]? with
    | none => exact ⟨(0, fun _ => 0), fun q h => by cases h⟩
    | some q =>
      obtain ⟨cC, iS, h⟩ := u_known (n := q.2.2) hts (fun w hw => (List.mem_filter.mp (zc_clin hq w hw)).1) (hts _ (of_decide_eq_true (List.all_eq_true.mp zk_ins q (List.mem_of_getElem? hq))))
      exact ⟨(cC, iS), fun q' h' => by cases h'; exact h⟩
  exact ⟨fun c => (Classical.choose (H c)).1, fun c => (Classical.choose (H c)).2, fun c q hq => Classical.choose_spec (H c) q hq, fun k q hk => by simp at hk⟩
theorem zs_start {p : Program} {e : Env} {s : State} {m : MethodId} {below : List Frame} {meth : Method} {c : Code} (l : Launch) (hflags : l.flags = flags0) {b L : Nat} {xs : Nat → Int32}
    (hexec : p.tables.exec = Jvm.exec) (hcode : c.code = code) (hret0 : meth.sig.returnType = ret) (hml : c.maxLocals = 5) (hown : s.vm.findClass "TradeRingsLaw" = some m.cls) (hts : ∀ w ∈ lw_tbl, w.before #[Value.ref b] s = true) (hX : va_X b L xs s s.heap) (hbl : b < s.heap.size) (hlk : meth.locks = false) (hg : (Cond.and given_1 narrow_1).before #[Value.ref b] s = true)
    {n : Nat} {r : zm_R} (hrun : zm_run (L, xs) n (206, 0, zm_in (zm_ml 206) [.float 0], [], zm_h0) = some r) (hr1 : r.1 = .inl (some (.int 1))) (hc : r.2.2.2.1 ≤ 600130) (hsl : r.2.2.2.2 ≤ 7301080) :
    W p l e room_1 s m #[Value.ref b] below meth c s.heap [] 0 0 (fun t => ∃ o, t.status = .running ∧ Ended t below o ∧ (o = .returned (some (.int 1)) ∧ Framed s o t [] 600130 7301080)) (entryFrame m ([Value.ref b] : List Value).toArray 5) := by
  have hS := zs_all_run zc_every (l := l) (b := b) n _ _ _ _ _ _ hrun
  obtain ⟨dC, dI, hK⟩ := zk_K hts
  have hst : l.stackTraces = false := by
    unfold Launch.stackTraces
    rw [hflags]
    decide +kernel
  have hv : zs_vs b ([] : List Nat) [.float 0] [.ref b] := ⟨rfl, trivial⟩
  have hin : (zm_in (zm_ml 206) [.float 0]).length = zm_ml 206 := by decide +kernel
  have hpc : zm_pc 206 0 = some 0 := by decide +kernel
  have key : W p l e room_1 s m #[Value.ref b] below meth c s.heap [] 0 0 (vx_MQ below (zs_Q b dC dI [] (fun q => s.heap.size ≤ q) r) (zs_T b dC dI [] (fun q => s.heap.size ≤ q) r) #[Value.ref b] s r.2.2.2.1 r.2.2.2.2 (fun q => s.heap.size ≤ q)) (entryFrame m ([Value.ref b] : List Value).toArray 5) := by
    rw [lg_entry_eq]
    refine hS.2.2 p e room_1 s m _ below meth c dC dI (fun q => s.heap.size ≤ q) s.heap [] 0 0 [] [] _ [] [] 0 0 r.2.2.2.1 r.2.2.2.2 0 ?_ ?_ ?_ ⟨[], rfl⟩ (zs_entry hv hin) hin trivial hpc rfl rfl (Nat.zero_add _).symm (Nat.zero_add _).symm hc hsl
    · refine ⟨hexec, hcode, hret0, hlk, hml, hown, fun h => absurd h (by decide +kernel), fun w hw => hts w (List.mem_filter.mp hw).1, zk_N hts hg (fun a ha h => by omega), hX, hbl, fun h => by omega, fun q hq => hq, hst, by decide +kernel, by decide +kernel⟩
    · intro h
      rcases h with h | ⟨k, h⟩
      · exact absurd (by decide +kernel) h
      · rw [hr1] at h
        cases h
    · refine ⟨fun k q hq => by simp at hq, hK, ⟨fun i j p0 q hi => by simp at hi, fun k q hk => by simp at hk⟩, ⟨Nat.le_refl _, fun q _ _ => rfl, fun q hq => by simp at hq⟩, rfl, fun i q hq => by simp at hq⟩
  intro T hT X
  obtain ⟨t, a1, o, b1, b2, b3⟩ := key T hT X
  refine ⟨t, a1, o, b1, b2, ?_⟩
  rcases b3 with ⟨⟨⟨v, ov, ws, tys, ho, hv1, hv2, -⟩, -⟩, Lq, hF, hfree⟩ | ⟨q, -, E, ce, Lq, ⟨⟨k, ws, tys, hk, -⟩, -⟩, -⟩
  · rw [hr1] at hv1
    cases hv1
    cases ov with
    | none => exact hv2.elim
    | some w =>
      have hw : w = .int 1 := hv2
      subst hw
      subst ho
      refine ⟨rfl, ⟨_, rfl⟩, hF.2.1, ?_⟩
      have h5 := hF.2.2
      have h6 : s.sameButNew ({ t with vm := s.vm } : State) ([] ++ Lq) _ _ := h5
      exact (State.sameButNew.drop_fresh h6 hfree).mono hc hsl
  · rw [hr1] at hk
    cases hk
