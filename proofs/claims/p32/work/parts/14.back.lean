/-! .. behind a call: what comes back, and where a thrown exception goes on -/
/-- nothing is caught in this program -/
theorem zk_hhs : (zm_mt.all fun x => x.2.2.2.2.2.1.isEmpty) = true := by decide +kernel
theorem zk_hh (m : Nat) (hm : m < zm_n) : zm_hh m = [] := by
  unfold zm_hh zm_me
  cases h : zm_mt[m]? with
  | none => rfl
  | some x => exact List.isEmpty_iff.mp (List.all_eq_true.mp zk_hhs x (List.mem_of_getElem? h))
theorem zs_vs.push {b : Nat} {as : List Nat} {v ov : Option Value} {rest rr : List Value} (ho : zs_o b as v ov) (h : zs_vs b as rest rr) : zs_vs b as (v.toList ++ rest) (ov.toList ++ rr) := by
  cases v with
  | none => cases ov with
    | none => exact h
    | some w => exact ho.elim
  | some u => cases ov with
    | none => exact ho.elim
    | some w => exact ⟨ho, h⟩
theorem zm_pc_at {m i : Nat} {e : zm_E} (h : (zm_cd m)[i]? = some e) : zm_pc m i = some e.1 := by
  unfold zm_pc
  rw [h]
theorem zm_pc_inv {m i bp : Nat} (h : zm_pc m i = some bp) : ∃ e, (zm_cd m)[i]? = some e ∧ e.1 = bp := by
  unfold zm_pc at h
  split at h
  · rename_i e he
    exact ⟨e, he, Option.some.inj h⟩
  · cases h
/-- the handler that takes exception k at index i -/
theorem zs_fd (hup : ∀ m, m < zm_n → zc_up (zm_cd m) = true) {m i k g kk bp : Nat} (hm : m < zm_n) (hp : zm_pc m i = some bp) : ∀ (qs : List (Nat × Nat × Nat × Nat × Nat)) (zs : List (Nat × Nat × Nat × Nat)) (ps : List Nat), zc_hs m qs zs ps = true → zm_fd qs i k = some (g, kk) →
    ∃ pre z suf, zs = pre ++ z :: suf ∧ (∀ y ∈ pre, covers (⟨y.1, y.2.1, y.2.2.1, y.2.2.2⟩ : ExceptionTableEntry) bp = false ∨ (y.2.2.2 ≠ 0 ∧ ∃ u, u < 3 ∧ Cond.classLink (zm_ow m) y.2.2.2 (zm_ex u) ∈ zm_GW ∧ u ≠ k)) ∧ covers (⟨z.1, z.2.1, z.2.2.1, z.2.2.2⟩ : ExceptionTableEntry) bp = true ∧ z.2.2.2 ≠ 0 ∧ Cond.classLink (zm_ow m) z.2.2.2 (zm_ex k) ∈ zm_GW ∧
      ∃ j e2 e3, g = j + 1 ∧ (zm_cd m)[j]? = some e2 ∧ (zm_cd m)[j + 1]? = some e3 ∧ e2.1 = z.2.2.1 ∧ kk < zm_ml m ∧ ((∃ f : Fin 4, e2.2.1 = .astore_n f ∧ (f : Nat) = kk ∧ e3.1 = e2.1 + 1) ∨ (e2.2.1 = .astore kk ∧ e3.1 = e2.1 + 2))
  | [], _, _, _, h => by simp [zm_fd] at h
  | q :: qs, [], _, h0, _ => by simp [zc_hs] at h0
  | q :: qs, z :: zs, [], h0, _ => by simp [zc_hs] at h0
  | q :: qs, z :: zs, x :: ps, h0, h => by
    simp only [zc_hs, Bool.and_eq_true] at h0
    obtain ⟨h1, h2⟩ := h0
    obtain ⟨ei, hei, hbi⟩ := zm_pc_inv hp
    unfold zc_h1 at h1
    simp only [Bool.and_eq_true] at h1
    obtain ⟨⟨⟨h3, h4⟩, h5⟩, h6⟩ := h1
    split at h3
    · rename_i e0 e1 e2 e3 he0 he1 he2 he3
      simp only [Bool.and_eq_true] at h3
      obtain ⟨⟨⟨⟨⟨a0, a1⟩, a2⟩, a3⟩, a4⟩, a5⟩ := h3
      have a0 := Nat.eq_of_beq_eq_true a0
      have a1 := Nat.eq_of_beq_eq_true a1
      have a2 := Nat.eq_of_beq_eq_true a2
      have a3 : 0 < q.2.2.2.1 := by simpa using a3
      have a4 : q.2.2.2.2 < zm_ml m := by simpa using a4
      have h4 : q.2.2.1 < 3 := by simpa using h4
      have hz0 : z.2.2.2 ≠ 0 := by
        intro e9
        rw [e9] at h5
        cases h5
      have hl := zc_okw h6
      have rise := fun (u v : Nat) (x y : zm_E) => zc_rise (zm_cd m) u v x y (hup m hm)
      have hcov : covers (⟨z.1, z.2.1, z.2.2.1, z.2.2.2⟩ : ExceptionTableEntry) bp = true ↔ (q.1 ≤ i ∧ i < q.2.1) := by
        show (decide (z.1 ≤ bp) && decide (bp < z.2.1)) = true ↔ _
        rw [Bool.and_eq_true, decide_eq_true_eq, decide_eq_true_eq]
        constructor
        · rintro ⟨b1, b2⟩
          refine ⟨Nat.le_of_not_lt fun hlt => ?_, Nat.lt_of_not_le fun hle => ?_⟩
          · have := rise _ _ _ _ hei he0 hlt
            omega
          · rcases Nat.lt_or_eq_of_le hle with hlt | heq
            · have := rise _ _ _ _ he1 hei hlt
              omega
            · rw [heq] at he1
              cases Option.some.inj (he1.symm.trans hei)
              omega
        · rintro ⟨b1, b2⟩
          have hb2 := rise _ _ _ _ hei he1 b2
          refine ⟨?_, by omega⟩
          rcases Nat.lt_or_eq_of_le b1 with hlt | heq
          · have := rise _ _ _ _ he0 hei hlt
            omega
          · rw [heq] at he0
            cases Option.some.inj (he0.symm.trans hei)
            omega
      obtain ⟨qf, qt, qy, qg, qk⟩ := q
      simp only [zm_fd] at h
      split at h
      · rename_i hc
        obtain ⟨c1, c2, c3⟩ := hc
        simp only [Option.some.injEq, Prod.mk.injEq] at h
        obtain ⟨h8, h9⟩ := h
        subst h8
        subst h9
        subst c3
        have hnil : ∀ y ∈ ([] : List (Nat × Nat × Nat × Nat)), covers (⟨y.1, y.2.1, y.2.2.1, y.2.2.2⟩ : ExceptionTableEntry) bp = false ∨ (y.2.2.2 ≠ 0 ∧ ∃ u, u < 3 ∧ Cond.classLink (zm_ow m) y.2.2.2 (zm_ex u) ∈ zm_GW ∧ u ≠ qy) := fun y hy => nomatch hy
        refine ⟨[], z, zs, rfl, hnil, hcov.mpr ⟨c1, c2⟩, hz0, hl, qg - 1, e2, e3, ?_, he2, ?_, a2, a4, ?_⟩
        · dsimp only at a3
          omega
        · dsimp only at a3 he3
          rw [show qg - 1 + 1 = qg by omega]
          exact he3
        · split at a5
          · rename_i f hf
            simp only [Bool.and_eq_true] at a5
            exact Or.inl ⟨f, hf, Nat.eq_of_beq_eq_true a5.1, Nat.eq_of_beq_eq_true a5.2⟩
          · rename_i f hf
            simp only [Bool.and_eq_true] at a5
            refine Or.inr ⟨?_, Nat.eq_of_beq_eq_true a5.2⟩
            rw [hf, Nat.eq_of_beq_eq_true a5.1]
          · cases a5
      · rename_i hc
        obtain ⟨pre, z', suf, r1, r2, r3⟩ := zs_fd hup hm hp qs zs ps h2 h
        refine ⟨z :: pre, z', suf, by rw [r1]; rfl, ?_, r3⟩
        intro y hy
        rcases List.mem_cons.mp hy with e | hy
        · subst e
          by_cases hq : qf ≤ i ∧ i < qt
          · refine Or.inr ⟨hz0, qy, h4, hl, fun e9 => hc ⟨hq.1, hq.2, e9⟩⟩
          · refine Or.inl ?_
            cases hcv : covers (⟨y.1, y.2.1, y.2.2.1, y.2.2.2⟩ : ExceptionTableEntry) bp with
            | false => rfl
            | true => exact absurd (hcov.mp hcv) hq
        · exact r2 y hy
    · cases h3
theorem zs_inv (hall : zc_All) {l : Launch} {b L : Nat} {xs : Nat → Int32} {m i bp : Nat} {ls : zm_L} {st rest : List Value} {h : zm_H} {r1 r : zm_R} (hp : zm_pc m i = some bp) (hp' : zm_pc m (i + 1) = some (bp + 3)) (hlo : h.2.2.1 ≤ r1.2.2.2.1 ∧ h.2.2.2 ≤ r1.2.2.2.2)
    (kv : ∀ v, r1.1 = .inl v → zs_S l b L xs m (i + 1) ls (v.toList ++ rest) r1.2 r)
    (kx : ∀ k, r1.1 = .inr k → (zm_hh m = [] ∧ r = (.inr k, r1.2)) ∨ ∃ g kk, zm_hh m ≠ [] ∧ zm_fd (zm_ht m) i k = some (g, kk) ∧ zs_S l b L xs m g (zm_s0 ls kk) [] r1.2 r)
    (hrun : ∀ (p : Program) (e : Env) (R : Room) (s : State) (mid : MethodId) (args : Array Value) (below : List Frame) (meth : Method) (c : Code) (dC : Nat → ClassId) (dI : Nat → Nat → Nat) (A : Nat → Prop) (H : Heap) (locs : List Loc) (cells slots : Nat) (ws : va_W) (tys : List (ClassId × FieldType)) (rls : Array Slot) (rst : List Value) (mc1 ms1 : Nat),
      zs_X l p R s mid args meth c m b L xs A → zs_W b dC dI ws tys A s H locs h → rls.size = zm_ml m → zs_vs b (ws.map Prod.fst) st rst → mc1 = r1.2.2.2.1 - h.2.2.1 → ms1 = r1.2.2.2.2 - h.2.2.2 → (cells + mc1 ≤ R.cells ∧ slots + ms1 ≤ R.slots) →
      ∃ rr av, zs_vs b (ws.map Prod.fst) rest rr ∧ vx_Run p l e R s mid args below meth c H locs cells slots mc1 ms1 (F0 mid bp rls rst) rr (zs_Q b dC dI (ws.map Prod.fst) (va_A ws H.size) r1 av) (zs_T b dC dI (ws.map Prod.fst) (va_A ws H.size) r1) (va_A ws H.size)) :
    zs_S l b L xs m i ls st h r := by
  have hge : r1.2.2.2.1 ≤ r.2.2.2.1 ∧ r1.2.2.2.2 ≤ r.2.2.2.2 := by
    cases hq : r1.1 with
    | inl v => exact ⟨(kv v hq).1, (kv v hq).2.1⟩
    | inr k =>
      rcases kx k hq with ⟨-, e⟩ | ⟨g, kk, -, -, e⟩
      · rw [e]; exact ⟨Nat.le_refl _, Nat.le_refl _⟩
      · exact ⟨e.1, e.2.1⟩
  refine ⟨by omega, by omega, ?_⟩
  intro p e R s mid args below meth c dC dI A H locs cells slots ws tys rls rst as0 kc ks mc ms pc X hT hW ha hl hml hv hpc h1 h2 h3 h4 h5 h6
  cases Option.some.inj (hp.symm.trans hpc)
  have hrl : rls.size = zm_ml m := hl.1.trans hml
  obtain ⟨rr, av, hrr, hr⟩ := hrun p e R s mid args below meth c dC dI A H locs cells slots ws tys rls rst _ _ X hW hrl hv rfl rfl ⟨by omega, by omega⟩
  have hA := X.2.2.2.2.2.2.2.2.2.2.2.2.1
  obtain ⟨t0, ht0⟩ := ha
  refine zs_back hr hW (zs_free hW hA) ?_ ?_
  · intro v ov H1 locs1 ws1 tys1 hr1 ho hW1 ha1
    obtain ⟨t1, ht1⟩ := ha1
    refine (kv v hr1).2.2 p e R s mid args below meth c dC dI A H1 locs1 _ _ ws1 tys1 rls _ as0 kc ks mc ms (bp + 3) X hT hW1 ⟨t0 ++ t1, by rw [ht1, ht0, List.append_assoc]⟩ ?_ hml ?_ hp' (by omega) (by omega) h3 h4 h5 h6
    · rw [ht1]; exact hl.ap _
    · refine zs_vs.push ho ?_
      rw [ht1]; exact hrr.ap _
  · intro k H1 locs1 ws1 tys1 q9 ce hr1 hk3 hW1 ha1 hcell hcv hcl
    obtain ⟨t1, ht1⟩ := ha1
    rcases kx k hr1 with ⟨hnil, e9⟩ | ⟨g, kk, hne, hfd, hS2⟩
    · subst e9
      have htab : c.exceptionTable.toList = [] := by
        rw [hT (Or.inr ⟨k, rfl⟩), hnil]
        rfl
      refine vx_out (E := zm_ex k) (fun x hx => by rw [htab] at hx; cases hx) X.2.2.2.1 hcell hcv hcl ?_ hW1.2.2.2.1.2.2 (by dsimp only at h3; omega) (by dsimp only at h4; omega)
      intro t ht hal
      obtain ⟨hP, hK, hD, hS, hh⟩ := hW1
      refine ⟨⟨k, ws1, tys1, rfl, rfl, hk3, ⟨t0 ++ t1, by rw [ht1, ht0, List.append_assoc]⟩, by rw [ht]; exact hP, va_K.moved hal hK, hD, hh⟩, hS.F ht⟩
    · have hm : m < zm_n := by
        obtain ⟨e5, h5e, -⟩ := zm_pc_inv hp
        exact zm_lt h5e
      obtain ⟨-, -, -, -, hp5, hhs⟩ := zc_m0h hall hm
      obtain ⟨pre, z, suf, k1, k2, k3, k4, k5, j, e2, e3, k6, k7, k8, k9, k10, k11⟩ := zs_fd (fun m hm => (zc_m0h hall hm).2.2.2.1) hm hp _ _ _ hhs hfd
      have htab : c.exceptionTable.toList = pre.map (fun q => (⟨q.1, q.2.1, q.2.2.1, q.2.2.2⟩ : ExceptionTableEntry)) ++ (⟨z.1, z.2.1, z.2.2.1, z.2.2.2⟩ : ExceptionTableEntry) :: suf.map (fun q => (⟨q.1, q.2.1, q.2.2.1, q.2.2.2⟩ : ExceptionTableEntry)) := by
        rw [hT (Or.inl hne), k1]
        unfold tableOf
        rw [List.map_append, List.map_cons]
      have hN := X.2.2.2.2.2.2.2.2.1
      have hts := X.2.2.2.2.2.2.2.1
      refine vx_catch (own := zm_ow m) (name := zm_ex k) (E := zm_ex k) X.2.2.2.2.2.1 _ _ _ htab ?_ k3 k4 (hts _ k5) (va_Nw.use rfl (hN.2.2.2.1 k hk3)) hcell hcv hcl ?_
      · intro x hx
        obtain ⟨y, hy, hy2⟩ := List.mem_map.mp hx
        subst hy2
        rcases k2 y hy with h9 | ⟨h9, u, hu3, hul, huk⟩
        · exact Or.inl h9
        · exact absurd (zk_hh m hm) hne
      · show W p l e R s mid args below meth c H1 locs1 _ _ _ (F0 mid z.2.2.1 rls [.ref q9])
        rw [← k9]
        obtain ⟨bp2, ins2, len2, a2, b2, c2, v2, w2, ts2⟩ := e2
        obtain ⟨ps2, hz⟩ := zc_at hall k7
        unfold zc_in at hz
        rw [Bool.and_eq_true, decide_eq_true_eq] at hz
        have hl1 : zs_l b (ws1.map Prod.fst) ls rls := by rw [ht1]; exact hl.ap _
        have hpe : zm_pc m g = some e3.1 := by rw [k6]; exact zm_pc_at k8
        have fin : ∀ (ls2 : Array Slot) (pc2 : Nat), pc2 = e3.1 → zs_l b (ws1.map Prod.fst) (zm_s0 ls kk) ls2 → W p l e R s mid args below meth c H1 locs1 (cells + (r1.2.2.2.1 - h.2.2.1)) (slots + (r1.2.2.2.2 - h.2.2.2)) (vx_MQ below (zs_Q b dC dI as0 A r) (zs_T b dC dI as0 A r) args s mc ms A) (F0 mid pc2 ls2 []) := by
          intro ls2 pc2 e5 hl2
          subst e5
          exact hS2.2.2 p e R s mid args below meth c dC dI A H1 locs1 _ _ ws1 tys1 ls2 [] as0 kc ks mc ms _ X hT hW1 ⟨t0 ++ t1, by rw [ht1, ht0, List.append_assoc]⟩ hl2 (by simp only [zm_s0, List.length_set, zs_cut_len]; exact hml) trivial hpe (by omega) (by omega) h3 h4 h5 h6
        rcases k11 with ⟨f, f1, f2, f3⟩ | ⟨f1, f3⟩
        · dsimp only at f1 f3
          subst f1
          have hd : decode (zm_by m) bp2 = .ok (.astore_n f, 1) := by
            have h9 := hz.2
            simp only [Bool.and_eq_true] at h9
            rw [← Nat.eq_of_beq_eq_true h9.1.2]
            exact hz.1
          exact lv_astore_n X.1 X.2.1 hd f2 (zs_all_has hl1.2.1) (by rw [hrl]; exact k10) rfl (fun ls2 h9 => fin ls2 _ f3.symm (hl1.put0 h9))
        · dsimp only at f1 f3
          subst f1
          have hd : decode (zm_by m) bp2 = .ok (.astore kk, 2) := by
            have h9 := hz.2
            simp only [Bool.and_eq_true] at h9
            rw [← Nat.eq_of_beq_eq_true h9.1.2]
            exact hz.1
          exact lv_astore X.1 X.2.1 hd (zs_all_has hl1.2.1) (by rw [hrl]; exact k10) rfl (fun ls2 h9 => fin ls2 _ f3.symm (hl1.put0 h9))
