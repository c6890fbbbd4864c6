/-! CALLS: what both sides answer; what throws -/
abbrev zW : Type := zM × List zM × (Nat → Option zM) × (Nat → Nat) × Nat
abbrev zA : Type := Nat ⊕ (Int32 × zW)
def RCw (s : zv_S) (W : zW) : Prop := RC s W.1 W.2.1 W.2.2.1 W.2.2.2.1 W.2.2.2.2
def RMw (s : zv_S) (W : zW) : Prop := RM s W.1 W.2.1 W.2.2.1 W.2.2.2.1 W.2.2.2.2
def WAw (W : zW) : Prop := WA W.1 W.2.1 W.2.2.1
def FC (s t : zv_S) (e : Nat) : Prop := (∀ a, 88 ≤ a → t.1 a = s.1 a ∧ t.2.1 a = s.2.1 a) ∧ t.2.2 = s.2.2 + e
def exn (s : zv_S) : zv_S := (s.1, s.2.1, s.2.2 + 1)
abbrev XC (ex : Nat → Nat) (s : zv_S) (W : zW) (r : zA) (o : zm_O) (t : zv_S) : Prop := match r with
  | .inl k => o = .inr (ex k) ∧ RCw t W ∧ FC s t 1
  | .inr q => o = .inl (some (.int q.1)) ∧ RCw t q.2 ∧ FC s t 0
abbrev XM (s : zv_S) (W : zW) (r : zA) (x : Int32) (t : zv_S) : Prop := match r with
  | .inl k => t.1 88 8 = nI k ∧ RMw t W ∧ FR 88 109 s t
  | .inr q => t.1 88 8 = nI 0 ∧ x = q.1 ∧ RMw t q.2 ∧ FR 88 109 s t
abbrev XW (nk : Nat) (r : zA) : Prop := match r with
  | .inl k => 1 ≤ k ∧ k ≤ nk
  | .inr q => WAw q.2
def OK2 (sc : Nat × (Nat → Int32)) (ex : Nat → Nat) (nk mc mm : Nat) (ac am : List Value) (W : zW) : Prop :=
  ∃ r : zA, (∀ s, RCw s W → CC sc mc ac s (XC ex s W r)) ∧ (∀ s, RMw s W → CC sc mm am s (QI (XM s W r))) ∧ XW nk r
def inN (n : Nat) (x : Int32) : Bool := decide (0 ≤ x) && decide (x < nI n)
theorem inN_of {n : Nat} (h7 : n ≤ 7) {x : Int32} (h : inN n x = true) : ∃ i, i < n ∧ x = nI i := by
  unfold inN at h
  rw [Bool.and_eq_true, decide_eq_true_eq, decide_eq_true_eq] at h
  obtain ⟨j, hj, rfl⟩ := nI_of (Int32.not_lt.mpr h.1)
  exact ⟨j, (nI_ltI hj (by omega)).mp h.2, rfl⟩
theorem inN_no {n : Nat} (h7 : n ≤ 7) {i : Nat} (hi : i < n) : inN n (nI i) = true := by
  unfold inN
  rw [hasD h7 (by omega), decide_eq_true hi]
section FCS
variable {s t u : zv_S} {W : zW} {M N : zM} {L L' : List zM} {S S' : Nat → Option zM} {tx : Nat → Nat} {len lo hi e : Nat}
theorem FC.rf : FC s s 0 := ⟨fun _ _ => ⟨rfl, rfl⟩, rfl⟩
theorem FC.fr (h : FR lo hi s t) (h1 : hi ≤ 88) : FC s t 0 := ⟨fun a ha => h.1 a (by omega), h.2⟩
theorem FC.tr (h1 : FC s t 0) (h2 : FC t u e) : FC s u e := ⟨fun a ha => ⟨(h2.1 a ha).1.trans (h1.1 a ha).1, (h2.1 a ha).2.trans (h1.1 a ha).2⟩, by rw [h2.2, h1.2]; omega⟩
theorem FC.ex (h : FC s t 0) : FC s (exn t) 1 := ⟨h.1, by show t.2.2 + 1 = _; rw [h.2]⟩
theorem RCw.ex (h : RCw s W) : RCw (exn s) W := h
theorem RCw.fr (h : RCw s W) (hf : FR lo hi s t) (h1 : 58 ≤ lo ∧ hi ≤ 88) : RCw t W := RC.fr h hf (Or.inl h1)
theorem xc_r {ex : Nat → Nat} {x v : Int32} (h : RCw s W) (hf : FR lo hi s t) (h1 : 58 ≤ lo ∧ hi ≤ 88) (hv : x = v) : XC ex s W (.inr (v, W)) (.inl (some (.int x))) t := by
  subst hv
  exact ⟨rfl, h.fr hf h1, FC.fr hf (by omega)⟩
theorem xc_0 {ex : Nat → Nat} {x v : Int32} (h : RCw s W) (hv : x = v) : XC ex s W (.inr (v, W)) (.inl (some (.int x))) s := by
  subst hv
  exact ⟨rfl, h, FC.rf⟩
theorem xc_x {ex : Nat → Nat} {k y : Nat} (h : RCw s W) (hf : FR lo hi s t) (h1 : 58 ≤ lo ∧ hi ≤ 88) (he : y = ex k) : XC ex s W (.inl k) (.inr y) (exn t) := by
  subst he
  exact ⟨rfl, (h.fr hf h1 : RCw t W), (FC.fr hf (by omega)).ex⟩
theorem xc_e {ex : Nat → Nat} {k y : Nat} (h : RCw s W) (he : y = ex k) : XC ex s W (.inl k) (.inr y) (exn s) := by
  subst he
  exact ⟨rfl, h, FC.rf.ex⟩
theorem RCw.kM (h : RCw s (M, L, S, tx, len)) : MK s 3 M := h.1
theorem RCw.T (h : RCw s (M, L, S, tx, len)) : TXT s 2 1 1 tx len := h.2.2.2
theorem RCw.act (h : RCw s (M, L, S, tx, len)) (hf : FR lo hi s t) (h1 : 3 ≤ lo ∧ hi ≤ 50) (hM : MK t 3 N) (hH : HK t L') : RCw t (N, L', S, tx, len) :=
  ⟨hM, hH, h.2.2.1.fr hf (by omega), h.2.2.2.fr hf (by omega) (by omega)⟩
theorem GM.f88 (h : GM s t) : FR 88 109 s t := ⟨fun a ha => h.1 a (by omega) (by omega) (by omega) (by omega), h.2.1⟩
theorem xm_g {x v : Int32} (h : RMw s W) (hf : GM s t) (hq : QM (t.1 89) N) (h8 : t.1 88 8 = nI 0) (hv : x = v) : XM s W (.inr (v, (N, W.2))) x t := by
  subst hv
  exact ⟨h8, rfl, RM.gm h hf hq, hf.f88⟩
theorem xm_r {x v : Int32} (h : RMw s W) (hf : GM s t) (hq : QM (t.1 89) W.1) (h8 : t.1 88 8 = nI 0) (hv : x = v) : XM s W (.inr (v, W)) x t := by
  subst hv
  exact ⟨h8, rfl, RM.gm h hf hq, hf.f88⟩
theorem xm_x {x : Int32} {k : Nat} (h : RMw s W) (hf : GM s t) (hq : QM (t.1 89) W.1) : XM s W (.inl k) x (sI t 88 8 (nI k)) :=
  ⟨sI_s, RM.gm h (hf.tr GM.th) (by rw [sI_o (by omega)]; exact hq), (hf.tr GM.th).f88⟩
theorem RMw.kM (h : RMw s (M, L, S, tx, len)) : QM (s.1 89) M := h.1
theorem RMw.T (h : RMw s (M, L, S, tx, len)) : TXT s 94 88 7 tx len := h.2.2.2
theorem RMw.th {x : Int32} (h : RMw s W) : RMw (sI s 88 8 x) W := RM.th h x
theorem WAw.kM (h : WAw W) : MW W.1 := h.1
theorem WA.act (h : WA M L S) (hN : MW N) : WA N ((M :: L).take 14) S := ⟨hN, fun K hK => by
  have h1 := List.mem_of_mem_take hK
  rcases List.mem_cons.mp h1 with h2 | h2
  · rw [h2]; exact h.1
  · exact h.2.1 K h2, h.2.2⟩
end FCS
/-! the rules for what is thrown -/
theorem vv_cHP {sc : Nat × (Nat → Int32)} {m i g kk : Nat} {ls : zm_L} {st rest as : List Value} {s : zv_S} {Q : zm_O → zv_S → Prop} {P : zv_S → Prop} {x : Nat} {bp len a b c : Nat} {ins : Instr} {v : Int32} {w : Int64} {ts : List Nat} {tb : List (Nat × Nat × Nat × Nat × Nat)} (hc : (zm_cd m)[i]? = some (bp, ins, len, a, b, c, v, w, ts))
    (hG : zv_cal sc m i ls st s ins a b c v w ts as rest) (hcall : CC sc a as s (fun o u => o = .inr x ∧ P u)) (hh : zm_ht m = tb) (hne : tb ≠ []) (hf : zm_fd tb i x = some (g, kk)) (k : ∀ t, P t → VV sc m g (zm_s0 ls kk) [] t Q) : VV sc m i ls st s Q := by
  refine vv_c hc hG hcall ?_
  rintro o u ⟨rfl, hu⟩ h' hr
  obtain ⟨N, r, t', h1, h2, h3⟩ := k u hu h' hr
  refine ⟨N, r, t', fun n hn => ?_, h2, h3⟩
  have e1 : zm_hx (zm_run sc n) m i ls x h' = some r := by
    unfold zm_hx
    rw [hh]
    match tb, hne with
    | q :: qs, _ =>
      dsimp only
      rw [hf]
      exact h1 n hn
  match c with
  | 0 => exact e1
  | 1 => exact e1
  | n + 2 => exact e1
/-- a call of the class out of the law's own small methods -/
theorem v_cVB {sc : Nat × (Nat → Int32)} {m i : Nat} {ls : zm_L} {st rest as : List Value} {s : zv_S} {Q : zm_O → zv_S → Prop} {ex : Nat → Nat} {W : zW} {r : zA} {o bp len a b ci q : Nat} {v : Int32} {w : Int64} {tb : List (Nat × Nat × Nat × Nat × Nat)}
    (hc : (zm_cd m)[i]? = some (bp, .invokevirtual q, len, a, b, 1, v, w, [ci])) (hpa : zm_pa b [] st = some (as, .ref o :: rest)) (ho : o < 88) (his : zl_is o ci = true) (hcs : Nat.ble (zm_cs rest) 8 = true) (hh : zm_ht m = tb) (hne : tb ≠ [])
    (hcall : CC sc a (.ref o :: as) s (XC ex s W r))
    (hN : ∀ p t, r = .inr p → RCw t p.2 → FC s t 0 → VV sc m (i + 1) ls (.int p.1 :: rest) t Q)
    (hX : ∀ k, r = .inl k → ∃ g kk, zm_fd tb i (ex k) = some (g, kk) ∧ ∀ t, RCw t W → FC s t 1 → VV sc m g (zm_s0 ls kk) [] t Q) : VV sc m i ls st s Q := by
  cases r with
  | inr p =>
    refine v_cVI (P := fun x t => x = p.1 ∧ RCw t p.2 ∧ FC s t 0) hc hpa ho his hcs (hcall.mono fun o t h => ⟨_, h.1, rfl, h.2⟩) ?_
    rintro x t ⟨rfl, h1, h2⟩
    exact hN p t rfl h1 h2
  | inl k =>
    obtain ⟨g, kk, h1, h2⟩ := hX k rfl
    exact vv_cHP (P := fun t => RCw t W ∧ FC s t 1) hc (zg_V hpa ho his hcs) hcall hh hne h1 fun t h => h2 t h.1 h.2
section NEED
variable {sc : Nat × (Nat → Int32)} {s : zv_S} {M : zM}
theorem n_tr (hM : MK s 3 M) (hw : MW M) {x : Int32} (hx : inN (mN M) x = true) : RV sc 31 [.ref 0, .int x] s s := by
  refine cc_of ml_31 rfl rfl ?_
  refine v_al0 c_31_0 ?_
  refine v_gR (n0 := 3) c_31_1 rfl ?_
  refine v_il1 c_31_2 ?_
  refine v_cVi c_31_3 rfl (by decide) rfl rfl (k_has m3 hM.1 hw.1 x) ?_
  refine v_if_ne_tb c_31_4 (hx) ?_
  exact v_rv c_31_10 ⟨rfl, rfl⟩
theorem n_trX (hM : MK s 3 M) (hw : MW M) {x : Int32} (hx : inN (mN M) x = false) : CC sc 31 [.ref 0, .int x] s (fun o u => o = .inr 2 ∧ u = exn s) := by
  refine cc_of ml_31 rfl rfl ?_
  refine v_al0 c_31_0 ?_
  refine v_gR (n0 := 3) c_31_1 rfl ?_
  refine v_il1 c_31_2 ?_
  refine v_cVi c_31_3 rfl (by decide) rfl rfl (k_has m3 hM.1 hw.1 x) ?_
  refine v_if_ne_fb c_31_4 (hx) ?_
  refine vv_x c_31_5 ?_
  exact ⟨rfl, rfl⟩
theorem n_th (hM : MK s 3 M) (hw : MW M) {x : Int32} (hx : inN (mN M) x = true) : RV sc 32 [.ref 0, .int x] s s := by
  refine cc_of ml_32 rfl rfl ?_
  refine v_al0 c_32_0 ?_
  refine v_gR (n0 := 3) c_32_1 rfl ?_
  refine v_il1 c_32_2 ?_
  refine v_cVi c_32_3 rfl (by decide) rfl rfl (k_has m3 hM.1 hw.1 x) ?_
  refine v_if_ne_tb c_32_4 (hx) ?_
  exact v_rv c_32_10 ⟨rfl, rfl⟩
theorem n_thX (hM : MK s 3 M) (hw : MW M) {x : Int32} (hx : inN (mN M) x = false) : CC sc 32 [.ref 0, .int x] s (fun o u => o = .inr 2 ∧ u = exn s) := by
  refine cc_of ml_32 rfl rfl ?_
  refine v_al0 c_32_0 ?_
  refine v_gR (n0 := 3) c_32_1 rfl ?_
  refine v_il1 c_32_2 ?_
  refine v_cVi c_32_3 rfl (by decide) rfl rfl (k_has m3 hM.1 hw.1 x) ?_
  refine v_if_ne_fb c_32_4 (hx) ?_
  refine vv_x c_32_5 ?_
  exact ⟨rfl, rfl⟩
theorem n_sl {k : Nat} (hk : k < 2) : CC sc 33 [.ref 0, .int (nI k)] s (QR fun x t => x = 50 + 4 * k ∧ t = s) := by
  refine cc_of ml_33 rfl rfl ?_
  match k, hk with
  | 0, _ =>
    refine v_il1 c_33_0 ?_
    refine v_if_eq_T c_33_1 (by omega) (by omega) ?_
    refine v_il1 c_33_10 ?_
    refine v_if_ne_F c_33_11 (by omega) (by omega) ?_
    refine v_al0 c_33_12 ?_
    refine v_gR (n0 := 50) c_33_13 rfl ?_
    refine v_goto c_33_14 ?_
    refine v_ra c_33_17 ?_
    exact ⟨_, rfl, rfl, rfl⟩
  | 1, _ =>
    refine v_il1 c_33_0 ?_
    refine v_if_eq_F c_33_1 (by omega) (by omega) ?_
    refine v_il1 c_33_2 ?_
    refine v_icN (n := 1) c_33_3 rfl ?_
    refine v_icmp_eq_T c_33_4 (by omega) (by omega) (by omega) ?_
    refine v_il1 c_33_10 ?_
    refine v_if_ne_T c_33_11 (by omega) (by omega) ?_
    refine v_al0 c_33_15 ?_
    refine v_gR (n0 := 54) c_33_16 rfl ?_
    refine v_ra c_33_17 ?_
    exact ⟨_, rfl, rfl, rfl⟩
theorem n_slX {x : Int32} (hx : inN 2 x = false) : CC sc 33 [.ref 0, .int x] s (fun o u => o = .inr 2 ∧ u = exn s) := by
  refine cc_of ml_33 rfl rfl ?_
  have h0 : ¬ x = 0 := fun e => by subst e; revert hx; decide
  have h1 : ¬ x = nI 1 := fun e => by subst e; revert hx; decide
  refine v_il1 c_33_0 ?_
  refine v_if_eq_f c_33_1 (h0) ?_
  refine v_il1 c_33_2 ?_
  refine v_icN (n := 1) c_33_3 rfl ?_
  refine v_icmp_eq_f c_33_4 (h1) ?_
  refine vv_x c_33_5 ?_
  exact ⟨rfl, rfl⟩
theorem n_pt (hM : MK s 3 M) (hw : MW M) : CC sc 30 [.ref 0] s (QR fun x t => x = 61 ∧ TR t 61 (mN M) (mT M (mP M)) ∧ FR 61 69 s t) := by
  refine cc_of ml_30 rfl rfl ?_
  refine v_al0 c_30_0 ?_
  refine v_gR (n0 := 61) c_30_1 rfl ?_
  refine v_al0 c_30_2 ?_
  refine v_gR (n0 := 3) c_30_3 rfl ?_
  refine v_al0 c_30_4 ?_
  refine v_gR (n0 := 3) c_30_5 rfl ?_
  refine v_cVi c_30_6 rfl (by decide) rfl rfl (k_pre m3 hM hw) ?_
  refine v_cVV c_30_7 rfl (by decide) rfl rfl (c_fnd m3 t55 hM hw mP_n) ?_
  rintro t ⟨T, F⟩
  refine v_al0 c_30_8 ?_
  refine v_gR (n0 := 61) c_30_9 rfl ?_
  refine v_ra c_30_10 ?_
  exact ⟨_, rfl, rfl, T, F⟩
theorem n_rg {n : Nat} {T : zT} (hT : TR s 61 n T) (h7 : tRi T ≤ 7) {x : Int32} (hx : inN (tRi T) x = true) : RV sc 34 [.ref 61, .int x] s s := by
  refine cc_of ml_34 rfl rfl ?_
  refine v_al0 c_34_0 ?_
  refine v_il1 c_34_1 ?_
  refine v_cVi c_34_2 rfl (by decide) rfl rfl (c_has t55 hT h7 x) ?_
  refine v_if_ne_tb c_34_3 (hx) ?_
  exact v_rv c_34_9 ⟨rfl, rfl⟩
theorem n_rgX {n : Nat} {T : zT} (hT : TR s 61 n T) (h7 : tRi T ≤ 7) {x : Int32} (hx : inN (tRi T) x = false) : CC sc 34 [.ref 61, .int x] s (fun o u => o = .inr 2 ∧ u = exn s) := by
  refine cc_of ml_34 rfl rfl ?_
  refine v_al0 c_34_0 ?_
  refine v_il1 c_34_1 ?_
  refine v_cVi c_34_2 rfl (by decide) rfl rfl (c_has t55 hT h7 x) ?_
  refine v_if_ne_fb c_34_3 (hx) ?_
  refine vv_x c_34_4 ?_
  exact ⟨rfl, rfl⟩
end NEED
