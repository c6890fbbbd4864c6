/-! CALLS: the actions -/
section OP3
variable {sc : Nat × (Nat → Int32)} {s t u : zv_S} {M N : zM} {L L' : List zM} {S : Nat → Option zM} {tx : Nat → Nat} {len : Nat} {W : zW}
theorem RM.rem (h : RM s M L S tx len) (hp : HQ t L' ∧ (∀ a, a ≠ 88 → a ≠ 91 → t.1 a = s.1 a ∧ t.2.1 a = s.2.1 a) ∧ t.2.2 = s.2.2 ∧ ∀ j, j ≠ 3 → t.1 88 j = s.1 88 j) : RM t M L' S tx len := by
  obtain ⟨p1, p2, p3, p4⟩ := hp
  refine ⟨by rw [(p2 89 (by omega) (by omega)).1]; exact h.1, p1, h.2.2.1.of (p2 93 (by omega) (by omega)).1 (p2 92 (by omega) (by omega)).1, ?_⟩
  unfold TXT
  rw [(p2 94 (by omega) (by omega)).1, p4 7 (by omega)]
  exact h.2.2.2
theorem rem_fr (hp : HQ t L' ∧ (∀ a, a ≠ 88 → a ≠ 91 → t.1 a = s.1 a ∧ t.2.1 a = s.2.1 a) ∧ t.2.2 = s.2.2 ∧ ∀ j, j ≠ 3 → t.1 88 j = s.1 88 j) : FR 88 109 s t := ⟨fun a ha => hp.2.1 a (by omega) (by omega), hp.2.2.1⟩
theorem xm_a {x v : Int32} (h : RM t M L' S tx len) (hst : FR 88 109 s t) (h8 : t.1 88 8 = nI 0) (hf : GM t u) (hq : QM (u.1 89) N) (h8' : u.1 88 8 = t.1 88 8) (hv : x = v) : XM s W (.inr (v, (N, L', S, tx, len))) x u := by
  subst hv
  exact ⟨h8'.trans h8, rfl, RM.gm h hf hq, hst.tr hf.f88⟩
theorem RCw.act2 (h : RCw s (M, L, S, tx, len)) (F : FR 6 50 s t) (hH : HK t L') (F3 : FR 3 6 t u) (hM : MK u 3 N) : RCw u (N, L', S, tx, len) ∧ FC s u 0 :=
  ⟨h.act ((F.up (lo' := 3) (hi' := 50) (by omega) (by omega)).tr (F3.up (by omega) (by omega))) (by omega) hM (hH.fr F3 (by omega)), (FC.fr F (by omega)).tr (FC.fr F3 (by omega))⟩
theorem GM.q (h : FR 89 90 s t) : GM s t := GM.fr h (by omega)
theorem FR.q8 (h : FR 89 90 s t) : t.1 88 8 = s.1 88 8 := by rw [h.at (by omega)]
theorem o_add (hw : WA M L S) : OK2 sc (fun _ => 1) 1 11 73 [.ref 0] [.ref 88] (M, L, S, tx, len) := by
  have hM := hw.1
  have h7 := hM.1
  by_cases h6 : mN M < 7
  · refine ⟨.inr (nI (mN M), (mAd M, (M :: L).take 14, S, tx, len)), fun s h => ?_, fun s h => ?_, hw.act (hM.ad (by omega))⟩
    · refine cc_of ml_11 rfl rfl ?_
      refine v_al0 c_11_0 ?_
      refine v_gR (n0 := 3) c_11_1 rfl ?_
      refine v_gI c_11_2 rfl (h.kM.1) ?_
      refine v_bpN (n := 7) c_11_3 rfl ?_
      refine v_icmp_lt_T c_11_4 (by omega) (by omega) (by omega) ?_
      refine v_al0 c_11_10 ?_
      refine v_gR (n0 := 6) c_11_11 rfl ?_
      refine v_al0 c_11_12 ?_
      refine v_gR (n0 := 3) c_11_13 rfl ?_
      refine v_cVV c_11_14 rfl (by decide) rfl rfl (h_rem h.2.1 h.1 hM) ?_
      rintro t ⟨hH, F⟩
      have hMt : MK t 3 M := h.1.fr F (by omega)
      refine v_al0 c_11_15 ?_
      refine v_gR (n0 := 3) c_11_16 rfl ?_
      refine v_cVI c_11_17 rfl (by decide) rfl rfl (k_add m3 hMt hM (by omega)) ?_
      rintro x u ⟨rfl, hMu, F3⟩
      refine v_ri c_11_18 ?_
      exact ⟨rfl, h.act2 F hH F3 hMu⟩
    · have h' := h.th (x := nI 0)
      refine cc_of ml_73 rfl rfl ?_
      refine v_al0 c_73_0 ?_
      refine v_icN (n := 0) c_73_1 rfl ?_
      refine v_pI c_73_2 rfl ?_
      refine v_al0 c_73_3 ?_
      refine v_gR (n0 := 89) c_73_4 rfl ?_
      refine v_icN (n := 0) c_73_5 rfl ?_
      refine v_aI c_73_6 rfl (by omega) (h'.kM.1) ?_
      refine v_is1 c_73_7 rfl ?_
      refine v_il1 c_73_8 ?_
      refine v_bpN (n := 7) c_73_9 rfl ?_
      refine v_icmp_ne_T c_73_10 (by omega) (by omega) (by omega) ?_
      refine v_al0 c_73_15 ?_
      refine v_cVV c_73_16 rfl (by decide) rfl rfl (q_rem h'.2.1 h'.1 hM hw.2.1) ?_
      rintro t hp
      have hR := RM.rem h' hp
      have e8 : t.1 88 8 = nI 0 := (hp.2.2.2 8 (by omega)).trans sI_s
      have hQ : QM (t.1 89) M := hR.1
      refine v_icN (n := 0) c_73_17 rfl ?_
      refine v_is2 c_73_18 rfl ?_
      refine vv_forS (mN M) (fun i ls u => ls = [some (.ref 88), some (.int (nI (mN M))), some (.int (nI i))] ∧ u.1 89 0 = nI (mN M) ∧ u.1 89 1 = nI (mL M) ∧ (∀ a, a < mN M → u.1 89 (2 + a) = nI (mH M a)) ∧ (∀ a b, a < mN M → b < mN M → u.1 89 (9 + 7 * a + b) = nI (mR M a b)) ∧ (∀ a, a < i → u.1 89 (9 + 7 * mN M + a) = nI 5 ∧ u.1 89 (9 + 7 * a + mN M) = nI 5) ∧ FR 89 90 t u) ?_ ?_ _ _ ⟨rfl, hQ.1, hQ.2.1, hQ.2.2.1, hQ.2.2.2, fun a ha => absurd ha (by omega), FR.rf⟩
      · rintro i ls u hi ⟨rfl, g1, g2, g3, g4, g5, g6⟩ hk
        refine v_il2 c_73_19 ?_
        refine v_il1 c_73_20 ?_
        refine v_icmp_ge_F c_73_21 (by omega) (by omega) (by omega) ?_
        refine v_al0 c_73_22 ?_
        refine v_gR (n0 := 89) c_73_23 rfl ?_
        refine v_bpN (n := 9) c_73_24 rfl ?_
        refine v_bpN (n := 7) c_73_25 rfl ?_
        refine v_il1 c_73_26 ?_
        refine v_imulN c_73_27 ?_
        refine v_iaddN c_73_28 ?_
        refine v_il2 c_73_29 ?_
        refine v_iaddN c_73_30 ?_
        refine v_icN (n := 5) c_73_31 rfl ?_
        refine v_sI c_73_32 rfl (by omega) ?_
        refine v_al0 c_73_33 ?_
        refine v_gR (n0 := 89) c_73_34 rfl ?_
        refine v_bpN (n := 9) c_73_35 rfl ?_
        refine v_bpN (n := 7) c_73_36 rfl ?_
        refine v_il2 c_73_37 ?_
        refine v_imulN c_73_38 ?_
        refine v_iaddN c_73_39 ?_
        refine v_il1 c_73_40 ?_
        refine v_iaddN c_73_41 ?_
        refine v_icN (n := 5) c_73_42 rfl ?_
        refine v_sI c_73_43 rfl (by omega) ?_
        refine v_incN2 c_73_44 rfl rfl ?_
        refine v_goto c_73_45 ?_
        refine hk _ _ ⟨rfl, by rw [sI_k (by omega), sI_k (by omega)]; exact g1, by rw [sI_k (by omega), sI_k (by omega)]; exact g2, fun a ha => by rw [sI_k (by omega), sI_k (by omega)]; exact g3 a ha, fun a b ha hb => by rw [sI_k (by omega), sI_k (by omega)]; exact g4 a b ha hb, fun a ha => ?_, (g6.tr (FR.sI (by omega) (by omega))).tr (FR.sI (by omega) (by omega))⟩
        rcases Nat.lt_or_eq_of_le (Nat.le_of_lt_succ ha) with h9 | h9
        · rw [sI_k (by omega), sI_k (by omega), sI_k (by omega), sI_k (by omega)]
          exact g5 a h9
        · subst h9
          exact ⟨by rw [sI_k (by omega), sI_s], sI_s⟩
      · rintro ls u ⟨rfl, g1, g2, g3, g4, g5, g6⟩
        refine v_il2 c_73_19 ?_
        refine v_il1 c_73_20 ?_
        refine v_icmp_ge_T c_73_21 (by omega) (by omega) (by omega) ?_
        refine v_al0 c_73_46 ?_
        refine v_gR (n0 := 89) c_73_47 rfl ?_
        refine v_bpN (n := 9) c_73_48 rfl ?_
        refine v_bpN (n := 7) c_73_49 rfl ?_
        refine v_il1 c_73_50 ?_
        refine v_imulN c_73_51 ?_
        refine v_iaddN c_73_52 ?_
        refine v_il1 c_73_53 ?_
        refine v_iaddN c_73_54 ?_
        refine v_bpN (n := 6) c_73_55 rfl ?_
        refine v_sI c_73_56 rfl (by omega) ?_
        refine v_al0 c_73_57 ?_
        refine v_gR (n0 := 89) c_73_58 rfl ?_
        refine v_icN (n := 2) c_73_59 rfl ?_
        refine v_il1 c_73_60 ?_
        refine v_iaddN c_73_61 ?_
        refine v_il1 c_73_62 ?_
        refine v_sI c_73_63 rfl (by omega) ?_
        obtain ⟨w, hw'⟩ : ∃ w, w = sI (sI u 89 (9 + 7 * mN M + mN M) (nI 6)) 89 (2 + mN M) (nI (mN M)) := ⟨_, rfl⟩
        have Fw : FR 89 90 u w := by rw [hw']; exact (FR.sI (by omega) (by omega)).tr (FR.sI (by omega) (by omega))
        have w0 : w.1 89 0 = nI (mN M) := by rw [hw', sI_k (by omega), sI_k (by omega)]; exact g1
        rw [← hw']
        refine v_al0 c_73_64 ?_
        refine v_gR (n0 := 89) c_73_65 rfl ?_
        refine v_icN (n := 0) c_73_66 rfl ?_
        refine v_dup2 c_73_67 ?_
        refine v_aI c_73_68 rfl (by omega) (w0) ?_
        refine v_icN (n := 1) c_73_69 rfl ?_
        refine v_iaddN c_73_70 ?_
        refine v_sI c_73_71 rfl (by omega) ?_
        refine v_il1 c_73_72 ?_
        refine v_ri c_73_73 ?_
        have F9 : FR 89 90 t (sI w 89 0 (nI (mN M + 1))) := (g6.tr Fw).tr (FR.sI (by omega) (by omega))
        refine ⟨_, rfl, xm_a hR (GM.th.f88.tr (rem_fr hp)) e8 (GM.q F9) ⟨sI_s, ?_, fun a ha => ?_, fun a b ha hb => ?_⟩ F9.q8 rfl⟩
        · rw [sI_k (by omega), hw', sI_k (by omega), sI_k (by omega)]
          exact g2
        · have ha : a < mN M + 1 := ha
          show _ = nI (if a = mN M then mN M else mH M a)
          rw [sI_k (by omega), hw']
          by_cases e : a = mN M
          · rw [if_pos e, e, sI_s]
          · rw [if_neg e, sI_k (by omega), sI_k (by omega)]
            exact g3 a (by omega)
        · have ha : a < mN M + 1 := ha
          have hb : b < mN M + 1 := hb
          show _ = nI (if a = mN M ∧ b = mN M then 6 else if a = mN M ∨ b = mN M then 5 else mR M a b)
          rw [sI_k (by omega), hw', sI_k (by omega)]
          by_cases e1 : a = mN M
          · by_cases e2 : b = mN M
            · rw [if_pos ⟨e1, e2⟩, e1, e2, sI_s]
            · rw [if_neg (by omega), if_pos (by omega), e1, sI_k (by omega)]
              exact (g5 b (by omega)).1
          · rw [if_neg (by omega), sI_k (by omega)]
            by_cases e2 : b = mN M
            · rw [if_pos (by omega), e2]
              exact (g5 a (by omega)).2
            · rw [if_neg (by omega)]
              exact g4 a b (by omega) (by omega)
  · refine ⟨.inl 1, fun s h => ?_, fun s h => ?_, ⟨by omega, by omega⟩⟩
    · refine cc_of ml_11 rfl rfl ?_
      refine v_al0 c_11_0 ?_
      refine v_gR (n0 := 3) c_11_1 rfl ?_
      refine v_gI c_11_2 rfl (h.kM.1) ?_
      refine v_bpN (n := 7) c_11_3 rfl ?_
      refine v_icmp_lt_F c_11_4 (by omega) (by omega) (by omega) ?_
      refine vv_x c_11_5 ?_
      exact xc_e h rfl
    · have h' := h.th (x := nI 0)
      refine cc_of ml_73 rfl rfl ?_
      refine v_al0 c_73_0 ?_
      refine v_icN (n := 0) c_73_1 rfl ?_
      refine v_pI c_73_2 rfl ?_
      refine v_al0 c_73_3 ?_
      refine v_gR (n0 := 89) c_73_4 rfl ?_
      refine v_icN (n := 0) c_73_5 rfl ?_
      refine v_aI c_73_6 rfl (by omega) (h'.kM.1) ?_
      refine v_is1 c_73_7 rfl ?_
      refine v_il1 c_73_8 ?_
      refine v_bpN (n := 7) c_73_9 rfl ?_
      refine v_icmp_ne_F c_73_10 (by omega) (by omega) (by omega) ?_
      refine v_al0 c_73_11 ?_
      refine v_icN (n := 1) c_73_12 rfl ?_
      refine v_cVi c_73_13 rfl (by decide) rfl rfl (q_fl) ?_
      refine v_ri c_73_14 ?_
      exact ⟨_, rfl, xm_e h⟩
theorem o_srk (hw : WA M L S) (x y z : Int32) : OK2 sc (fun k => if k = 1 then 2 else 0) 2 12 75 [.ref 0, .int x, .int y, .int z] [.ref 88, .int x, .int y, .int z] (M, L, S, tx, len) := by
  have hM := hw.1
  have h7 := hM.1
  cases hx : inN (mN M) x
  · refine ⟨.inl 1, fun s h => ?_, fun s h => ?_, ⟨by omega, by omega⟩⟩
    · refine cc_of ml_12 rfl rfl ?_
      refine v_al0 c_12_0 ?_
      refine v_il1 c_12_1 ?_
      refine v_cVX c_12_2 rfl (by decide) rfl rfl (n_trX h.kM hM hx) ht_12 ?_
      exact xc_e h rfl
    · have h' := h.th (x := nI 0)
      refine cc_of ml_75 rfl rfl ?_
      refine v_al0 c_75_0 ?_
      refine v_icN (n := 0) c_75_1 rfl ?_
      refine v_pI c_75_2 rfl ?_
      refine v_al0 c_75_3 ?_
      refine v_il1 c_75_4 ?_
      refine v_cVi c_75_5 rfl (by decide) rfl rfl (q_oneI h'.kM hM x) ?_
      refine v_if_eq_tb c_75_6 (hx) ?_
      refine v_al0 c_75_11 ?_
      refine v_icN (n := 1) c_75_12 rfl ?_
      refine v_cVi c_75_13 rfl (by decide) rfl rfl (q_fl) ?_
      refine v_ri c_75_14 ?_
      exact ⟨_, rfl, xm_e h⟩
  cases hy : inN (mN M) y
  · refine ⟨.inl 1, fun s h => ?_, fun s h => ?_, ⟨by omega, by omega⟩⟩
    · refine cc_of ml_12 rfl rfl ?_
      refine v_al0 c_12_0 ?_
      refine v_il1 c_12_1 ?_
      refine v_cVv c_12_2 rfl (by decide) rfl rfl (n_tr h.kM hM hx) ?_
      refine v_al0 c_12_3 ?_
      refine v_il2 c_12_4 ?_
      refine v_cVX c_12_5 rfl (by decide) rfl rfl (n_thX h.kM hM hy) ht_12 ?_
      exact xc_e h rfl
    · have h' := h.th (x := nI 0)
      refine cc_of ml_75 rfl rfl ?_
      refine v_al0 c_75_0 ?_
      refine v_icN (n := 0) c_75_1 rfl ?_
      refine v_pI c_75_2 rfl ?_
      refine v_al0 c_75_3 ?_
      refine v_il1 c_75_4 ?_
      refine v_cVi c_75_5 rfl (by decide) rfl rfl (q_oneI h'.kM hM x) ?_
      refine v_if_eq_fb c_75_6 (hx) ?_
      refine v_al0 c_75_7 ?_
      refine v_il2 c_75_8 ?_
      refine v_cVi c_75_9 rfl (by decide) rfl rfl (q_oneI h'.kM hM y) ?_
      refine v_if_ne_fb c_75_10 (hy) ?_
      refine v_al0 c_75_11 ?_
      refine v_icN (n := 1) c_75_12 rfl ?_
      refine v_cVi c_75_13 rfl (by decide) rfl rfl (q_fl) ?_
      refine v_ri c_75_14 ?_
      exact ⟨_, rfl, xm_e h⟩
  by_cases h0 : z < 0
  · refine ⟨.inl 2, fun s h => ?_, fun s h => ?_, ⟨by omega, by omega⟩⟩
    · refine cc_of ml_12 rfl rfl ?_
      refine v_al0 c_12_0 ?_
      refine v_il1 c_12_1 ?_
      refine v_cVv c_12_2 rfl (by decide) rfl rfl (n_tr h.kM hM hx) ?_
      refine v_al0 c_12_3 ?_
      refine v_il2 c_12_4 ?_
      refine v_cVv c_12_5 rfl (by decide) rfl rfl (n_th h.kM hM hy) ?_
      refine v_il3 c_12_6 ?_
      refine v_if_lt_t c_12_7 (h0) ?_
      refine vv_x c_12_11 ?_
      exact xc_e h rfl
    · have h' := h.th (x := nI 0)
      refine cc_of ml_75 rfl rfl ?_
      refine v_al0 c_75_0 ?_
      refine v_icN (n := 0) c_75_1 rfl ?_
      refine v_pI c_75_2 rfl ?_
      refine v_al0 c_75_3 ?_
      refine v_il1 c_75_4 ?_
      refine v_cVi c_75_5 rfl (by decide) rfl rfl (q_oneI h'.kM hM x) ?_
      refine v_if_eq_fb c_75_6 (hx) ?_
      refine v_al0 c_75_7 ?_
      refine v_il2 c_75_8 ?_
      refine v_cVi c_75_9 rfl (by decide) rfl rfl (q_oneI h'.kM hM y) ?_
      refine v_if_ne_tb c_75_10 (hy) ?_
      refine v_il3 c_75_15 ?_
      refine v_i2l c_75_16 ?_
      refine v_lc c_75_17 ?_
      refine v_l2 c_75_18 ?_
      refine v_cSi c_75_19 rfl rfl rfl (q_inC z (nI 0) (nI 9) (by decide) (by decide)) ?_
      refine v_if_ne_fb c_75_20 (by rw [show decide (nI 0 ≤ z) = false from decide_eq_false (Int32.not_le.mpr h0)]; rfl) ?_
      refine v_al0 c_75_21 ?_
      refine v_icN (n := 2) c_75_22 rfl ?_
      refine v_cVi c_75_23 rfl (by decide) rfl rfl (q_fl) ?_
      refine v_ri c_75_24 ?_
      exact ⟨_, rfl, xm_e h⟩
  obtain ⟨r, hr, rfl⟩ := nI_of h0
  by_cases h9 : r ≤ 9
  · obtain ⟨i, hi, rfl⟩ := inN_of h7 hx
    obtain ⟨j, hj, rfl⟩ := inN_of h7 hy
    have hin : (decide (nI 0 ≤ nI r) && decide (nI r ≤ nI 9)) = true := by
      rw [decide_eq_true ((nI_leI (by omega) (by omega)).mpr (by omega)), decide_eq_true ((nI_leI (by omega) (by omega)).mpr (by omega))]
      rfl
    refine ⟨.inr (nI (mR M i j), (mRk M i j r, (M :: L).take 14, S, tx, len)), fun s h => ?_, fun s h => ?_, hw.act (hM.rk h9)⟩
    · refine cc_of ml_12 rfl rfl ?_
      refine v_al0 c_12_0 ?_
      refine v_il1 c_12_1 ?_
      refine v_cVv c_12_2 rfl (by decide) rfl rfl (n_tr h.kM hM hx) ?_
      refine v_al0 c_12_3 ?_
      refine v_il2 c_12_4 ?_
      refine v_cVv c_12_5 rfl (by decide) rfl rfl (n_th h.kM hM hy) ?_
      refine v_il3 c_12_6 ?_
      refine v_if_lt_F c_12_7 (by omega) ?_
      refine v_il3 c_12_8 ?_
      refine v_bpN (n := 9) c_12_9 rfl ?_
      refine v_icmp_le_T c_12_10 (by omega) (by omega) (by omega) ?_
      refine v_al0 c_12_16 ?_
      refine v_gR (n0 := 6) c_12_17 rfl ?_
      refine v_al0 c_12_18 ?_
      refine v_gR (n0 := 3) c_12_19 rfl ?_
      refine v_cVV c_12_20 rfl (by decide) rfl rfl (h_rem h.2.1 h.1 hM) ?_
      rintro t ⟨hH, F⟩
      have hMt : MK t 3 M := h.1.fr F (by omega)
      refine v_al0 c_12_21 ?_
      refine v_gR (n0 := 3) c_12_22 rfl ?_
      refine v_il1 c_12_23 ?_
      refine v_il2 c_12_24 ?_
      refine v_cVi c_12_25 rfl (by decide) rfl rfl (k_rkB m3 hMt hM hi hj) ?_
      refine v_is4 c_12_26 rfl ?_
      refine v_al0 c_12_27 ?_
      refine v_gR (n0 := 3) c_12_28 rfl ?_
      refine v_il1 c_12_29 ?_
      refine v_il2 c_12_30 ?_
      refine v_il3 c_12_31 ?_
      refine v_cVv c_12_32 rfl (by decide) rfl rfl (k_put m3 (by omega) (by omega)) ?_
      refine v_il4 c_12_33 ?_
      refine v_ri c_12_34 ?_
      exact ⟨rfl, h.act2 F hH (FR.sI (by omega) (by omega)) (MK.put hMt hM hi hj)⟩
    · have h' := h.th (x := nI 0)
      refine cc_of ml_75 rfl rfl ?_
      refine v_al0 c_75_0 ?_
      refine v_icN (n := 0) c_75_1 rfl ?_
      refine v_pI c_75_2 rfl ?_
      refine v_al0 c_75_3 ?_
      refine v_il1 c_75_4 ?_
      refine v_cVi c_75_5 rfl (by decide) rfl rfl (q_oneI h'.kM hM _) ?_
      refine v_if_eq_fb c_75_6 (hx) ?_
      refine v_al0 c_75_7 ?_
      refine v_il2 c_75_8 ?_
      refine v_cVi c_75_9 rfl (by decide) rfl rfl (q_oneI h'.kM hM _) ?_
      refine v_if_ne_tb c_75_10 (hy) ?_
      refine v_il3 c_75_15 ?_
      refine v_i2l c_75_16 ?_
      refine v_lc c_75_17 ?_
      refine v_l2 c_75_18 ?_
      refine v_cSi c_75_19 rfl rfl rfl (q_inC (nI r) (nI 0) (nI 9) (by decide) (by decide)) ?_
      refine v_if_ne_tb c_75_20 (hin) ?_
      refine v_al0 c_75_25 ?_
      refine v_cVV c_75_26 rfl (by decide) rfl rfl (q_rem h'.2.1 h'.1 hM hw.2.1) ?_
      rintro t hp
      have hR := RM.rem h' hp
      have e8 : t.1 88 8 = nI 0 := (hp.2.2.2 8 (by omega)).trans sI_s
      refine v_al0 c_75_27 ?_
      refine v_il1 c_75_28 ?_
      refine v_il2 c_75_29 ?_
      refine v_il3 c_75_30 ?_
      refine v_cVi c_75_31 rfl (by decide) rfl rfl (q_rks hR.1 hM hi hj) ?_
      refine v_ri c_75_32 ?_
      have F9 : FR 89 90 t (sI t 89 (9 + 7 * i + j) (nI r)) := FR.sI (by omega) (by omega)
      exact ⟨_, rfl, xm_a hR (GM.th.f88.tr (rem_fr hp)) e8 (GM.q F9) (QM.rk hR.1 hM hi hj) F9.q8 rfl⟩
  · refine ⟨.inl 2, fun s h => ?_, fun s h => ?_, ⟨by omega, by omega⟩⟩
    · refine cc_of ml_12 rfl rfl ?_
      refine v_al0 c_12_0 ?_
      refine v_il1 c_12_1 ?_
      refine v_cVv c_12_2 rfl (by decide) rfl rfl (n_tr h.kM hM hx) ?_
      refine v_al0 c_12_3 ?_
      refine v_il2 c_12_4 ?_
      refine v_cVv c_12_5 rfl (by decide) rfl rfl (n_th h.kM hM hy) ?_
      refine v_il3 c_12_6 ?_
      refine v_if_lt_F c_12_7 (by omega) ?_
      refine v_il3 c_12_8 ?_
      refine v_bpN (n := 9) c_12_9 rfl ?_
      refine v_icmp_le_F c_12_10 (by omega) (by omega) (by omega) ?_
      refine vv_x c_12_11 ?_
      exact xc_e h rfl
    · have h' := h.th (x := nI 0)
      refine cc_of ml_75 rfl rfl ?_
      refine v_al0 c_75_0 ?_
      refine v_icN (n := 0) c_75_1 rfl ?_
      refine v_pI c_75_2 rfl ?_
      refine v_al0 c_75_3 ?_
      refine v_il1 c_75_4 ?_
      refine v_cVi c_75_5 rfl (by decide) rfl rfl (q_oneI h'.kM hM x) ?_
      refine v_if_eq_fb c_75_6 (hx) ?_
      refine v_al0 c_75_7 ?_
      refine v_il2 c_75_8 ?_
      refine v_cVi c_75_9 rfl (by decide) rfl rfl (q_oneI h'.kM hM y) ?_
      refine v_if_ne_tb c_75_10 (hy) ?_
      refine v_il3 c_75_15 ?_
      refine v_i2l c_75_16 ?_
      refine v_lc c_75_17 ?_
      refine v_l2 c_75_18 ?_
      refine v_cSi c_75_19 rfl rfl rfl (q_inC (nI r) (nI 0) (nI 9) (by decide) (by decide)) ?_
      refine v_if_ne_fb c_75_20 (by rw [show decide (nI r ≤ nI 9) = false from decide_eq_false (fun z => absurd ((nI_leI (by omega) (by omega)).mp z) (by omega)), Bool.and_false]) ?_
      refine v_al0 c_75_21 ?_
      refine v_icN (n := 2) c_75_22 rfl ?_
      refine v_cVi c_75_23 rfl (by decide) rfl rfl (q_fl) ?_
      refine v_ri c_75_24 ?_
      exact ⟨_, rfl, xm_e h⟩
theorem o_exc (hw : WA M L S) (x y : Int32) : OK2 sc (fun k => if k = 1 then 2 else 1) 2 13 77 [.ref 0, .int x, .int y] [.ref 88, .int x, .int y] (M, L, S, tx, len) := by
  have hM := hw.1
  have h7 := hM.1
  cases hx : inN (mN M) x
  · refine ⟨.inl 1, fun s h => ?_, fun s h => ?_, ⟨by omega, by omega⟩⟩
    · refine cc_of ml_13 rfl rfl ?_
      refine v_al0 c_13_0 ?_
      refine v_il1 c_13_1 ?_
      refine v_cVX c_13_2 rfl (by decide) rfl rfl (n_trX h.kM hM hx) ht_13 ?_
      exact xc_e h rfl
    · have h' := h.th (x := nI 0)
      refine cc_of ml_77 rfl rfl ?_
      refine v_al0 c_77_0 ?_
      refine v_icN (n := 0) c_77_1 rfl ?_
      refine v_pI c_77_2 rfl ?_
      refine v_al0 c_77_3 ?_
      refine v_il1 c_77_4 ?_
      refine v_cVi c_77_5 rfl (by decide) rfl rfl (q_oneI h'.kM hM x) ?_
      refine v_if_eq_tb c_77_6 (hx) ?_
      refine v_al0 c_77_11 ?_
      refine v_icN (n := 1) c_77_12 rfl ?_
      refine v_cVi c_77_13 rfl (by decide) rfl rfl (q_fl) ?_
      refine v_ri c_77_14 ?_
      exact ⟨_, rfl, xm_e h⟩
  cases hy : inN (mN M) y
  · refine ⟨.inl 1, fun s h => ?_, fun s h => ?_, ⟨by omega, by omega⟩⟩
    · refine cc_of ml_13 rfl rfl ?_
      refine v_al0 c_13_0 ?_
      refine v_il1 c_13_1 ?_
      refine v_cVv c_13_2 rfl (by decide) rfl rfl (n_tr h.kM hM hx) ?_
      refine v_al0 c_13_3 ?_
      refine v_il2 c_13_4 ?_
      refine v_cVX c_13_5 rfl (by decide) rfl rfl (n_trX h.kM hM hy) ht_13 ?_
      exact xc_e h rfl
    · have h' := h.th (x := nI 0)
      refine cc_of ml_77 rfl rfl ?_
      refine v_al0 c_77_0 ?_
      refine v_icN (n := 0) c_77_1 rfl ?_
      refine v_pI c_77_2 rfl ?_
      refine v_al0 c_77_3 ?_
      refine v_il1 c_77_4 ?_
      refine v_cVi c_77_5 rfl (by decide) rfl rfl (q_oneI h'.kM hM x) ?_
      refine v_if_eq_fb c_77_6 (hx) ?_
      refine v_al0 c_77_7 ?_
      refine v_il2 c_77_8 ?_
      refine v_cVi c_77_9 rfl (by decide) rfl rfl (q_oneI h'.kM hM y) ?_
      refine v_if_ne_fb c_77_10 (hy) ?_
      refine v_al0 c_77_11 ?_
      refine v_icN (n := 1) c_77_12 rfl ?_
      refine v_cVi c_77_13 rfl (by decide) rfl rfl (q_fl) ?_
      refine v_ri c_77_14 ?_
      exact ⟨_, rfl, xm_e h⟩
  obtain ⟨i, hi, rfl⟩ := inN_of h7 hx
  obtain ⟨j, hj, rfl⟩ := inN_of h7 hy
  have hb : mAg M i j < 2147483648 := by unfold mAg; (repeat' split) <;> omega
  by_cases ha : mAg M i j = 0
  · refine ⟨.inr (nI (mH (mSw M i j) i), (mSw M i j, (M :: L).take 14, S, tx, len)), fun s h => ?_, fun s h => ?_, hw.act (hM.sw hi hj)⟩
    · refine cc_of ml_13 rfl rfl ?_
      refine v_al0 c_13_0 ?_
      refine v_il1 c_13_1 ?_
      refine v_cVv c_13_2 rfl (by decide) rfl rfl (n_tr h.kM hM hx) ?_
      refine v_al0 c_13_3 ?_
      refine v_il2 c_13_4 ?_
      refine v_cVv c_13_5 rfl (by decide) rfl rfl (n_tr h.kM hM hy) ?_
      refine v_al0 c_13_6 ?_
      refine v_gR (n0 := 3) c_13_7 rfl ?_
      refine v_il1 c_13_8 ?_
      refine v_il2 c_13_9 ?_
      refine v_cVi c_13_10 rfl (by decide) rfl rfl (k_rsn m3 h.kM hM hi hj) ?_
      refine v_if_eq_T c_13_11 (ha) (by omega) ?_
      refine v_al0 c_13_17 ?_
      refine v_gR (n0 := 6) c_13_18 rfl ?_
      refine v_al0 c_13_19 ?_
      refine v_gR (n0 := 3) c_13_20 rfl ?_
      refine v_cVV c_13_21 rfl (by decide) rfl rfl (h_rem h.2.1 h.1 hM) ?_
      rintro t ⟨hH, F⟩
      have hMt : MK t 3 M := h.1.fr F (by omega)
      have hMu := MK.sw hMt hi hj
      refine v_al0 c_13_22 ?_
      refine v_gR (n0 := 3) c_13_23 rfl ?_
      refine v_il1 c_13_24 ?_
      refine v_il2 c_13_25 ?_
      refine v_cVv c_13_26 rfl (by decide) rfl rfl (k_swp m3 (by omega) (by omega)) ?_
      refine v_al0 c_13_27 ?_
      refine v_gR (n0 := 3) c_13_28 rfl ?_
      refine v_gR (n0 := 5) c_13_29 rfl ?_
      refine v_il1 c_13_30 ?_
      refine v_at c_13_31 rfl (by omega) (hMu.2.2.2 i hi) rfl ?_
      refine v_ri c_13_32 ?_
      exact ⟨rfl, h.act2 F hH ((FR.sI (by omega) (by omega)).tr (FR.sI (by omega) (by omega))) hMu⟩
    · have h' := h.th (x := nI 0)
      refine cc_of ml_77 rfl rfl ?_
      refine v_al0 c_77_0 ?_
      refine v_icN (n := 0) c_77_1 rfl ?_
      refine v_pI c_77_2 rfl ?_
      refine v_al0 c_77_3 ?_
      refine v_il1 c_77_4 ?_
      refine v_cVi c_77_5 rfl (by decide) rfl rfl (q_oneI h'.kM hM _) ?_
      refine v_if_eq_fb c_77_6 (hx) ?_
      refine v_al0 c_77_7 ?_
      refine v_il2 c_77_8 ?_
      refine v_cVi c_77_9 rfl (by decide) rfl rfl (q_oneI h'.kM hM _) ?_
      refine v_if_ne_tb c_77_10 (hy) ?_
      refine v_al0 c_77_15 ?_
      refine v_il1 c_77_16 ?_
      refine v_il2 c_77_17 ?_
      refine v_cVi c_77_18 rfl (by decide) rfl rfl (q_ag h'.kM hM hi hj) ?_
      refine v_if_eq_T c_77_19 (ha) (by omega) ?_
      refine v_al0 c_77_24 ?_
      refine v_cVV c_77_25 rfl (by decide) rfl rfl (q_rem h'.2.1 h'.1 hM hw.2.1) ?_
      rintro t hp
      have hR := RM.rem h' hp
      have e8 : t.1 88 8 = nI 0 := (hp.2.2.2 8 (by omega)).trans sI_s
      refine v_al0 c_77_26 ?_
      refine v_il1 c_77_27 ?_
      refine v_il2 c_77_28 ?_
      refine v_cVI c_77_29 rfl (by decide) rfl rfl (q_xch hR.1 hM hi hj) ?_
      rintro x u ⟨rfl, hQu, F9⟩
      refine v_ri c_77_30 ?_
      exact ⟨_, rfl, xm_a hR (GM.th.f88.tr (rem_fr hp)) e8 (GM.q F9) hQu F9.q8 rfl⟩
  · refine ⟨.inl 2, fun s h => ?_, fun s h => ?_, ⟨by omega, by omega⟩⟩
    · refine cc_of ml_13 rfl rfl ?_
      refine v_al0 c_13_0 ?_
      refine v_il1 c_13_1 ?_
      refine v_cVv c_13_2 rfl (by decide) rfl rfl (n_tr h.kM hM hx) ?_
      refine v_al0 c_13_3 ?_
      refine v_il2 c_13_4 ?_
      refine v_cVv c_13_5 rfl (by decide) rfl rfl (n_tr h.kM hM hy) ?_
      refine v_al0 c_13_6 ?_
      refine v_gR (n0 := 3) c_13_7 rfl ?_
      refine v_il1 c_13_8 ?_
      refine v_il2 c_13_9 ?_
      refine v_cVi c_13_10 rfl (by decide) rfl rfl (k_rsn m3 h.kM hM hi hj) ?_
      refine v_if_eq_F c_13_11 (ha) (by omega) ?_
      refine vv_x c_13_12 ?_
      exact xc_e h rfl
    · have h' := h.th (x := nI 0)
      refine cc_of ml_77 rfl rfl ?_
      refine v_al0 c_77_0 ?_
      refine v_icN (n := 0) c_77_1 rfl ?_
      refine v_pI c_77_2 rfl ?_
      refine v_al0 c_77_3 ?_
      refine v_il1 c_77_4 ?_
      refine v_cVi c_77_5 rfl (by decide) rfl rfl (q_oneI h'.kM hM _) ?_
      refine v_if_eq_fb c_77_6 (hx) ?_
      refine v_al0 c_77_7 ?_
      refine v_il2 c_77_8 ?_
      refine v_cVi c_77_9 rfl (by decide) rfl rfl (q_oneI h'.kM hM _) ?_
      refine v_if_ne_tb c_77_10 (hy) ?_
      refine v_al0 c_77_15 ?_
      refine v_il1 c_77_16 ?_
      refine v_il2 c_77_17 ?_
      refine v_cVi c_77_18 rfl (by decide) rfl rfl (q_ag h'.kM hM hi hj) ?_
      refine v_if_eq_F c_77_19 (ha) (by omega) ?_
      refine v_al0 c_77_20 ?_
      refine v_icN (n := 2) c_77_21 rfl ?_
      refine v_cVi c_77_22 rfl (by decide) rfl rfl (q_fl) ?_
      refine v_ri c_77_23 ?_
      exact ⟨_, rfl, xm_e h⟩
theorem o_drg (hw : WA M L S) (x : Int32) : OK2 sc (fun _ => 2) 1 14 79 [.ref 0, .int x] [.ref 88, .int x] (M, L, S, tx, len) := by
  have hM := hw.1
  have h7 := hM.1
  have hr7 := mRn_7 hM
  cases hx : inN (mRn M) x
  · refine ⟨.inl 1, fun s h => ?_, fun s h => ?_, ⟨by omega, by omega⟩⟩
    · refine cc_of ml_14 rfl rfl ?_
      refine v_al0 c_14_0 ?_
      refine v_cVR c_14_1 rfl (by decide) rfl rfl (n_pt h.kM hM) ?_
      rintro _ t ⟨rfl, T, F⟩
      refine v_as2 c_14_2 rfl ?_
      refine v_al2 c_14_3 ?_
      refine v_il1 c_14_4 ?_
      refine v_cSX c_14_5 rfl rfl rfl (n_rgX T hr7 hx) ht_14 ?_
      exact xc_x h F (by omega) rfl
    · have h' := h.th (x := nI 0)
      refine cc_of ml_79 rfl rfl ?_
      refine v_al0 c_79_0 ?_
      refine v_icN (n := 0) c_79_1 rfl ?_
      refine v_pI c_79_2 rfl ?_
      refine v_al0 c_79_3 ?_
      refine v_cVV c_79_4 rfl (by decide) rfl rfl (q_fnd h'.kM hM) ?_
      rintro t ⟨T, F⟩
      have hri : t.1 88 16 = nI (mRn M) := T.1
      refine v_il1 c_79_5 ?_
      refine v_i2l c_79_6 ?_
      refine v_lc c_79_7 ?_
      refine v_al0 c_79_8 ?_
      refine v_gI c_79_9 rfl (hri) ?_
      refine v_icN (n := 1) c_79_10 rfl ?_
      refine v_isub c_79_11 ?_
      refine v_i2l c_79_12 ?_
      refine v_cSi c_79_13 rfl rfl rfl (q_inR hr7 x) ?_
      refine v_if_ne_fb c_79_14 (hx) ?_
      refine v_al0 c_79_15 ?_
      refine v_icN (n := 1) c_79_16 rfl ?_
      refine v_cVi c_79_17 rfl (by decide) rfl rfl (q_fl) ?_
      refine v_ri c_79_18 ?_
      exact ⟨_, rfl, xm_x h F.gm (h'.kM.fw F)⟩
  obtain ⟨r, hr, rfl⟩ := inN_of hr7 hx
  obtain ⟨r1, r2, r3, r4⟩ := rSet_ok hM hr
  have hg0 : ∀ i, (rSet M r).testBit i = true → tGe (mT M (mP M)) i = nI (gT M (mP M) i) ∧ gT M (mP M) i < 7 := fun i hb => by
    obtain ⟨g1, g2⟩ := gT_ok hM mP_n (r2 i hb)
    exact ⟨g1, by omega⟩
  refine ⟨.inr (nI (cnt (fun i => (rSet M r).testBit i && !decide (mH M i = gT M (mP M) i)) (mN M)), (mTk M (rSet M r) (gT M (mP M)), (M :: L).take 14, S, tx, len)), fun s h => ?_, fun s h => ?_, hw.act (hM.tkR hr)⟩
  · refine cc_of ml_14 rfl rfl ?_
    refine v_al0 c_14_0 ?_
    refine v_cVR c_14_1 rfl (by decide) rfl rfl (n_pt h.kM hM) ?_
    rintro _ t ⟨rfl, T, F⟩
    have h1 := h.fr F (by omega)
    refine v_as2 c_14_2 rfl ?_
    refine v_al2 c_14_3 ?_
    refine v_il1 c_14_4 ?_
    refine v_cSv c_14_5 rfl rfl rfl (n_rg T hr7 hx) ?_
    refine v_al0 c_14_6 ?_
    refine v_gR (n0 := 6) c_14_7 rfl ?_
    refine v_al0 c_14_8 ?_
    refine v_gR (n0 := 3) c_14_9 rfl ?_
    refine v_cVV c_14_10 rfl (by decide) rfl rfl (h_rem h1.2.1 h1.1 hM) ?_
    rintro u ⟨hH, Fu⟩
    have T2 := T.fr Fu (by omega)
    have hMu : MK u 3 M := h1.1.fr Fu (by omega)
    refine v_al0 c_14_11 ?_
    refine v_gR (n0 := 3) c_14_12 rfl ?_
    refine v_al2 c_14_13 ?_
    refine v_al2 c_14_14 ?_
    refine v_gR (n0 := 66) c_14_15 rfl ?_
    refine v_il1 c_14_16 ?_
    refine v_at c_14_17 rfl (by omega) ((T2.2.2.2 r hr).1.trans r1) rfl ?_
    refine v_cVI c_14_18 rfl (by decide) rfl rfl (k_tak m3 t55 hMu hM (by omega) (fun i hi hb => ⟨(T2.2.2.1 i hi).1.trans (hg0 i hb).1, (hg0 i hb).2⟩)) ?_
    rintro x v ⟨rfl, hMv, Fv⟩
    refine v_ri c_14_19 ?_
    have h9 := h1.act2 Fu hH Fv hMv
    exact ⟨rfl, h9.1, (FC.fr F (by omega)).tr h9.2⟩
  · have h' := h.th (x := nI 0)
    refine cc_of ml_79 rfl rfl ?_
    refine v_al0 c_79_0 ?_
    refine v_icN (n := 0) c_79_1 rfl ?_
    refine v_pI c_79_2 rfl ?_
    refine v_al0 c_79_3 ?_
    refine v_cVV c_79_4 rfl (by decide) rfl rfl (q_fnd h'.kM hM) ?_
    rintro t ⟨T, F⟩
    have hri : t.1 88 16 = nI (mRn M) := T.1
    have h1 : RM t M L S tx len := RM.fw h' F
    refine v_il1 c_79_5 ?_
    refine v_i2l c_79_6 ?_
    refine v_lc c_79_7 ?_
    refine v_al0 c_79_8 ?_
    refine v_gI c_79_9 rfl (hri) ?_
    refine v_icN (n := 1) c_79_10 rfl ?_
    refine v_isub c_79_11 ?_
    refine v_i2l c_79_12 ?_
    refine v_cSi c_79_13 rfl rfl rfl (q_inR hr7 _) ?_
    refine v_if_ne_tb c_79_14 (hx) ?_
    refine v_al0 c_79_19 ?_
    refine v_cVV c_79_20 rfl (by decide) rfl rfl (q_rem h1.2.1 h1.1 hM hw.2.1) ?_
    rintro u hp
    have hR := RM.rem h1 hp
    have e8 : u.1 88 8 = nI 0 := ((hp.2.2.2 8 (by omega)).trans F.2.2.2.2).trans sI_s
    have e100 : u.1 100 r = nI (rSet M r) := by rw [(hp.2.1 100 (by omega) (by omega)).1]; exact (T.2.2.2 r hr).1.trans r1
    refine v_al0 c_79_21 ?_
    refine v_al0 c_79_22 ?_
    refine v_gR (n0 := 100) c_79_23 rfl ?_
    refine v_il1 c_79_24 ?_
    refine v_aI c_79_25 rfl (by omega) (e100) ?_
    refine v_cVI c_79_26 rfl (by decide) rfl rfl (q_tak hR.1 hM (S := rSet M r) (by omega) (fun i hi hb => ⟨by rw [(hp.2.1 95 (by omega) (by omega)).1]; exact (T.2.2.1 i hi).1.trans (hg0 i hb).1, (hg0 i hb).2⟩)) ?_
    rintro x v ⟨rfl, hQv, Fv⟩
    refine v_ri c_79_27 ?_
    exact ⟨_, rfl, xm_a hR (F.gm.f88.tr (rem_fr hp)) e8 (GM.q Fv) hQv Fv.q8 rfl⟩
theorem o_trd (hw : WA M L S) : OK2 sc (fun _ => 0) 0 15 81 [.ref 0] [.ref 88] (M, L, S, tx, len) := by
  have hM := hw.1
  have h7 := hM.1
  have hP := mP_128 hM
  have hg0 : ∀ i, (mP M).testBit i = true → tGe (mT M (mP M)) i = nI (gT M (mP M) i) ∧ gT M (mP M) i < 7 := fun i hb => by
    obtain ⟨g1, g2⟩ := gT_ok hM mP_n hb
    exact ⟨g1, by omega⟩
  refine ⟨.inr (nI (cnt (fun i => (mP M).testBit i && !decide (mH M i = gT M (mP M) i)) (mN M)), (mTk M (mP M) (gT M (mP M)), (M :: L).take 14, S, tx, len)), fun s h => ?_, fun s h => ?_, hw.act hM.tkP⟩
  · refine cc_of ml_15 rfl rfl ?_
    refine v_al0 c_15_0 ?_
    refine v_gR (n0 := 6) c_15_1 rfl ?_
    refine v_al0 c_15_2 ?_
    refine v_gR (n0 := 3) c_15_3 rfl ?_
    refine v_cVV c_15_4 rfl (by decide) rfl rfl (h_rem h.2.1 h.1 hM) ?_
    rintro t ⟨hH, F⟩
    have hMt : MK t 3 M := h.1.fr F (by omega)
    refine v_al0 c_15_5 ?_
    refine v_gR (n0 := 3) c_15_6 rfl ?_
    refine v_al0 c_15_7 ?_
    refine v_cVR c_15_8 rfl (by decide) rfl rfl (n_pt hMt hM) ?_
    rintro _ u ⟨rfl, T, Fu⟩
    have hMu : MK u 3 M := hMt.fr Fu (by omega)
    refine v_al0 c_15_9 ?_
    refine v_gR (n0 := 3) c_15_10 rfl ?_
    refine v_cVi c_15_11 rfl (by decide) rfl rfl (k_pre m3 hMu hM) ?_
    refine v_cVI c_15_12 rfl (by decide) rfl rfl (k_tak m3 t55 hMu hM (by omega) (fun i hi hb => ⟨(T.2.2.1 i hi).1.trans (hg0 i hb).1, (hg0 i hb).2⟩)) ?_
    rintro x v ⟨rfl, hMv, Fv⟩
    refine v_ri c_15_13 ?_
    have h1 : RCw t (M, (M :: L).take 14, S, tx, len) := h.act F (by omega) hMt hH
    have h2 := h1.fr Fu (by omega)
    exact ⟨rfl, h2.act Fv (by omega) hMv (h2.2.1.fr Fv (by omega)), ((FC.fr F (by omega)).tr (FC.fr Fu (by omega))).tr (FC.fr Fv (by omega))⟩
  · have h' := h.th (x := nI 0)
    refine cc_of ml_81 rfl rfl ?_
    refine v_al0 c_81_0 ?_
    refine v_icN (n := 0) c_81_1 rfl ?_
    refine v_pI c_81_2 rfl ?_
    refine v_al0 c_81_3 ?_
    refine v_cVV c_81_4 rfl (by decide) rfl rfl (q_rem h'.2.1 h'.1 hM hw.2.1) ?_
    rintro t hp
    have hR := RM.rem h' hp
    have e8 : t.1 88 8 = nI 0 := (hp.2.2.2 8 (by omega)).trans sI_s
    refine v_al0 c_81_5 ?_
    refine v_cVI c_81_6 rfl (by decide) rfl rfl (q_trs hR.1 hM) ?_
    rintro x u ⟨rfl, hQu, Fu⟩
    refine v_ri c_81_7 ?_
    exact ⟨_, rfl, xm_a hR (GM.th.f88.tr (rem_fr hp)) e8 Fu.1 hQu Fu.2.2 rfl⟩
theorem o_lea (hw : WA M L S) (x : Int32) : OK2 sc (fun k => if k = 1 then 2 else 1) 2 16 82 [.ref 0, .int x] [.ref 88, .int x] (M, L, S, tx, len) := by
  have hM := hw.1
  have h7 := hM.1
  cases hx : inN (mN M) x
  · refine ⟨.inl 1, fun s h => ?_, fun s h => ?_, ⟨by omega, by omega⟩⟩
    · refine cc_of ml_16 rfl rfl ?_
      refine v_al0 c_16_0 ?_
      refine v_il1 c_16_1 ?_
      refine v_cVX c_16_2 rfl (by decide) rfl rfl (n_trX h.kM hM hx) ht_16 ?_
      exact xc_e h rfl
    · have h' := h.th (x := nI 0)
      refine cc_of ml_82 rfl rfl ?_
      refine v_al0 c_82_0 ?_
      refine v_icN (n := 0) c_82_1 rfl ?_
      refine v_pI c_82_2 rfl ?_
      refine v_al0 c_82_3 ?_
      refine v_il1 c_82_4 ?_
      refine v_cVi c_82_5 rfl (by decide) rfl rfl (q_oneI h'.kM hM x) ?_
      refine v_if_ne_fb c_82_6 (hx) ?_
      refine v_al0 c_82_7 ?_
      refine v_icN (n := 1) c_82_8 rfl ?_
      refine v_cVi c_82_9 rfl (by decide) rfl rfl (q_fl) ?_
      refine v_ri c_82_10 ?_
      exact ⟨_, rfl, xm_e h⟩
  obtain ⟨i, hi, rfl⟩ := inN_of h7 hx
  cases hl : (mL M).testBit i
  · refine ⟨.inr (nI (pc (mP (mLv M i))), (mLv M i, (M :: L).take 14, S, tx, len)), fun s h => ?_, fun s h => ?_, hw.act (hM.lv hi)⟩
    · refine cc_of ml_16 rfl rfl ?_
      refine v_al0 c_16_0 ?_
      refine v_il1 c_16_1 ?_
      refine v_cVv c_16_2 rfl (by decide) rfl rfl (n_tr h.kM hM hx) ?_
      refine v_al0 c_16_3 ?_
      refine v_gR (n0 := 3) c_16_4 rfl ?_
      refine v_il1 c_16_5 ?_
      refine v_cVi c_16_6 rfl (by decide) rfl rfl (k_isP m3 h.kM hM (by omega)) ?_
      refine v_if_ne_tb c_16_7 (by rw [hl]; rfl) ?_
      refine v_al0 c_16_13 ?_
      refine v_gR (n0 := 6) c_16_14 rfl ?_
      refine v_al0 c_16_15 ?_
      refine v_gR (n0 := 3) c_16_16 rfl ?_
      refine v_cVV c_16_17 rfl (by decide) rfl rfl (h_rem h.2.1 h.1 hM) ?_
      rintro t ⟨hH, F⟩
      have hMt : MK t 3 M := h.1.fr F (by omega)
      have hMu := MK.snd (i := i) hMt
      refine v_al0 c_16_18 ?_
      refine v_gR (n0 := 3) c_16_19 rfl ?_
      refine v_il1 c_16_20 ?_
      refine v_cVv c_16_21 rfl (by decide) rfl rfl (k_snd m3 hMt hM (by omega)) ?_
      refine v_al0 c_16_22 ?_
      refine v_gR (n0 := 3) c_16_23 rfl ?_
      refine v_cVi c_16_24 rfl (by decide) rfl rfl (k_pct m3 hMu (hM.lv hi)) ?_
      refine v_ri c_16_25 ?_
      exact ⟨rfl, h.act2 F hH (FR.sI (by omega) (by omega)) hMu⟩
    · have h' := h.th (x := nI 0)
      refine cc_of ml_82 rfl rfl ?_
      refine v_al0 c_82_0 ?_
      refine v_icN (n := 0) c_82_1 rfl ?_
      refine v_pI c_82_2 rfl ?_
      refine v_al0 c_82_3 ?_
      refine v_il1 c_82_4 ?_
      refine v_cVi c_82_5 rfl (by decide) rfl rfl (q_oneI h'.kM hM _) ?_
      refine v_if_ne_tb c_82_6 (hx) ?_
      refine v_al0 c_82_11 ?_
      refine v_il1 c_82_12 ?_
      refine v_cVi c_82_13 rfl (by decide) rfl rfl (q_isP h'.kM hM (by omega)) ?_
      refine v_if_ne_tb c_82_14 (by rw [hl]; rfl) ?_
      refine v_al0 c_82_19 ?_
      refine v_cVV c_82_20 rfl (by decide) rfl rfl (q_rem h'.2.1 h'.1 hM hw.2.1) ?_
      rintro t hp
      have hR := RM.rem h' hp
      have e8 : t.1 88 8 = nI 0 := (hp.2.2.2 8 (by omega)).trans sI_s
      have hQu := QM.lv (i := i) hR.1 hM
      have F9 : FR 89 90 t (sI t 89 1 (nI (mL M ||| 2 ^ i))) := FR.sI (by omega) (by omega)
      refine v_al0 c_82_21 ?_
      refine v_gR (n0 := 89) c_82_22 rfl ?_
      refine v_icN (n := 1) c_82_23 rfl ?_
      refine v_dup2 c_82_24 ?_
      refine v_aI c_82_25 rfl (by omega) (hR.1.2.1) ?_
      refine v_icN (n := 1) c_82_26 rfl ?_
      refine v_il1 c_82_27 ?_
      refine v_ishlN c_82_28 (by omega) ?_
      refine v_iorN c_82_29 ?_
      rw [Nat.one_mul]
      refine v_sI c_82_30 rfl (by omega) ?_
      refine v_al0 c_82_31 ?_
      refine v_cVi c_82_32 rfl (by decide) rfl rfl (q_pre hQu (hM.lv hi)) ?_
      refine v_ri c_82_33 ?_
      exact ⟨_, rfl, xm_a hR (GM.th.f88.tr (rem_fr hp)) e8 (GM.q F9) hQu F9.q8 rfl⟩
  · refine ⟨.inl 2, fun s h => ?_, fun s h => ?_, ⟨by omega, by omega⟩⟩
    · refine cc_of ml_16 rfl rfl ?_
      refine v_al0 c_16_0 ?_
      refine v_il1 c_16_1 ?_
      refine v_cVv c_16_2 rfl (by decide) rfl rfl (n_tr h.kM hM hx) ?_
      refine v_al0 c_16_3 ?_
      refine v_gR (n0 := 3) c_16_4 rfl ?_
      refine v_il1 c_16_5 ?_
      refine v_cVi c_16_6 rfl (by decide) rfl rfl (k_isP m3 h.kM hM (by omega)) ?_
      refine v_if_ne_fb c_16_7 (by rw [hl]; rfl) ?_
      refine vv_x c_16_8 ?_
      exact xc_e h rfl
    · have h' := h.th (x := nI 0)
      refine cc_of ml_82 rfl rfl ?_
      refine v_al0 c_82_0 ?_
      refine v_icN (n := 0) c_82_1 rfl ?_
      refine v_pI c_82_2 rfl ?_
      refine v_al0 c_82_3 ?_
      refine v_il1 c_82_4 ?_
      refine v_cVi c_82_5 rfl (by decide) rfl rfl (q_oneI h'.kM hM _) ?_
      refine v_if_ne_tb c_82_6 (hx) ?_
      refine v_al0 c_82_11 ?_
      refine v_il1 c_82_12 ?_
      refine v_cVi c_82_13 rfl (by decide) rfl rfl (q_isP h'.kM hM (by omega)) ?_
      refine v_if_ne_fb c_82_14 (by rw [hl]; rfl) ?_
      refine v_al0 c_82_15 ?_
      refine v_icN (n := 2) c_82_16 rfl ?_
      refine v_cVi c_82_17 rfl (by decide) rfl rfl (q_fl) ?_
      refine v_ri c_82_18 ?_
      exact ⟨_, rfl, xm_e h⟩
theorem o_hom (hw : WA M L S) : OK2 sc (fun _ => 0) 0 17 84 [.ref 0] [.ref 88] (M, L, S, tx, len) := by
  have hM := hw.1
  refine ⟨.inr (nI (mHc M), (mHo M, (M :: L).take 14, S, tx, len)), fun s h => ?_, fun s h => ?_, hw.act hM.ho⟩
  · refine cc_of ml_17 rfl rfl ?_
    refine v_al0 c_17_0 ?_
    refine v_gR (n0 := 6) c_17_1 rfl ?_
    refine v_al0 c_17_2 ?_
    refine v_gR (n0 := 3) c_17_3 rfl ?_
    refine v_cVV c_17_4 rfl (by decide) rfl rfl (h_rem h.2.1 h.1 hM) ?_
    rintro t ⟨hH, F⟩
    have hMt : MK t 3 M := h.1.fr F (by omega)
    refine v_al0 c_17_5 ?_
    refine v_gR (n0 := 3) c_17_6 rfl ?_
    refine v_cVI c_17_7 rfl (by decide) rfl rfl (k_hom m3 hMt hM) ?_
    rintro x u ⟨rfl, hMu, F3⟩
    refine v_ri c_17_8 ?_
    exact ⟨rfl, h.act2 F hH F3 hMu⟩
  · have h' := h.th (x := nI 0)
    refine cc_of ml_84 rfl rfl ?_
    refine v_al0 c_84_0 ?_
    refine v_icN (n := 0) c_84_1 rfl ?_
    refine v_pI c_84_2 rfl ?_
    refine v_al0 c_84_3 ?_
    refine v_cVV c_84_4 rfl (by decide) rfl rfl (q_rem h'.2.1 h'.1 hM hw.2.1) ?_
    rintro t hp
    have hR := RM.rem h' hp
    have e8 : t.1 88 8 = nI 0 := (hp.2.2.2 8 (by omega)).trans sI_s
    refine v_al0 c_84_5 ?_
    refine v_cVI c_84_6 rfl (by decide) rfl rfl (q_hom hR.1 hM) ?_
    rintro x u ⟨rfl, hQu, F9⟩
    refine v_ri c_84_7 ?_
    exact ⟨_, rfl, xm_a hR (GM.th.f88.tr (rem_fr hp)) e8 (GM.q F9) hQu F9.q8 rfl⟩
theorem o_und (hw : WA M L S) : OK2 sc (fun _ => 1) 1 18 85 [.ref 0] [.ref 88] (M, L, S, tx, len) := by
  match L, hw with
  | [], hw =>
    refine ⟨.inl 1, fun s h => ?_, fun s h => ?_, ⟨by omega, by omega⟩⟩
    · obtain ⟨-, nx, -, a2, -⟩ := h.2.1
      have a2 : s.1 6 1 = nI 0 := a2
      refine cc_of ml_18 rfl rfl ?_
      refine v_al0 c_18_0 ?_
      refine v_gR (n0 := 6) c_18_1 rfl ?_
      refine v_cVi c_18_2 rfl (by decide) rfl rfl ((show RI sc 212 [.ref 6] s (nI 0) s from h_siz h.2.1)) ?_
      refine v_if_ne_F c_18_3 (by omega) (by omega) ?_
      refine vv_x c_18_4 ?_
      exact xc_e h rfl
    · have h' := h.th (x := nI 0)
      refine cc_of ml_85 rfl rfl ?_
      have b2 : (sI s 88 8 (nI 0)).1 88 3 = nI 0 := h'.2.1.2.1
      refine v_al0 c_85_0 ?_
      refine v_icN (n := 0) c_85_1 rfl ?_
      refine v_pI c_85_2 rfl ?_
      refine v_al0 c_85_3 ?_
      refine v_gI c_85_4 rfl (b2) ?_
      refine v_if_ne_F c_85_5 (by omega) (by omega) ?_
      refine v_al0 c_85_6 ?_
      refine v_icN (n := 1) c_85_7 rfl ?_
      refine v_cVi c_85_8 rfl (by decide) rfl rfl (q_fl) ?_
      refine v_ri c_85_9 ?_
      exact ⟨_, rfl, xm_e h⟩
  | N :: L, hw =>
    have hN : MW N := hw.2.1 N (List.mem_cons_self ..)
    refine ⟨.inr (nI L.length, (N, L, S, tx, len)), fun s h => ?_, fun s h => ?_, ⟨hN, fun K hK => hw.2.1 K (List.mem_cons_of_mem _ hK), hw.2.2⟩⟩
    · obtain ⟨hl14, nx, -, a2, -⟩ := h.2.1
      have a2 : s.1 6 1 = nI (L.length + 1) := a2
      have hl14 : L.length + 1 ≤ 14 := hl14
      refine cc_of ml_18 rfl rfl ?_
      refine v_al0 c_18_0 ?_
      refine v_gR (n0 := 6) c_18_1 rfl ?_
      refine v_cVi c_18_2 rfl (by decide) rfl rfl ((show RI sc 212 [.ref 6] s (nI (L.length + 1)) s from h_siz h.2.1)) ?_
      refine v_if_ne_T c_18_3 (by omega) (by omega) ?_
      refine v_al0 c_18_9 ?_
      refine v_gR (n0 := 6) c_18_10 rfl ?_
      refine v_al0 c_18_11 ?_
      refine v_gR (n0 := 3) c_18_12 rfl ?_
      refine v_cVV c_18_13 rfl (by decide) rfl rfl (h_tkb h.2.1 hN.1) ?_
      rintro t ⟨hH, hMt, F⟩
      have hH2 := hH
      obtain ⟨-, nx', -, b2, -⟩ := hH
      refine v_al0 c_18_14 ?_
      refine v_gR (n0 := 6) c_18_15 rfl ?_
      refine v_cVi c_18_16 rfl (by decide) rfl rfl (h_siz hH2) ?_
      refine v_ri c_18_17 ?_
      exact ⟨rfl, h.act F (by omega) hMt hH2, FC.fr F (by omega)⟩
    · have h' := h.th (x := nI 0)
      obtain ⟨s0, hs0⟩ : ∃ s0, s0 = sI s 88 8 (nI 0) := ⟨_, rfl⟩
      rw [← hs0] at h'
      have F0 : FR 88 109 s s0 := by rw [hs0]; exact GM.th.f88
      have e80 : s0.1 88 8 = nI 0 := by rw [hs0]; exact sI_s
      obtain ⟨b1, b2, b3⟩ := h'.2.1
      have b1 : L.length + 1 ≤ 14 := b1
      have b2 : s0.1 88 3 = nI (L.length + 1) := b2
      have hQ : QM (fun i => s0.1 91 (58 * L.length + i)) N := b3 0 N rfl
      obtain ⟨t, ht⟩ : ∃ t, t = sI s0 88 3 (nI L.length) := ⟨_, rfl⟩
      have t3 : t.1 88 3 = nI L.length := by rw [ht, sI_s]
      have F1 : FR 88 89 s0 t := by rw [ht]; exact FR.sI (by omega) (by omega)
      refine cc_of ml_85 rfl rfl ?_
      refine v_al0 c_85_0 ?_
      refine v_icN (n := 0) c_85_1 rfl ?_
      refine v_pI c_85_2 rfl ?_
      rw [← hs0]
      refine v_al0 c_85_3 ?_
      refine v_gI c_85_4 rfl (b2) ?_
      refine v_if_ne_T c_85_5 (by omega) (by omega) ?_
      refine v_al0 c_85_10 ?_
      refine v_dupr c_85_11 ?_
      refine v_gI c_85_12 rfl (b2) ?_
      refine v_icN (n := 1) c_85_13 rfl ?_
      refine v_isubN c_85_14 (by omega) ?_
      refine v_pI c_85_15 rfl ?_
      rw [show L.length + 1 - 1 = L.length from rfl, ← ht]
      refine v_icN (n := 0) c_85_16 rfl ?_
      refine v_is1 c_85_17 rfl ?_
      refine vv_forS 58 (fun i ls u => ls = [some (.ref 88), some (.int (nI i))] ∧ (∀ j, j < i → u.1 89 j = s0.1 91 (58 * L.length + j)) ∧ FR 89 90 t u) ?_ ?_ _ _ ⟨rfl, fun j hj => absurd hj (by omega), FR.rf⟩
      · rintro i ls u hi ⟨rfl, g1, g2⟩ hk
        have u3 : u.1 88 3 = nI L.length := by rw [g2.at (by omega)]; exact t3
        refine v_il1 c_85_18 ?_
        refine v_bpN (n := 58) c_85_19 rfl ?_
        refine v_icmp_ge_F c_85_20 (by omega) (by omega) (by omega) ?_
        refine v_al0 c_85_21 ?_
        refine v_gR (n0 := 89) c_85_22 rfl ?_
        refine v_il1 c_85_23 ?_
        refine v_al0 c_85_24 ?_
        refine v_gR (n0 := 91) c_85_25 rfl ?_
        refine v_bpN (n := 58) c_85_26 rfl ?_
        refine v_al0 c_85_27 ?_
        refine v_gI c_85_28 rfl (u3) ?_
        refine v_imulN c_85_29 ?_
        refine v_il1 c_85_30 ?_
        refine v_iaddN c_85_31 ?_
        refine v_aI c_85_32 rfl (by omega) (show u.1 91 (58 * L.length + i) = s0.1 91 (58 * L.length + i) by rw [g2.at (by omega), F1.at (by omega)]) ?_
        refine v_sI c_85_33 rfl (by omega) ?_
        refine v_incN1 c_85_34 rfl rfl ?_
        refine v_goto c_85_35 ?_
        refine hk _ _ ⟨rfl, fun j hj => ?_, g2.tr (FR.sI (by omega) (by omega))⟩
        by_cases e : j = i
        · rw [e, sI_s]
        · rw [sI_k e]; exact g1 j (by omega)
      · rintro ls u ⟨rfl, g1, g2⟩
        have u3 : u.1 88 3 = nI L.length := by rw [g2.at (by omega)]; exact t3
        refine v_il1 c_85_18 ?_
        refine v_bpN (n := 58) c_85_19 rfl ?_
        refine v_icmp_ge_T c_85_20 (by omega) (by omega) (by omega) ?_
        refine v_al0 c_85_36 ?_
        refine v_gI c_85_37 rfl (u3) ?_
        refine v_ri c_85_38 ?_
        have e88 : ∀ j, j ≠ 3 → u.1 88 j = s0.1 88 j := fun j hj => by rw [g2.at (by omega), ht, sI_k hj]
        have eo : ∀ a, a ≠ 88 → a ≠ 89 → u.1 a = s0.1 a := fun a x y => by rw [g2.at (by omega), F1.at (by omega)]
        refine ⟨_, rfl, (e88 8 (by omega)).trans e80, rfl, ⟨hQ.cp hN.1 g1, ⟨show L.length ≤ 14 by omega, u3, fun j K hj => ?_⟩, h'.2.2.1.of (eo 93 (by omega) (by omega)) (eo 92 (by omega) (by omega)), ?_⟩, (F0.tr (F1.up (by omega) (by omega))).tr (g2.up (by omega) (by omega))⟩
        · have h9 := b3 (j + 1) K (by simpa using hj)
          have hjl := (List.getElem?_eq_some_iff.mp hj).1
          have e9 : (N :: L).length - 1 - (j + 1) = L.length - 1 - j := by
            rw [List.length_cons]
            omega
          rw [e9] at h9
          rw [eo 91 (by omega) (by omega)]
          exact h9
        · have hT := h'.2.2.2
          show TXT u 94 88 7 tx len
          unfold TXT
          rw [e88 7 (by omega), eo 94 (by omega) (by omega)]
          exact hT
end OP3
