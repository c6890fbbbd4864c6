/-! CALLS: about, trader, ring -/
theorem FW.gm {s t : zv_S} (h : FW (sI s 88 8 (nI 0)) t) : GM s t := GM.th.tr (GM.fw h)
section OP2
variable {sc : Nat × (Nat → Int32)} {M : zM} {L : List zM} {S : Nat → Option zM} {tx : Nat → Nat} {len : Nat}
theorem q_inR {s : zv_S} {n : Nat} (h7 : n ≤ 7) (x : Int32) : RI sc 40 [.long x.toInt64, .long 0, .long (nI n - nI 1).toInt64] s (bI (inN n x)) s := by
  have h := q_inC (sc := sc) (s := s) x 0 (nI n - nI 1) (A := 0) (by decide) rfl
  have e : (decide (0 ≤ x) && decide (x ≤ nI n - nI 1)) = inN n x := by
    unfold inN
    show (decide (0 ≤ x) && decide (x ≤ nI n - 1)) = _
    rw [decide_eq_decide.mpr (nI_pm n h7 x)]
  rw [e] at h
  exact h
theorem q_ab {t : zv_S} {Q : zm_O → zv_S → Prop} {x : Int32} (hM : QM (t.1 89) M) (hw : MW M) (T : TQ t (mN M) (mT M (mP M)))
    (hend : ∀ y, VV sc 66 71 [some (.ref 88), some (.int x), some (.int (nI (mOwn M))), some (.int (nI (mMov M))), some (.int (nI (mEnv M))), some (.int (nI (mN M))), y] [] t Q) :
    VV sc 66 5 [some (.ref 88), some (.int x), none, none, none, none, none] [] t Q := by
  have h7 := hw.1
  refine v_icN (n := 0) c_66_5 rfl ?_
  refine v_is2 c_66_6 rfl ?_
  refine v_icN (n := 0) c_66_7 rfl ?_
  refine v_is3 c_66_8 rfl ?_
  refine v_icN (n := 0) c_66_9 rfl ?_
  refine v_is4 c_66_10 rfl ?_
  refine v_icN (n := 0) c_66_11 rfl ?_
  refine v_is5 c_66_12 rfl ?_
  refine vv_forS (mN M) (fun i ls u => (∃ y, ls = [some (.ref 88), some (.int x), some (.int (nI (cnt (fun i => decide (mH M i = i)) i))), some (.int (nI (cnt (fun i => (mP M).testBit i && !decide (gT M (mP M) i = mH M i)) i))), some (.int (nI (smm (fun i => cnt (fun j => mEn M i j) (mN M)) i))), some (.int (nI i)), y]) ∧ u = t) ?_ ?_ _ _ ⟨⟨none, rfl⟩, rfl⟩
  · rintro i ls u hi ⟨⟨y, rfl⟩, rfl⟩ hk
    have bi := hw.2.2.2.1 i hi
    have hp := mP_tb M i
    rw [decide_eq_true hi, Bool.true_and] at hp
    have tail : VV sc 66 48 [some (.ref 88), some (.int x), some (.int (nI (cnt (fun i => decide (mH M i = i)) (i + 1)))), some (.int (nI (cnt (fun i => (mP M).testBit i && !decide (gT M (mP M) i = mH M i)) (i + 1)))), some (.int (nI (smm (fun i => cnt (fun j => mEn M i j) (mN M)) i))), some (.int (nI i)), y] [] u Q := by
      refine v_icN (n := 0) c_66_48 rfl ?_
      refine v_is6 c_66_49 rfl ?_
      refine vv_for (mN M) (fun j => [some (.ref 88), some (.int x), some (.int (nI (cnt (fun i => decide (mH M i = i)) (i + 1)))), some (.int (nI (cnt (fun i => (mP M).testBit i && !decide (gT M (mP M) i = mH M i)) (i + 1)))), some (.int (nI (smm (fun i => cnt (fun j => mEn M i j) (mN M)) i + cnt (fun j => mEn M i j) j))), some (.int (nI i)), some (.int (nI j))]) ?_ ?_
      · intro j hj hk2
        cases h1 : mEn M i j
        · rw [cnt_f (p := fun j => mEn M i j) h1] at hk2
          refine v_il6 c_66_50 ?_
          refine v_al0 c_66_51 ?_
          refine v_gR (n0 := 89) c_66_52 rfl ?_
          refine v_icN (n := 0) c_66_53 rfl ?_
          refine v_aI c_66_54 rfl (by omega) (hM.1) ?_
          refine v_icmp_ge_F c_66_55 (by omega) (by omega) (by omega) ?_
          refine v_il4 c_66_56 ?_
          refine v_al0 c_66_57 ?_
          refine v_il5 c_66_58 ?_
          refine v_il6 c_66_59 ?_
          refine v_cVi c_66_60 rfl (by decide) rfl rfl (q_evy hM hw hi hj) ?_
          refine v_if_eq_tb c_66_61 (h1) ?_
          refine v_icN (n := 0) c_66_64 rfl ?_
          refine v_iaddN c_66_65 ?_
          refine v_is4 c_66_66 rfl ?_
          refine v_incN6 c_66_67 rfl rfl ?_
          refine v_goto c_66_68 ?_
          exact hk2
        · rw [cnt_t (p := fun j => mEn M i j) h1] at hk2
          refine v_il6 c_66_50 ?_
          refine v_al0 c_66_51 ?_
          refine v_gR (n0 := 89) c_66_52 rfl ?_
          refine v_icN (n := 0) c_66_53 rfl ?_
          refine v_aI c_66_54 rfl (by omega) (hM.1) ?_
          refine v_icmp_ge_F c_66_55 (by omega) (by omega) (by omega) ?_
          refine v_il4 c_66_56 ?_
          refine v_al0 c_66_57 ?_
          refine v_il5 c_66_58 ?_
          refine v_il6 c_66_59 ?_
          refine v_cVi c_66_60 rfl (by decide) rfl rfl (q_evy hM hw hi hj) ?_
          refine v_if_eq_fb c_66_61 (h1) ?_
          refine v_icN (n := 1) c_66_62 rfl ?_
          refine v_goto c_66_63 ?_
          refine v_iaddN c_66_65 ?_
          refine v_is4 c_66_66 rfl ?_
          refine v_incN6 c_66_67 rfl rfl ?_
          refine v_goto c_66_68 ?_
          exact hk2
      · refine v_il6 c_66_50 ?_
        refine v_al0 c_66_51 ?_
        refine v_gR (n0 := 89) c_66_52 rfl ?_
        refine v_icN (n := 0) c_66_53 rfl ?_
        refine v_aI c_66_54 rfl (by omega) (hM.1) ?_
        refine v_icmp_ge_T c_66_55 (by omega) (by omega) (by omega) ?_
        refine v_incN5 c_66_69 rfl rfl ?_
        refine v_goto c_66_70 ?_
        exact hk _ _ ⟨⟨_, rfl⟩, rfl⟩
    have mid : VV sc 66 30 [some (.ref 88), some (.int x), some (.int (nI (cnt (fun i => decide (mH M i = i)) (i + 1)))), some (.int (nI (cnt (fun i => (mP M).testBit i && !decide (gT M (mP M) i = mH M i)) i))), some (.int (nI (smm (fun i => cnt (fun j => mEn M i j) (mN M)) i))), some (.int (nI i)), y] [] u Q := by
      cases h1 : (mP M).testBit i
      · rw [h1] at hp
        rw [cnt_f (p := fun i => (mP M).testBit i && !decide (gT M (mP M) i = mH M i)) (by simp [h1])] at tail
        refine v_il3 c_66_30 ?_
        refine v_al0 c_66_31 ?_
        refine v_il5 c_66_32 ?_
        refine v_cVi c_66_33 rfl (by decide) rfl rfl (q_isP hM hw (by omega)) ?_
        refine v_if_eq_tb c_66_34 (hp.symm) ?_
        refine v_icN (n := 0) c_66_45 rfl ?_
        refine v_iaddN c_66_46 ?_
        refine v_is3 c_66_47 rfl ?_
        exact tail
      · rw [h1] at hp
        obtain ⟨g1, g2⟩ := gT_ok hw mP_n h1
        have hg : u.1 95 i = nI (gT M (mP M) i) := (T.2.2.1 i hi).1.trans g1
        by_cases e : gT M (mP M) i = mH M i
        · rw [cnt_f (p := fun i => (mP M).testBit i && !decide (gT M (mP M) i = mH M i)) (by simp [e])] at tail
          refine v_il3 c_66_30 ?_
          refine v_al0 c_66_31 ?_
          refine v_il5 c_66_32 ?_
          refine v_cVi c_66_33 rfl (by decide) rfl rfl (q_isP hM hw (by omega)) ?_
          refine v_if_eq_fb c_66_34 (hp.symm) ?_
          refine v_al0 c_66_35 ?_
          refine v_gR (n0 := 95) c_66_36 rfl ?_
          refine v_il5 c_66_37 ?_
          refine v_aI c_66_38 rfl (by omega) (hg) ?_
          refine v_al0 c_66_39 ?_
          refine v_il5 c_66_40 ?_
          refine v_cVi c_66_41 rfl (by decide) rfl rfl (q_hd hM h7 hi) ?_
          refine v_icmp_eq_T c_66_42 (e) (by omega) (by omega) ?_
          refine v_icN (n := 0) c_66_45 rfl ?_
          refine v_iaddN c_66_46 ?_
          refine v_is3 c_66_47 rfl ?_
          exact tail
        · rw [cnt_t (p := fun i => (mP M).testBit i && !decide (gT M (mP M) i = mH M i)) (by simp [h1, e])] at tail
          refine v_il3 c_66_30 ?_
          refine v_al0 c_66_31 ?_
          refine v_il5 c_66_32 ?_
          refine v_cVi c_66_33 rfl (by decide) rfl rfl (q_isP hM hw (by omega)) ?_
          refine v_if_eq_fb c_66_34 (hp.symm) ?_
          refine v_al0 c_66_35 ?_
          refine v_gR (n0 := 95) c_66_36 rfl ?_
          refine v_il5 c_66_37 ?_
          refine v_aI c_66_38 rfl (by omega) (hg) ?_
          refine v_al0 c_66_39 ?_
          refine v_il5 c_66_40 ?_
          refine v_cVi c_66_41 rfl (by decide) rfl rfl (q_hd hM h7 hi) ?_
          refine v_icmp_eq_F c_66_42 (e) (by omega) (by omega) ?_
          refine v_icN (n := 1) c_66_43 rfl ?_
          refine v_goto c_66_44 ?_
          refine v_iaddN c_66_46 ?_
          refine v_is3 c_66_47 rfl ?_
          exact tail
    by_cases e : mH M i = i
    · rw [cnt_t (p := fun i => decide (mH M i = i)) (by simp [e])] at mid
      refine v_il5 c_66_13 ?_
      refine v_al0 c_66_14 ?_
      refine v_gR (n0 := 89) c_66_15 rfl ?_
      refine v_icN (n := 0) c_66_16 rfl ?_
      refine v_aI c_66_17 rfl (by omega) (hM.1) ?_
      refine v_icmp_ge_F c_66_18 (by omega) (by omega) (by omega) ?_
      refine v_il2 c_66_19 ?_
      refine v_al0 c_66_20 ?_
      refine v_il5 c_66_21 ?_
      refine v_cVi c_66_22 rfl (by decide) rfl rfl (q_hd hM h7 hi) ?_
      refine v_il5 c_66_23 ?_
      refine v_icmp_ne_F c_66_24 (e) (by omega) (by omega) ?_
      refine v_icN (n := 1) c_66_25 rfl ?_
      refine v_goto c_66_26 ?_
      refine v_iaddN c_66_28 ?_
      refine v_is2 c_66_29 rfl ?_
      exact mid
    · rw [cnt_f (p := fun i => decide (mH M i = i)) (by simp [e])] at mid
      refine v_il5 c_66_13 ?_
      refine v_al0 c_66_14 ?_
      refine v_gR (n0 := 89) c_66_15 rfl ?_
      refine v_icN (n := 0) c_66_16 rfl ?_
      refine v_aI c_66_17 rfl (by omega) (hM.1) ?_
      refine v_icmp_ge_F c_66_18 (by omega) (by omega) (by omega) ?_
      refine v_il2 c_66_19 ?_
      refine v_al0 c_66_20 ?_
      refine v_il5 c_66_21 ?_
      refine v_cVi c_66_22 rfl (by decide) rfl rfl (q_hd hM h7 hi) ?_
      refine v_il5 c_66_23 ?_
      refine v_icmp_ne_T c_66_24 (e) (by omega) (by omega) ?_
      refine v_icN (n := 0) c_66_27 rfl ?_
      refine v_iaddN c_66_28 ?_
      refine v_is2 c_66_29 rfl ?_
      exact mid
  · rintro ls u ⟨⟨y, rfl⟩, rfl⟩
    refine v_il5 c_66_13 ?_
    refine v_al0 c_66_14 ?_
    refine v_gR (n0 := 89) c_66_15 rfl ?_
    refine v_icN (n := 0) c_66_16 rfl ?_
    refine v_aI c_66_17 rfl (by omega) (hM.1) ?_
    refine v_icmp_ge_T c_66_18 (by omega) (by omega) (by omega) ?_
    exact hend _
theorem o_abt (hw : WA M L S) (x : Int32) : OK2 sc (fun _ => 0) 1 5 66 [.ref 0, .int x] [.ref 88, .int x] (M, L, S, tx, len) := by
  have hM := hw.1
  have mdl : ∀ (s : zv_S) (Q : zm_O → zv_S → Prop), RMw s (M, L, S, tx, len) → (∀ t y, QM (t.1 89) M → GM s t → t.1 88 8 = nI 0 → TQ t (mN M) (mT M (mP M)) → VV sc 66 71 [some (.ref 88), some (.int x), some (.int (nI (mOwn M))), some (.int (nI (mMov M))), some (.int (nI (mEnv M))), some (.int (nI (mN M))), y] [] t Q) → CC sc 66 [.ref 88, .int x] s Q := by
    intro s Q h hk
    have h' := h.th (x := nI 0)
    refine cc_of ml_66 rfl rfl ?_
    refine v_al0 c_66_0 ?_
    refine v_icN (n := 0) c_66_1 rfl ?_
    refine v_pI c_66_2 rfl ?_
    refine v_al0 c_66_3 ?_
    refine v_cVV c_66_4 rfl (by decide) rfl rfl (q_fnd h'.kM hM) ?_
    rintro t ⟨T, F⟩
    have hq : QM (t.1 89) M := h'.kM.fw F
    exact q_ab hq hM T fun y => hk t y hq F.gm (F.2.2.2.2.trans sI_s) T
  cases hx : inN 8 x
  · refine ⟨.inl 1, fun s h => ?_, fun s h => mdl s _ h ?_, ⟨by omega, by omega⟩⟩
    · refine cc_of ml_5 rfl rfl ?_
      refine v_il1 c_5_0 ?_
      refine v_sw (n := 36) c_5_1 (sw_no hx (by decide)) ?_
      refine vv_x c_5_36 ?_
      exact xc_e h rfl
    · intro t y hq F e8 T
      refine v_il1 c_66_71 ?_
      refine v_sw (n := 96) c_66_72 (sw_no hx (by decide)) ?_
      refine v_al0 c_66_96 ?_
      refine v_icN (n := 1) c_66_97 rfl ?_
      refine v_cVi c_66_98 rfl (by decide) rfl rfl (q_fl) ?_
      refine v_ri c_66_99 ?_
      exact ⟨_, rfl, xm_x h F hq⟩
  obtain ⟨k, hk8, rfl⟩ := (show ∃ k, k < 8 ∧ x = nI k from by
    unfold inN at hx
    rw [Bool.and_eq_true, decide_eq_true_eq, decide_eq_true_eq] at hx
    obtain ⟨j, hj, rfl⟩ := nI_of (Int32.not_lt.mpr hx.1)
    exact ⟨j, (nI_ltI hj (by omega)).mp hx.2, rfl⟩)
  rcases (show k = 0 ∨ k = 1 ∨ k = 2 ∨ k = 3 ∨ k = 4 ∨ k = 5 ∨ k = 6 ∨ k = 7 by omega) with rfl | rfl | rfl | rfl | rfl | rfl | rfl | rfl
  · refine ⟨.inr (nI (mN M), (M, L, S, tx, len)), fun s h => ?_, fun s h => mdl s _ h ?_, hw⟩
    · refine cc_of ml_5 rfl rfl ?_
      refine v_il1 c_5_0 ?_
      refine v_sw (n := 2) c_5_1 (by decide +kernel) ?_
      refine v_al0 c_5_2 ?_
      refine v_gR (n0 := 3) c_5_3 rfl ?_
      refine v_gI c_5_4 rfl (h.kM.1) ?_
      refine v_ri c_5_5 ?_
      exact xc_0 h rfl
    · intro t y hq F e8 T
      refine v_il1 c_66_71 ?_
      refine v_sw (n := 73) c_66_72 (by decide +kernel) ?_
      refine v_al0 c_66_73 ?_
      refine v_gR (n0 := 89) c_66_74 rfl ?_
      refine v_icN (n := 0) c_66_75 rfl ?_
      refine v_aI c_66_76 rfl (by omega) (hq.1) ?_
      refine v_ri c_66_77 ?_
      exact ⟨_, rfl, xm_r h F hq e8 rfl⟩
  · refine ⟨.inr (nI (pc (mP M)), (M, L, S, tx, len)), fun s h => ?_, fun s h => mdl s _ h ?_, hw⟩
    · refine cc_of ml_5 rfl rfl ?_
      refine v_il1 c_5_0 ?_
      refine v_sw (n := 6) c_5_1 (by decide +kernel) ?_
      refine v_al0 c_5_6 ?_
      refine v_gR (n0 := 3) c_5_7 rfl ?_
      refine v_cVi c_5_8 rfl (by decide) rfl rfl (k_pct m3 h.kM hM) ?_
      refine v_ri c_5_9 ?_
      exact xc_0 h rfl
    · intro t y hq F e8 T
      refine v_il1 c_66_71 ?_
      refine v_sw (n := 78) c_66_72 (by decide +kernel) ?_
      refine v_al0 c_66_78 ?_
      refine v_cVi c_66_79 rfl (by decide) rfl rfl (q_pre hq hM) ?_
      refine v_ri c_66_80 ?_
      exact ⟨_, rfl, xm_r h F hq e8 rfl⟩
  · refine ⟨.inr (nI (mOwn M), (M, L, S, tx, len)), fun s h => ?_, fun s h => mdl s _ h ?_, hw⟩
    · refine cc_of ml_5 rfl rfl ?_
      refine v_il1 c_5_0 ?_
      refine v_sw (n := 10) c_5_1 (by decide +kernel) ?_
      refine v_al0 c_5_10 ?_
      refine v_gR (n0 := 3) c_5_11 rfl ?_
      refine v_cVi c_5_12 rfl (by decide) rfl rfl (k_own m3 h.kM hM) ?_
      refine v_ri c_5_13 ?_
      exact xc_0 h rfl
    · intro t y hq F e8 T
      refine v_il1 c_66_71 ?_
      refine v_sw (n := 81) c_66_72 (by decide +kernel) ?_
      refine v_il2 c_66_81 ?_
      refine v_ri c_66_82 ?_
      exact ⟨_, rfl, xm_r h F hq e8 rfl⟩
  · refine ⟨.inr (nI (mSum M), (M, L, S, tx, len)), fun s h => ?_, fun s h => mdl s _ h ?_, hw⟩
    · refine cc_of ml_5 rfl rfl ?_
      refine v_il1 c_5_0 ?_
      refine v_sw (n := 14) c_5_1 (by decide +kernel) ?_
      refine v_al0 c_5_14 ?_
      refine v_gR (n0 := 3) c_5_15 rfl ?_
      refine v_cVi c_5_16 rfl (by decide) rfl rfl (k_sum m3 h.kM hM) ?_
      refine v_ri c_5_17 ?_
      exact xc_0 h rfl
    · intro t y hq F e8 T
      refine v_il1 c_66_71 ?_
      refine v_sw (n := 83) c_66_72 (by decide +kernel) ?_
      refine v_al0 c_66_83 ?_
      refine v_cVi c_66_84 rfl (by decide) rfl rfl (q_all hq hM) ?_
      refine v_ri c_66_85 ?_
      exact ⟨_, rfl, xm_r h F hq e8 rfl⟩
  · refine ⟨.inr (nI (tRi (mT M (mP M))), (M, L, S, tx, len)), fun s h => ?_, fun s h => mdl s _ h ?_, hw⟩
    · refine cc_of ml_5 rfl rfl ?_
      refine v_il1 c_5_0 ?_
      refine v_sw (n := 18) c_5_1 (by decide +kernel) ?_
      refine v_al0 c_5_18 ?_
      refine v_cVR c_5_19 rfl (by decide) rfl rfl (n_pt h.kM hM) ?_
      rintro _ t ⟨rfl, T, F⟩
      refine v_gI c_5_20 rfl (T.1) ?_
      refine v_ri c_5_21 ?_
      exact xc_r h F (by omega) rfl
    · intro t y hq F e8 T
      refine v_il1 c_66_71 ?_
      refine v_sw (n := 86) c_66_72 (by decide +kernel) ?_
      refine v_al0 c_66_86 ?_
      refine v_gI c_66_87 rfl (T.1) ?_
      refine v_ri c_66_88 ?_
      exact ⟨_, rfl, xm_r h F hq e8 rfl⟩
  · refine ⟨.inr (nI (tRo (mT M (mP M))), (M, L, S, tx, len)), fun s h => ?_, fun s h => mdl s _ h ?_, hw⟩
    · refine cc_of ml_5 rfl rfl ?_
      refine v_il1 c_5_0 ?_
      refine v_sw (n := 22) c_5_1 (by decide +kernel) ?_
      refine v_al0 c_5_22 ?_
      refine v_cVR c_5_23 rfl (by decide) rfl rfl (n_pt h.kM hM) ?_
      rintro _ t ⟨rfl, T, F⟩
      refine v_gI c_5_24 rfl (T.2.1) ?_
      refine v_ri c_5_25 ?_
      exact xc_r h F (by omega) rfl
    · intro t y hq F e8 T
      refine v_il1 c_66_71 ?_
      refine v_sw (n := 89) c_66_72 (by decide +kernel) ?_
      refine v_al0 c_66_89 ?_
      refine v_gI c_66_90 rfl (T.2.1) ?_
      refine v_ri c_66_91 ?_
      exact ⟨_, rfl, xm_r h F hq e8 rfl⟩
  · refine ⟨.inr (nI (mMov M), (M, L, S, tx, len)), fun s h => ?_, fun s h => mdl s _ h ?_, hw⟩
    · refine cc_of ml_5 rfl rfl ?_
      refine v_il1 c_5_0 ?_
      refine v_sw (n := 26) c_5_1 (by decide +kernel) ?_
      refine v_al0 c_5_26 ?_
      refine v_cVR c_5_27 rfl (by decide) rfl rfl (n_pt h.kM hM) ?_
      rintro _ t ⟨rfl, T, F⟩
      refine v_al0 c_5_28 ?_
      refine v_gR (n0 := 3) c_5_29 rfl ?_
      refine v_cVi c_5_30 rfl (by decide) rfl rfl (c_mov m3 t55 (h.fr F (by omega)).kM hM T) ?_
      refine v_ri c_5_31 ?_
      exact xc_r h F (by omega) rfl
    · intro t y hq F e8 T
      refine v_il1 c_66_71 ?_
      refine v_sw (n := 92) c_66_72 (by decide +kernel) ?_
      refine v_il3 c_66_92 ?_
      refine v_ri c_66_93 ?_
      exact ⟨_, rfl, xm_r h F hq e8 rfl⟩
  · refine ⟨.inr (nI (mEnv M), (M, L, S, tx, len)), fun s h => ?_, fun s h => mdl s _ h ?_, hw⟩
    · refine cc_of ml_5 rfl rfl ?_
      refine v_il1 c_5_0 ?_
      refine v_sw (n := 32) c_5_1 (by decide +kernel) ?_
      refine v_al0 c_5_32 ?_
      refine v_gR (n0 := 3) c_5_33 rfl ?_
      refine v_cVi c_5_34 rfl (by decide) rfl rfl (k_env m3 h.kM hM) ?_
      refine v_ri c_5_35 ?_
      exact xc_0 h rfl
    · intro t y hq F e8 T
      refine v_il1 c_66_71 ?_
      refine v_sw (n := 94) c_66_72 (by decide +kernel) ?_
      refine v_il4 c_66_94 ?_
      refine v_ri c_66_95 ?_
      exact ⟨_, rfl, xm_r h F hq e8 rfl⟩
theorem o_tra (hw : WA M L S) (x y : Int32) : OK2 sc (fun k => if k = 1 then 2 else 0) 2 6 67 [.ref 0, .int x, .int y] [.ref 88, .int x, .int y] (M, L, S, tx, len) := by
  have hM := hw.1
  have h7 := hM.1
  cases hx : inN (mN M) x
  · refine ⟨.inl 1, fun s h => ?_, fun s h => ?_, ⟨by omega, by omega⟩⟩
    · refine cc_of ml_6 rfl rfl ?_
      refine v_al0 c_6_0 ?_
      refine v_il1 c_6_1 ?_
      refine v_cVX c_6_2 rfl (by decide) rfl rfl (n_trX h.kM hM hx) ht_6 ?_
      exact xc_e h rfl
    · have h' := h.th (x := nI 0)
      refine cc_of ml_67 rfl rfl ?_
      refine v_al0 c_67_0 ?_
      refine v_icN (n := 0) c_67_1 rfl ?_
      refine v_pI c_67_2 rfl ?_
      refine v_al0 c_67_3 ?_
      refine v_il1 c_67_4 ?_
      refine v_cVi c_67_5 rfl (by decide) rfl rfl (q_oneI h'.kM hM x) ?_
      refine v_if_ne_fb c_67_6 (hx) ?_
      refine v_al0 c_67_7 ?_
      refine v_icN (n := 1) c_67_8 rfl ?_
      refine v_cVi c_67_9 rfl (by decide) rfl rfl (q_fl) ?_
      refine v_ri c_67_10 ?_
      exact ⟨_, rfl, xm_e h⟩
  have mdl : ∀ (s : zv_S) (Q : zm_O → zv_S → Prop), RMw s (M, L, S, tx, len) → (∀ t, QM (t.1 89) M → GM s t → t.1 88 8 = nI 0 → TQ t (mN M) (mT M (mP M)) → VV sc 67 13 [some (.ref 88), some (.int x), some (.int y)] [] t Q) → CC sc 67 [.ref 88, .int x, .int y] s Q := by
    intro s Q h hk
    have h' := h.th (x := nI 0)
    refine cc_of ml_67 rfl rfl ?_
    refine v_al0 c_67_0 ?_
    refine v_icN (n := 0) c_67_1 rfl ?_
    refine v_pI c_67_2 rfl ?_
    refine v_al0 c_67_3 ?_
    refine v_il1 c_67_4 ?_
    refine v_cVi c_67_5 rfl (by decide) rfl rfl (q_oneI h'.kM hM x) ?_
    refine v_if_ne_tb c_67_6 (hx) ?_
    refine v_al0 c_67_11 ?_
    refine v_cVV c_67_12 rfl (by decide) rfl rfl (q_fnd h'.kM hM) ?_
    rintro t ⟨T, F⟩
    have hq : QM (t.1 89) M := h'.kM.fw F
    exact hk t hq F.gm (F.2.2.2.2.trans sI_s) T
  cases hy : inN 7 y
  · refine ⟨.inl 2, fun s h => ?_, fun s h => mdl s _ h ?_, ⟨by omega, by omega⟩⟩
    · refine cc_of ml_6 rfl rfl ?_
      refine v_al0 c_6_0 ?_
      refine v_il1 c_6_1 ?_
      refine v_cVv c_6_2 rfl (by decide) rfl rfl (n_tr h.kM hM hx) ?_
      refine v_il2 c_6_3 ?_
      refine v_sw (n := 49) c_6_4 (sw_no hy (by decide)) ?_
      refine vv_x c_6_49 ?_
      exact xc_e h rfl
    · intro t hq F e8 T
      refine v_il2 c_67_13 ?_
      refine v_sw (n := 54) c_67_14 (sw_no hy (by decide)) ?_
      refine v_al0 c_67_54 ?_
      refine v_icN (n := 2) c_67_55 rfl ?_
      refine v_cVi c_67_56 rfl (by decide) rfl rfl (q_fl) ?_
      refine v_ri c_67_57 ?_
      exact ⟨_, rfl, xm_x h F hq⟩
  obtain ⟨i, hi, rfl⟩ := inN_of hM.1 hx
  obtain ⟨k, hk, rfl⟩ := inN_of (Nat.le_refl 7) hy
  rcases (show k = 0 ∨ k = 1 ∨ k = 2 ∨ k = 3 ∨ k = 4 ∨ k = 5 ∨ k = 6 by omega) with rfl | rfl | rfl | rfl | rfl | rfl | rfl
  · refine ⟨.inr (nI (mH M i), (M, L, S, tx, len)), fun s h => ?_, fun s h => mdl s _ h ?_, hw⟩
    · refine cc_of ml_6 rfl rfl ?_
      refine v_al0 c_6_0 ?_
      refine v_il1 c_6_1 ?_
      refine v_cVv c_6_2 rfl (by decide) rfl rfl (n_tr h.kM hM hx) ?_
      refine v_il2 c_6_3 ?_
      refine v_sw (n := 5) c_6_4 (by decide +kernel) ?_
      refine v_al0 c_6_5 ?_
      refine v_gR (n0 := 3) c_6_6 rfl ?_
      refine v_gR (n0 := 5) c_6_7 rfl ?_
      refine v_il1 c_6_8 ?_
      refine v_at c_6_9 rfl (by omega) (h.kM.2.2.2 i hi) rfl ?_
      refine v_ri c_6_10 ?_
      exact xc_0 h rfl
    · intro t hq F e8 T
      refine v_il2 c_67_13 ?_
      refine v_sw (n := 15) c_67_14 (by decide +kernel) ?_
      refine v_al0 c_67_15 ?_
      refine v_il1 c_67_16 ?_
      refine v_cVi c_67_17 rfl (by decide) rfl rfl (q_hd hq h7 hi) ?_
      refine v_ri c_67_18 ?_
      exact ⟨_, rfl, xm_r h F hq e8 rfl⟩
  · refine ⟨.inr (nI (mR M i (mH M i)), (M, L, S, tx, len)), fun s h => ?_, fun s h => mdl s _ h ?_, hw⟩
    · refine cc_of ml_6 rfl rfl ?_
      refine v_al0 c_6_0 ?_
      refine v_il1 c_6_1 ?_
      refine v_cVv c_6_2 rfl (by decide) rfl rfl (n_tr h.kM hM hx) ?_
      refine v_il2 c_6_3 ?_
      refine v_sw (n := 11) c_6_4 (by decide +kernel) ?_
      refine v_al0 c_6_11 ?_
      refine v_gR (n0 := 3) c_6_12 rfl ?_
      refine v_il1 c_6_13 ?_
      refine v_cVi c_6_14 rfl (by decide) rfl rfl (k_rkH m3 h.kM hM hi) ?_
      refine v_ri c_6_15 ?_
      exact xc_0 h rfl
    · intro t hq F e8 T
      refine v_il2 c_67_13 ?_
      refine v_sw (n := 19) c_67_14 (by decide +kernel) ?_
      refine v_al0 c_67_19 ?_
      refine v_il1 c_67_20 ?_
      refine v_al0 c_67_21 ?_
      refine v_il1 c_67_22 ?_
      refine v_cVi c_67_23 rfl (by decide) rfl rfl (q_hd hq h7 hi) ?_
      refine v_cVi c_67_24 rfl (by decide) rfl rfl (q_rk hq hM hi (hM.2.2.2.1 i hi)) ?_
      refine v_ri c_67_25 ?_
      exact ⟨_, rfl, xm_r h F hq e8 rfl⟩
  · cases hl : (mL M).testBit i
    · refine ⟨.inr (nI 1, (M, L, S, tx, len)), fun s h => ?_, fun s h => mdl s _ h ?_, hw⟩
      · refine cc_of ml_6 rfl rfl ?_
        refine v_al0 c_6_0 ?_
        refine v_il1 c_6_1 ?_
        refine v_cVv c_6_2 rfl (by decide) rfl rfl (n_tr h.kM hM hx) ?_
        refine v_il2 c_6_3 ?_
        refine v_sw (n := 16) c_6_4 (by decide +kernel) ?_
        refine v_al0 c_6_16 ?_
        refine v_gR (n0 := 3) c_6_17 rfl ?_
        refine v_il1 c_6_18 ?_
        refine v_cVi c_6_19 rfl (by decide) rfl rfl (k_isP m3 h.kM hM (by omega)) ?_
        refine v_if_eq_fb c_6_20 (by rw [hl]; rfl) ?_
        refine v_icN (n := 1) c_6_21 rfl ?_
        refine v_goto c_6_22 ?_
        refine v_ri c_6_24 ?_
        exact xc_0 h rfl
      · intro t hq F e8 T
        refine v_il2 c_67_13 ?_
        refine v_sw (n := 26) c_67_14 (by decide +kernel) ?_
        refine v_al0 c_67_26 ?_
        refine v_il1 c_67_27 ?_
        refine v_cVi c_67_28 rfl (by decide) rfl rfl (q_isP hq hM (by omega)) ?_
        refine v_if_eq_fb c_67_29 (by rw [hl]; rfl) ?_
        refine v_icN (n := 1) c_67_30 rfl ?_
        refine v_goto c_67_31 ?_
        refine v_ri c_67_33 ?_
        exact ⟨_, rfl, xm_r h F hq e8 rfl⟩
    · refine ⟨.inr (nI 0, (M, L, S, tx, len)), fun s h => ?_, fun s h => mdl s _ h ?_, hw⟩
      · refine cc_of ml_6 rfl rfl ?_
        refine v_al0 c_6_0 ?_
        refine v_il1 c_6_1 ?_
        refine v_cVv c_6_2 rfl (by decide) rfl rfl (n_tr h.kM hM hx) ?_
        refine v_il2 c_6_3 ?_
        refine v_sw (n := 16) c_6_4 (by decide +kernel) ?_
        refine v_al0 c_6_16 ?_
        refine v_gR (n0 := 3) c_6_17 rfl ?_
        refine v_il1 c_6_18 ?_
        refine v_cVi c_6_19 rfl (by decide) rfl rfl (k_isP m3 h.kM hM (by omega)) ?_
        refine v_if_eq_tb c_6_20 (by rw [hl]; rfl) ?_
        refine v_icN (n := 0) c_6_23 rfl ?_
        refine v_ri c_6_24 ?_
        exact xc_0 h rfl
      · intro t hq F e8 T
        refine v_il2 c_67_13 ?_
        refine v_sw (n := 26) c_67_14 (by decide +kernel) ?_
        refine v_al0 c_67_26 ?_
        refine v_il1 c_67_27 ?_
        refine v_cVi c_67_28 rfl (by decide) rfl rfl (q_isP hq hM (by omega)) ?_
        refine v_if_eq_tb c_67_29 (by rw [hl]; rfl) ?_
        refine v_icN (n := 0) c_67_32 rfl ?_
        refine v_ri c_67_33 ?_
        exact ⟨_, rfl, xm_r h F hq e8 rfl⟩
  · refine ⟨.inr (tGe (mT M (mP M)) i, (M, L, S, tx, len)), fun s h => ?_, fun s h => mdl s _ h ?_, hw⟩
    · refine cc_of ml_6 rfl rfl ?_
      refine v_al0 c_6_0 ?_
      refine v_il1 c_6_1 ?_
      refine v_cVv c_6_2 rfl (by decide) rfl rfl (n_tr h.kM hM hx) ?_
      refine v_il2 c_6_3 ?_
      refine v_sw (n := 25) c_6_4 (by decide +kernel) ?_
      refine v_al0 c_6_25 ?_
      refine v_cVR c_6_26 rfl (by decide) rfl rfl (n_pt h.kM hM) ?_
      rintro _ t ⟨rfl, T, F⟩
      refine v_gR (n0 := 62) c_6_27 rfl ?_
      refine v_il1 c_6_28 ?_
      refine v_at c_6_29 rfl (by omega) ((T.2.2.1 i hi).1) rfl ?_
      refine v_ri c_6_30 ?_
      exact xc_r h F (by omega) rfl
    · intro t hq F e8 T
      refine v_il2 c_67_13 ?_
      refine v_sw (n := 34) c_67_14 (by decide +kernel) ?_
      refine v_al0 c_67_34 ?_
      refine v_gR (n0 := 95) c_67_35 rfl ?_
      refine v_il1 c_67_36 ?_
      refine v_aI c_67_37 rfl (by omega) ((T.2.2.1 i hi).1) ?_
      refine v_ri c_67_38 ?_
      exact ⟨_, rfl, xm_r h F hq e8 rfl⟩
  · refine ⟨.inr (tRf (mT M (mP M)) i, (M, L, S, tx, len)), fun s h => ?_, fun s h => mdl s _ h ?_, hw⟩
    · refine cc_of ml_6 rfl rfl ?_
      refine v_al0 c_6_0 ?_
      refine v_il1 c_6_1 ?_
      refine v_cVv c_6_2 rfl (by decide) rfl rfl (n_tr h.kM hM hx) ?_
      refine v_il2 c_6_3 ?_
      refine v_sw (n := 31) c_6_4 (by decide +kernel) ?_
      refine v_al0 c_6_31 ?_
      refine v_cVR c_6_32 rfl (by decide) rfl rfl (n_pt h.kM hM) ?_
      rintro _ t ⟨rfl, T, F⟩
      refine v_gR (n0 := 63) c_6_33 rfl ?_
      refine v_il1 c_6_34 ?_
      refine v_at c_6_35 rfl (by omega) ((T.2.2.1 i hi).2.1) rfl ?_
      refine v_ri c_6_36 ?_
      exact xc_r h F (by omega) rfl
    · intro t hq F e8 T
      refine v_il2 c_67_13 ?_
      refine v_sw (n := 39) c_67_14 (by decide +kernel) ?_
      refine v_al0 c_67_39 ?_
      refine v_gR (n0 := 96) c_67_40 rfl ?_
      refine v_il1 c_67_41 ?_
      refine v_aI c_67_42 rfl (by omega) ((T.2.2.1 i hi).2.1) ?_
      refine v_ri c_67_43 ?_
      exact ⟨_, rfl, xm_r h F hq e8 rfl⟩
  · refine ⟨.inr (tGf (mT M (mP M)) i, (M, L, S, tx, len)), fun s h => ?_, fun s h => mdl s _ h ?_, hw⟩
    · refine cc_of ml_6 rfl rfl ?_
      refine v_al0 c_6_0 ?_
      refine v_il1 c_6_1 ?_
      refine v_cVv c_6_2 rfl (by decide) rfl rfl (n_tr h.kM hM hx) ?_
      refine v_il2 c_6_3 ?_
      refine v_sw (n := 37) c_6_4 (by decide +kernel) ?_
      refine v_al0 c_6_37 ?_
      refine v_cVR c_6_38 rfl (by decide) rfl rfl (n_pt h.kM hM) ?_
      rintro _ t ⟨rfl, T, F⟩
      refine v_gR (n0 := 64) c_6_39 rfl ?_
      refine v_il1 c_6_40 ?_
      refine v_at c_6_41 rfl (by omega) ((T.2.2.1 i hi).2.2.1) rfl ?_
      refine v_ri c_6_42 ?_
      exact xc_r h F (by omega) rfl
    · intro t hq F e8 T
      refine v_il2 c_67_13 ?_
      refine v_sw (n := 44) c_67_14 (by decide +kernel) ?_
      refine v_al0 c_67_44 ?_
      refine v_gR (n0 := 97) c_67_45 rfl ?_
      refine v_il1 c_67_46 ?_
      refine v_aI c_67_47 rfl (by omega) ((T.2.2.1 i hi).2.2.1) ?_
      refine v_ri c_67_48 ?_
      exact ⟨_, rfl, xm_r h F hq e8 rfl⟩
  · refine ⟨.inr (tFi (mT M (mP M)) i, (M, L, S, tx, len)), fun s h => ?_, fun s h => mdl s _ h ?_, hw⟩
    · refine cc_of ml_6 rfl rfl ?_
      refine v_al0 c_6_0 ?_
      refine v_il1 c_6_1 ?_
      refine v_cVv c_6_2 rfl (by decide) rfl rfl (n_tr h.kM hM hx) ?_
      refine v_il2 c_6_3 ?_
      refine v_sw (n := 43) c_6_4 (by decide +kernel) ?_
      refine v_al0 c_6_43 ?_
      refine v_cVR c_6_44 rfl (by decide) rfl rfl (n_pt h.kM hM) ?_
      rintro _ t ⟨rfl, T, F⟩
      refine v_gR (n0 := 65) c_6_45 rfl ?_
      refine v_il1 c_6_46 ?_
      refine v_at c_6_47 rfl (by omega) ((T.2.2.1 i hi).2.2.2) rfl ?_
      refine v_ri c_6_48 ?_
      exact xc_r h F (by omega) rfl
    · intro t hq F e8 T
      refine v_il2 c_67_13 ?_
      refine v_sw (n := 49) c_67_14 (by decide +kernel) ?_
      refine v_al0 c_67_49 ?_
      refine v_gR (n0 := 98) c_67_50 rfl ?_
      refine v_il1 c_67_51 ?_
      refine v_aI c_67_52 rfl (by omega) ((T.2.2.1 i hi).2.2.2) ?_
      refine v_ri c_67_53 ?_
      exact ⟨_, rfl, xm_r h F hq e8 rfl⟩
theorem o_rng (hw : WA M L S) (x y : Int32) : OK2 sc (fun k => if k = 1 then 2 else 0) 2 9 70 [.ref 0, .int x, .int y] [.ref 88, .int x, .int y] (M, L, S, tx, len) := by
  have hM := hw.1
  have h7 := hM.1
  have hr7 := mRn_7 hM
  cases hx : inN (mRn M) x
  · refine ⟨.inl 1, fun s h => ?_, fun s h => ?_, ⟨by omega, by omega⟩⟩
    · refine cc_of ml_9 rfl rfl ?_
      refine v_al0 c_9_0 ?_
      refine v_cVR c_9_1 rfl (by decide) rfl rfl (n_pt h.kM hM) ?_
      rintro _ t ⟨rfl, T, F⟩
      refine v_as3 c_9_2 rfl ?_
      refine v_al3 c_9_3 ?_
      refine v_il1 c_9_4 ?_
      refine v_cSX c_9_5 rfl rfl rfl (n_rgX T hr7 hx) ht_9 ?_
      exact xc_x h F (by omega) rfl
    · have h' := h.th (x := nI 0)
      refine cc_of ml_70 rfl rfl ?_
      refine v_al0 c_70_0 ?_
      refine v_icN (n := 0) c_70_1 rfl ?_
      refine v_pI c_70_2 rfl ?_
      refine v_al0 c_70_3 ?_
      refine v_cVV c_70_4 rfl (by decide) rfl rfl (q_fnd h'.kM hM) ?_
      rintro t ⟨T, F⟩
      have hri : t.1 88 16 = nI (mRn M) := T.1
      refine v_il1 c_70_5 ?_
      refine v_i2l c_70_6 ?_
      refine v_lc c_70_7 ?_
      refine v_al0 c_70_8 ?_
      refine v_gI c_70_9 rfl (hri) ?_
      refine v_icN (n := 1) c_70_10 rfl ?_
      refine v_isub c_70_11 ?_
      refine v_i2l c_70_12 ?_
      refine v_cSi c_70_13 rfl rfl rfl (q_inR hr7 x) ?_
      refine v_if_ne_fb c_70_14 (hx) ?_
      refine v_al0 c_70_15 ?_
      refine v_icN (n := 1) c_70_16 rfl ?_
      refine v_cVi c_70_17 rfl (by decide) rfl rfl (q_fl) ?_
      refine v_ri c_70_18 ?_
      exact ⟨_, rfl, xm_x h F.gm (h'.kM.fw F)⟩
  cases hy : inN 4 y
  · refine ⟨.inl 2, fun s h => ?_, fun s h => ?_, ⟨by omega, by omega⟩⟩
    · refine cc_of ml_9 rfl rfl ?_
      refine v_al0 c_9_0 ?_
      refine v_cVR c_9_1 rfl (by decide) rfl rfl (n_pt h.kM hM) ?_
      rintro _ t ⟨rfl, T, F⟩
      refine v_as3 c_9_2 rfl ?_
      refine v_al3 c_9_3 ?_
      refine v_il1 c_9_4 ?_
      refine v_cSv c_9_5 rfl rfl rfl (n_rg T hr7 hx) ?_
      refine v_il2 c_9_6 ?_
      refine v_sw (n := 30) c_9_7 (sw_no hy (by decide)) ?_
      refine vv_x c_9_30 ?_
      exact xc_x h F (by omega) rfl
    · have h' := h.th (x := nI 0)
      have hy3 : (decide (nI 0 ≤ y) && decide (y ≤ nI 3)) = false := by
        have e := nI_pm 4 (by omega) y
        unfold inN at hy
        rw [show nI 3 = nI 4 - 1 from rfl, decide_eq_decide.mpr e]
        exact hy
      refine cc_of ml_70 rfl rfl ?_
      refine v_al0 c_70_0 ?_
      refine v_icN (n := 0) c_70_1 rfl ?_
      refine v_pI c_70_2 rfl ?_
      refine v_al0 c_70_3 ?_
      refine v_cVV c_70_4 rfl (by decide) rfl rfl (q_fnd h'.kM hM) ?_
      rintro t ⟨T, F⟩
      have hri : t.1 88 16 = nI (mRn M) := T.1
      refine v_il1 c_70_5 ?_
      refine v_i2l c_70_6 ?_
      refine v_lc c_70_7 ?_
      refine v_al0 c_70_8 ?_
      refine v_gI c_70_9 rfl (hri) ?_
      refine v_icN (n := 1) c_70_10 rfl ?_
      refine v_isub c_70_11 ?_
      refine v_i2l c_70_12 ?_
      refine v_cSi c_70_13 rfl rfl rfl (q_inR hr7 x) ?_
      refine v_if_ne_tb c_70_14 (hx) ?_
      refine v_il2 c_70_19 ?_
      refine v_i2l c_70_20 ?_
      refine v_lc c_70_21 ?_
      refine v_l2 c_70_22 ?_
      refine v_cSi c_70_23 rfl rfl rfl (q_inC y (nI 0) (nI 3) (by decide) (by decide)) ?_
      refine v_if_ne_fb c_70_24 (hy3) ?_
      refine v_al0 c_70_25 ?_
      refine v_icN (n := 2) c_70_26 rfl ?_
      refine v_cVi c_70_27 rfl (by decide) rfl rfl (q_fl) ?_
      refine v_ri c_70_28 ?_
      exact ⟨_, rfl, xm_x h F.gm (h'.kM.fw F)⟩
  obtain ⟨r, hr, rfl⟩ := inN_of hr7 hx
  obtain ⟨k, hk, rfl⟩ := inN_of (show 4 ≤ 7 by omega) hy
  obtain ⟨r1, r2, r3, r4⟩ := rSet_ok hM hr
  have hy3 : (decide (nI 0 ≤ nI k) && decide (nI k ≤ nI 3)) = true := by
    rw [decide_eq_true ((nI_leI (by omega) (by omega)).mpr (by omega)), decide_eq_true ((nI_leI (by omega) (by omega)).mpr (by omega))]
    rfl
  have mdl : ∀ (s : zv_S) (Q : zm_O → zv_S → Prop), RMw s (M, L, S, tx, len) → (∀ t y4, QM (t.1 89) M → GM s t → t.1 88 8 = nI 0 → TQ t (mN M) (mT M (mP M)) → VV sc 70 67 [some (.ref 88), some (.int (nI r)), some (.int (nI k)), some (.int (gS M (rSet M r) (mN M))), y4] [] t Q) → CC sc 70 [.ref 88, .int (nI r), .int (nI k)] s Q := by
    intro s Q h hkk
    have h' := h.th (x := nI 0)
    refine cc_of ml_70 rfl rfl ?_
    refine v_al0 c_70_0 ?_
    refine v_icN (n := 0) c_70_1 rfl ?_
    refine v_pI c_70_2 rfl ?_
    refine v_al0 c_70_3 ?_
    refine v_cVV c_70_4 rfl (by decide) rfl rfl (q_fnd h'.kM hM) ?_
    rintro t ⟨T, F⟩
    have hri : t.1 88 16 = nI (mRn M) := T.1
    have hq : QM (t.1 89) M := h'.kM.fw F
    refine v_il1 c_70_5 ?_
    refine v_i2l c_70_6 ?_
    refine v_lc c_70_7 ?_
    refine v_al0 c_70_8 ?_
    refine v_gI c_70_9 rfl (hri) ?_
    refine v_icN (n := 1) c_70_10 rfl ?_
    refine v_isub c_70_11 ?_
    refine v_i2l c_70_12 ?_
    refine v_cSi c_70_13 rfl rfl rfl (q_inR hr7 _) ?_
    refine v_if_ne_tb c_70_14 (hx) ?_
    refine v_il2 c_70_19 ?_
    refine v_i2l c_70_20 ?_
    refine v_lc c_70_21 ?_
    refine v_l2 c_70_22 ?_
    refine v_cSi c_70_23 rfl rfl rfl (q_inC (nI k) (nI 0) (nI 3) (by decide) (by decide)) ?_
    refine v_if_ne_tb c_70_24 (hy3) ?_
    refine v_ic c_70_29 ?_
    refine v_is3 c_70_30 rfl ?_
    refine v_icN (n := 0) c_70_31 rfl ?_
    refine v_is4 c_70_32 rfl ?_
    refine vv_for (mN M) (fun i => [some (.ref 88), some (.int (nI r)), some (.int (nI k)), some (.int (gS M (rSet M r) i)), some (.int (nI i))]) ?_ ?_
    · intro i hi hk
      have hg : t.1 95 i = tGe (mT M (mP M)) i := (T.2.2.1 i hi).1
      have hR : t.1 100 r = nI (rSet M r) := (T.2.2.2 r hr).1.trans r1
      have es : gS M (rSet M r) (i + 1) = gS M (rSet M r) i + (if (rSet M r).testBit i then nI (mR M i (mH M i)) - nI (mR M i (gT M (mP M) i)) else 0) := rfl
      cases h1 : (rSet M r).testBit i
      · rw [h1, if_neg (by decide)] at es
        rw [es] at hk
        refine v_il4 c_70_33 ?_
        refine v_al0 c_70_34 ?_
        refine v_gR (n0 := 89) c_70_35 rfl ?_
        refine v_icN (n := 0) c_70_36 rfl ?_
        refine v_aI c_70_37 rfl (by omega) (hq.1) ?_
        refine v_icmp_ge_F c_70_38 (by omega) (by omega) (by omega) ?_
        refine v_il3 c_70_39 ?_
        refine v_al0 c_70_40 ?_
        refine v_gR (n0 := 100) c_70_41 rfl ?_
        refine v_il1 c_70_42 ?_
        refine v_aI c_70_43 rfl (by omega) (hR) ?_
        refine v_il4 c_70_44 ?_
        refine v_cSi c_70_45 rfl rfl rfl (q_has (by omega) (by omega)) ?_
        refine v_if_eq_tb c_70_46 (h1) ?_
        refine v_ic c_70_62 ?_
        refine v_iadd c_70_63 ?_
        refine v_is3 c_70_64 rfl ?_
        refine v_incN4 c_70_65 rfl rfl ?_
        refine v_goto c_70_66 ?_
        exact hk
      · obtain ⟨g1, g2⟩ := gT_ok hM mP_n (r2 i h1)
        rw [g1] at hg
        rw [h1, if_pos rfl] at es
        rw [es] at hk
        refine v_il4 c_70_33 ?_
        refine v_al0 c_70_34 ?_
        refine v_gR (n0 := 89) c_70_35 rfl ?_
        refine v_icN (n := 0) c_70_36 rfl ?_
        refine v_aI c_70_37 rfl (by omega) (hq.1) ?_
        refine v_icmp_ge_F c_70_38 (by omega) (by omega) (by omega) ?_
        refine v_il3 c_70_39 ?_
        refine v_al0 c_70_40 ?_
        refine v_gR (n0 := 100) c_70_41 rfl ?_
        refine v_il1 c_70_42 ?_
        refine v_aI c_70_43 rfl (by omega) (hR) ?_
        refine v_il4 c_70_44 ?_
        refine v_cSi c_70_45 rfl rfl rfl (q_has (by omega) (by omega)) ?_
        refine v_if_eq_fb c_70_46 (h1) ?_
        refine v_al0 c_70_47 ?_
        refine v_il4 c_70_48 ?_
        refine v_al0 c_70_49 ?_
        refine v_il4 c_70_50 ?_
        refine v_cVi c_70_51 rfl (by decide) rfl rfl (q_hd hq h7 hi) ?_
        refine v_cVi c_70_52 rfl (by decide) rfl rfl (q_rk hq hM hi (hM.2.2.2.1 i hi)) ?_
        refine v_al0 c_70_53 ?_
        refine v_il4 c_70_54 ?_
        refine v_al0 c_70_55 ?_
        refine v_gR (n0 := 95) c_70_56 rfl ?_
        refine v_il4 c_70_57 ?_
        refine v_aI c_70_58 rfl (by omega) (hg) ?_
        refine v_cVi c_70_59 rfl (by decide) rfl rfl (q_rk hq hM hi g2) ?_
        refine v_isub c_70_60 ?_
        refine v_goto c_70_61 ?_
        refine v_iadd c_70_63 ?_
        refine v_is3 c_70_64 rfl ?_
        refine v_incN4 c_70_65 rfl rfl ?_
        refine v_goto c_70_66 ?_
        exact hk
    · refine v_il4 c_70_33 ?_
      refine v_al0 c_70_34 ?_
      refine v_gR (n0 := 89) c_70_35 rfl ?_
      refine v_icN (n := 0) c_70_36 rfl ?_
      refine v_aI c_70_37 rfl (by omega) (hq.1) ?_
      refine v_icmp_ge_T c_70_38 (by omega) (by omega) (by omega) ?_
      exact hkk t _ hq F.gm (F.2.2.2.2.trans sI_s) T
  rcases (show k = 0 ∨ k = 1 ∨ k = 2 ∨ k = 3 by omega) with rfl | rfl | rfl | rfl
  · refine ⟨.inr (nI (rSet M r), (M, L, S, tx, len)), fun s h => ?_, fun s h => mdl s _ h ?_, hw⟩
    · refine cc_of ml_9 rfl rfl ?_
      refine v_al0 c_9_0 ?_
      refine v_cVR c_9_1 rfl (by decide) rfl rfl (n_pt h.kM hM) ?_
      rintro _ t ⟨rfl, T, F⟩
      have hR : t.1 (61 + 5) r = tTo (mT M (mP M)) r := (T.2.2.2 r hr).1
      refine v_as3 c_9_2 rfl ?_
      refine v_al3 c_9_3 ?_
      refine v_il1 c_9_4 ?_
      refine v_cSv c_9_5 rfl rfl rfl (n_rg T hr7 hx) ?_
      refine v_il2 c_9_6 ?_
      refine v_sw (n := 8) c_9_7 (by decide +kernel) ?_
      refine v_al3 c_9_8 ?_
      refine v_gR (n0 := 66) c_9_9 rfl ?_
      refine v_il1 c_9_10 ?_
      refine v_at c_9_11 rfl (by omega) (hR.trans r1) rfl ?_
      refine v_ri c_9_12 ?_
      exact xc_r h F (by omega) rfl
    · intro t y4 hq F e8 T
      have hR : t.1 100 r = nI (rSet M r) := (T.2.2.2 r hr).1.trans r1
      refine v_il2 c_70_67 ?_
      refine v_if_ne_F c_70_68 (by omega) (by omega) ?_
      refine v_al0 c_70_69 ?_
      refine v_gR (n0 := 100) c_70_70 rfl ?_
      refine v_il1 c_70_71 ?_
      refine v_aI c_70_72 rfl (by omega) (hR) ?_
      refine v_goto c_70_73 ?_
      refine v_ri c_70_92 ?_
      exact ⟨_, rfl, xm_r h F hq e8 rfl⟩
  · refine ⟨.inr (nI (pc (rSet M r)), (M, L, S, tx, len)), fun s h => ?_, fun s h => mdl s _ h ?_, hw⟩
    · refine cc_of ml_9 rfl rfl ?_
      refine v_al0 c_9_0 ?_
      refine v_cVR c_9_1 rfl (by decide) rfl rfl (n_pt h.kM hM) ?_
      rintro _ t ⟨rfl, T, F⟩
      have hR : t.1 (61 + 5) r = tTo (mT M (mP M)) r := (T.2.2.2 r hr).1
      refine v_as3 c_9_2 rfl ?_
      refine v_al3 c_9_3 ?_
      refine v_il1 c_9_4 ?_
      refine v_cSv c_9_5 rfl rfl rfl (n_rg T hr7 hx) ?_
      refine v_il2 c_9_6 ?_
      refine v_sw (n := 13) c_9_7 (by decide +kernel) ?_
      refine v_al3 c_9_13 ?_
      refine v_gR (n0 := 66) c_9_14 rfl ?_
      refine v_il1 c_9_15 ?_
      refine v_at c_9_16 rfl (by omega) (hR.trans r1) rfl ?_
      refine v_cSi c_9_17 rfl rfl rfl (k_bc r4) ?_
      refine v_ri c_9_18 ?_
      exact xc_r h F (by omega) rfl
    · intro t y4 hq F e8 T
      have hR : t.1 100 r = nI (rSet M r) := (T.2.2.2 r hr).1.trans r1
      refine v_il2 c_70_67 ?_
      refine v_if_ne_T c_70_68 (by omega) (by omega) ?_
      refine v_il2 c_70_74 ?_
      refine v_icN (n := 1) c_70_75 rfl ?_
      refine v_icmp_ne_F c_70_76 (by omega) (by omega) (by omega) ?_
      refine v_al0 c_70_77 ?_
      refine v_gR (n0 := 100) c_70_78 rfl ?_
      refine v_il1 c_70_79 ?_
      refine v_aI c_70_80 rfl (by omega) (hR) ?_
      refine v_cSi c_70_81 rfl rfl rfl (q_ones r4) ?_
      refine v_goto c_70_82 ?_
      refine v_ri c_70_92 ?_
      exact ⟨_, rfl, xm_r h F hq e8 rfl⟩
  · refine ⟨.inr (tRr (mT M (mP M)) r, (M, L, S, tx, len)), fun s h => ?_, fun s h => mdl s _ h ?_, hw⟩
    · refine cc_of ml_9 rfl rfl ?_
      refine v_al0 c_9_0 ?_
      refine v_cVR c_9_1 rfl (by decide) rfl rfl (n_pt h.kM hM) ?_
      rintro _ t ⟨rfl, T, F⟩
      have hR : t.1 (61 + 5) r = tTo (mT M (mP M)) r := (T.2.2.2 r hr).1
      refine v_as3 c_9_2 rfl ?_
      refine v_al3 c_9_3 ?_
      refine v_il1 c_9_4 ?_
      refine v_cSv c_9_5 rfl rfl rfl (n_rg T hr7 hx) ?_
      refine v_il2 c_9_6 ?_
      refine v_sw (n := 19) c_9_7 (by decide +kernel) ?_
      refine v_al3 c_9_19 ?_
      refine v_gR (n0 := 67) c_9_20 rfl ?_
      refine v_il1 c_9_21 ?_
      refine v_at c_9_22 rfl (by omega) ((T.2.2.2 r hr).2) rfl ?_
      refine v_ri c_9_23 ?_
      exact xc_r h F (by omega) rfl
    · intro t y4 hq F e8 T
      have hR : t.1 100 r = nI (rSet M r) := (T.2.2.2 r hr).1.trans r1
      refine v_il2 c_70_67 ?_
      refine v_if_ne_T c_70_68 (by omega) (by omega) ?_
      refine v_il2 c_70_74 ?_
      refine v_icN (n := 1) c_70_75 rfl ?_
      refine v_icmp_ne_T c_70_76 (by omega) (by omega) (by omega) ?_
      refine v_il2 c_70_83 ?_
      refine v_icN (n := 2) c_70_84 rfl ?_
      refine v_icmp_ne_F c_70_85 (by omega) (by omega) (by omega) ?_
      refine v_al0 c_70_86 ?_
      refine v_gR (n0 := 101) c_70_87 rfl ?_
      refine v_il1 c_70_88 ?_
      refine v_aI c_70_89 rfl (by omega) ((T.2.2.2 r hr).2) ?_
      refine v_goto c_70_90 ?_
      refine v_ri c_70_92 ?_
      exact ⟨_, rfl, xm_r h F hq e8 rfl⟩
  · refine ⟨.inr (gS M (rSet M r) (mN M), (M, L, S, tx, len)), fun s h => ?_, fun s h => mdl s _ h ?_, hw⟩
    · refine cc_of ml_9 rfl rfl ?_
      refine v_al0 c_9_0 ?_
      refine v_cVR c_9_1 rfl (by decide) rfl rfl (n_pt h.kM hM) ?_
      rintro _ t ⟨rfl, T, F⟩
      have hR : t.1 (61 + 5) r = tTo (mT M (mP M)) r := (T.2.2.2 r hr).1
      refine v_as3 c_9_2 rfl ?_
      refine v_al3 c_9_3 ?_
      refine v_il1 c_9_4 ?_
      refine v_cSv c_9_5 rfl rfl rfl (n_rg T hr7 hx) ?_
      refine v_il2 c_9_6 ?_
      refine v_sw (n := 24) c_9_7 (by decide +kernel) ?_
      refine v_al3 c_9_24 ?_
      refine v_al0 c_9_25 ?_
      refine v_gR (n0 := 3) c_9_26 rfl ?_
      refine v_il1 c_9_27 ?_
      refine v_cVi c_9_28 rfl (by decide) rfl rfl (c_gai m3 t55 (h.fr F (by omega)).kM hM T (by omega) (hR.trans r1) r2 r4) ?_
      refine v_ri c_9_29 ?_
      exact xc_r h F (by omega) rfl
    · intro t y4 hq F e8 T
      have hR : t.1 100 r = nI (rSet M r) := (T.2.2.2 r hr).1.trans r1
      refine v_il2 c_70_67 ?_
      refine v_if_ne_T c_70_68 (by omega) (by omega) ?_
      refine v_il2 c_70_74 ?_
      refine v_icN (n := 1) c_70_75 rfl ?_
      refine v_icmp_ne_T c_70_76 (by omega) (by omega) (by omega) ?_
      refine v_il2 c_70_83 ?_
      refine v_icN (n := 2) c_70_84 rfl ?_
      refine v_icmp_ne_T c_70_85 (by omega) (by omega) (by omega) ?_
      refine v_il3 c_70_91 ?_
      refine v_ri c_70_92 ?_
      exact ⟨_, rfl, xm_r h F hq e8 rfl⟩
end OP2
