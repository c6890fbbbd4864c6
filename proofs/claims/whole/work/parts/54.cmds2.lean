/-! COMMANDS OF A SCRIPT: the model's -/
abbrev CN (s : zv_S) (r : Option zM) (x : Int32) (t : zv_S) : Prop := match r with
  | some N => x = bI true ∧ QM (t.1 89) N ∧ FS s t
  | none => x = bI false ∧ FS s t
theorem in_16 : ∀ d, d < 10 → (decide ((1 : Int64) ≤ (nI d).toInt64) && decide ((nI d).toInt64 ≤ 6)) = decide (1 ≤ d ∧ d ≤ 6) := by decide +kernel
section CK3
variable {sc : Nat × (Nat → Int32)} {s : zv_S} {M : zM} {d2 d3 d4 : Nat}
theorem CN.ok {r : Option zM} {x : Int32} {t : zv_S} {N : zM} (h : CN s r x t) (e : r = some N) : x = bI true ∧ QM (t.1 89) N ∧ FS s t := by subst e; exact h
theorem CN.no {r : Option zM} {x : Int32} {t : zv_S} (h : CN s r x t) (e : r = none) : x = bI false ∧ FS s t := by subst e; exact h
theorem q_oneN (hM : QM (s.1 89) M) (hw : MW M) {i : Nat} (hi : i < 2147483648) : RI sc 47 [.ref 88, .int (nI i)] s (bI (decide (i < mN M))) s := by
  have h := q_one (sc := sc) hM hw (nI i)
  rw [hasD hw.1 hi] at h
  exact h
theorem QM.lv {i : Nat} (hM : QM (s.1 89) M) (hw : MW M) : QM ((sI s 89 1 (nI (mL M ||| 2 ^ i))).1 89) (mLv M i) := by
  have h7 := hw.1
  refine ⟨by rw [sI_k (by omega)]; exact hM.1, sI_s, fun a ha => ?_, fun a b ha hb => ?_⟩
  · have ha : a < mN M := ha
    rw [sI_k (by omega)]; exact hM.2.2.1 a ha
  · have ha : a < mN M := ha
    have hb : b < mN M := hb
    rw [sI_k (by omega)]; exact hM.2.2.2 a b ha hb
theorem q_trs (hM : QM (s.1 89) M) (hw : MW M) : CC sc 80 [.ref 88] s (QI fun x t => x = nI (cnt (fun i => (mP M).testBit i && !decide (mH M i = gT M (mP M) i)) (mN M)) ∧ QM (t.1 89) (mTk M (mP M) (gT M (mP M))) ∧ FS s t) := by
  refine cc_of ml_80 rfl rfl ?_
  have h7 := hw.1
  have hp0 := Nat.two_pow_pos (mN M)
  have hP := mP_128 hw
  refine v_al0 c_80_0 ?_
  refine v_cVV c_80_1 rfl (by decide) rfl rfl (q_fnd0 hM hw) ?_
  rintro t ⟨T, F⟩
  have hM' := hM.ft F
  have hg : ∀ i, i < mN M → (mP M).testBit i = true → t.1 95 i = nI (gT M (mP M) i) ∧ gT M (mP M) i < 7 := fun i hi hb => by
    obtain ⟨g1, g2⟩ := gT_ok hw mP_n hb
    exact ⟨(T.2.2.1 i hi).1.trans g1, by omega⟩
  refine v_al0 c_80_2 ?_
  refine v_icN (n := 1) c_80_3 rfl ?_
  refine v_al0 c_80_4 ?_
  refine v_gR (n0 := 89) c_80_5 rfl ?_
  refine v_icN (n := 0) c_80_6 rfl ?_
  refine v_aI c_80_7 rfl (by omega) (hM'.1) ?_
  refine v_ishlN c_80_8 (by omega) ?_
  refine v_icN (n := 1) c_80_9 rfl ?_
  refine v_isubN c_80_10 (by omega) ?_
  rw [Nat.one_mul]
  refine v_al0 c_80_11 ?_
  refine v_gR (n0 := 89) c_80_12 rfl ?_
  refine v_icN (n := 1) c_80_13 rfl ?_
  refine v_aI c_80_14 rfl (by omega) (hM'.2.1) ?_
  refine v_ic c_80_15 ?_
  refine v_ixor c_80_16 ?_
  refine v_iand c_80_17 ?_
  rw [nI_not]
  refine v_cVI c_80_18 rfl (by decide) rfl rfl (q_tak hM' hw (S := mP M) (by omega) hg) ?_
  rintro x u ⟨rfl, hQ, Fu⟩
  refine v_ri c_80_19 ?_
  exact ⟨_, rfl, rfl, hQ, (FS.ft F).tr (FS.fr Fu (by omega))⟩
theorem q_act (hM : QM (s.1 89) M) (hw : MW M) {d1 : Nat} (h0 : 1 ≤ d1) (h1 : d1 ≤ 6) (h2 : d2 < 10) (h3 : d3 < 10) (h4 : d4 < 10) :
    CC sc 104 [.ref 88, .int (nI d1), .int (nI d2), .int (nI d3), .int (nI d4)] s (QI fun x t => CN s (cmA M d1 d2 d3 d4) x t) := by
  refine cc_of ml_104 rfl rfl ?_
  have h7 := hw.1
  have hr7 := mRn_7 hw
  rcases (show d1 = 1 ∨ d1 = 2 ∨ d1 = 3 ∨ d1 = 4 ∨ d1 = 5 ∨ d1 = 6 by omega) with rfl | rfl | rfl | rfl | rfl | rfl
  · rw [cmA_1]
    by_cases c2 : d2 < mN M
    · by_cases c3 : d3 < mN M
      · by_cases e4 : d4 = 0
        · subst e4
          by_cases ca : mAg M d2 d3 = 0
          · rw [if_pos ⟨rfl, c2, c3, ca⟩]
            refine v_il1 c_104_0 ?_
            refine v_sw (n := 2) c_104_1 (by decide +kernel) ?_
            refine v_al0 c_104_2 ?_
            refine v_il2 c_104_3 ?_
            refine v_cVi c_104_4 rfl (by decide) rfl rfl (q_oneN hM hw (by omega)) ?_
            refine v_if_eq_fb c_104_5 (decide_eq_true c2) ?_
            refine v_al0 c_104_6 ?_
            refine v_il3 c_104_7 ?_
            refine v_cVi c_104_8 rfl (by decide) rfl rfl (q_oneN hM hw (by omega)) ?_
            refine v_if_eq_fb c_104_9 (decide_eq_true c3) ?_
            refine v_il4 c_104_10 ?_
            refine v_if_gt_F c_104_11 (by omega) (by omega) ?_
            refine v_al0 c_104_12 ?_
            refine v_il2 c_104_13 ?_
            refine v_il3 c_104_14 ?_
            refine v_cVi c_104_15 rfl (by decide) rfl rfl (q_ag hM hw c2 c3) ?_
            refine v_if_eq_T c_104_16 (ca) (by omega) ?_
            refine v_al0 c_104_19 ?_
            refine v_il2 c_104_20 ?_
            refine v_il3 c_104_21 ?_
            refine v_cVI c_104_22 rfl (by decide) rfl rfl (q_xch hM hw c2 c3) ?_
            rintro x t ⟨-, hQ, F⟩
            refine v_pop c_104_23 ?_
            refine v_icN (n := 1) c_104_24 rfl ?_
            refine v_rb (B := true) c_104_25 rfl ?_
            exact ⟨_, rfl, rfl, hQ, FS.fr F (by omega)⟩
          · rw [if_neg (fun z => ca z.2.2.2)]
            have hb : mAg M d2 d3 < 2147483648 := by unfold mAg; (repeat' split) <;> omega
            refine v_il1 c_104_0 ?_
            refine v_sw (n := 2) c_104_1 (by decide +kernel) ?_
            refine v_al0 c_104_2 ?_
            refine v_il2 c_104_3 ?_
            refine v_cVi c_104_4 rfl (by decide) rfl rfl (q_oneN hM hw (by omega)) ?_
            refine v_if_eq_fb c_104_5 (decide_eq_true c2) ?_
            refine v_al0 c_104_6 ?_
            refine v_il3 c_104_7 ?_
            refine v_cVi c_104_8 rfl (by decide) rfl rfl (q_oneN hM hw (by omega)) ?_
            refine v_if_eq_fb c_104_9 (decide_eq_true c3) ?_
            refine v_il4 c_104_10 ?_
            refine v_if_gt_F c_104_11 (by omega) (by omega) ?_
            refine v_al0 c_104_12 ?_
            refine v_il2 c_104_13 ?_
            refine v_il3 c_104_14 ?_
            refine v_cVi c_104_15 rfl (by decide) rfl rfl (q_ag hM hw c2 c3) ?_
            refine v_if_eq_F c_104_16 (ca) (by omega) ?_
            refine v_icN (n := 0) c_104_17 rfl ?_
            refine v_rb (B := false) c_104_18 rfl ?_
            exact ⟨_, rfl, rfl, FS.rf⟩
        · rw [if_neg (fun z => e4 z.1)]
          refine v_il1 c_104_0 ?_
          refine v_sw (n := 2) c_104_1 (by decide +kernel) ?_
          refine v_al0 c_104_2 ?_
          refine v_il2 c_104_3 ?_
          refine v_cVi c_104_4 rfl (by decide) rfl rfl (q_oneN hM hw (by omega)) ?_
          refine v_if_eq_fb c_104_5 (decide_eq_true c2) ?_
          refine v_al0 c_104_6 ?_
          refine v_il3 c_104_7 ?_
          refine v_cVi c_104_8 rfl (by decide) rfl rfl (q_oneN hM hw (by omega)) ?_
          refine v_if_eq_fb c_104_9 (decide_eq_true c3) ?_
          refine v_il4 c_104_10 ?_
          refine v_if_gt_T c_104_11 (by omega) (by omega) ?_
          refine v_icN (n := 0) c_104_17 rfl ?_
          refine v_rb (B := false) c_104_18 rfl ?_
          exact ⟨_, rfl, rfl, FS.rf⟩
      · rw [if_neg (fun z => c3 z.2.2.1)]
        refine v_il1 c_104_0 ?_
        refine v_sw (n := 2) c_104_1 (by decide +kernel) ?_
        refine v_al0 c_104_2 ?_
        refine v_il2 c_104_3 ?_
        refine v_cVi c_104_4 rfl (by decide) rfl rfl (q_oneN hM hw (by omega)) ?_
        refine v_if_eq_fb c_104_5 (decide_eq_true c2) ?_
        refine v_al0 c_104_6 ?_
        refine v_il3 c_104_7 ?_
        refine v_cVi c_104_8 rfl (by decide) rfl rfl (q_oneN hM hw (by omega)) ?_
        refine v_if_eq_tb c_104_9 (decide_eq_false c3) ?_
        refine v_icN (n := 0) c_104_17 rfl ?_
        refine v_rb (B := false) c_104_18 rfl ?_
        exact ⟨_, rfl, rfl, FS.rf⟩
    · rw [if_neg (fun z => c2 z.2.1)]
      refine v_il1 c_104_0 ?_
      refine v_sw (n := 2) c_104_1 (by decide +kernel) ?_
      refine v_al0 c_104_2 ?_
      refine v_il2 c_104_3 ?_
      refine v_cVi c_104_4 rfl (by decide) rfl rfl (q_oneN hM hw (by omega)) ?_
      refine v_if_eq_tb c_104_5 (decide_eq_false c2) ?_
      refine v_icN (n := 0) c_104_17 rfl ?_
      refine v_rb (B := false) c_104_18 rfl ?_
      exact ⟨_, rfl, rfl, FS.rf⟩
  · rw [cmA_2]
    refine v_il1 c_104_0 ?_
    refine v_sw (n := 26) c_104_1 (by decide +kernel) ?_
    refine v_al0 c_104_26 ?_
    refine v_cVV c_104_27 rfl (by decide) rfl rfl (q_fnd0 hM hw) ?_
    rintro t ⟨T, F⟩
    have hM' := hM.ft F
    have hri : t.1 88 16 = nI (mRn M) := T.1
    by_cases c2 : d2 < mRn M
    · by_cases e34 : d3 + d4 = 0
      · obtain ⟨r1, r2, r3, r4⟩ := rSet_ok hw c2
        have hg : ∀ i, i < mN M → (rSet M d2).testBit i = true → t.1 95 i = nI (gT M (mP M) i) ∧ gT M (mP M) i < 7 := fun i hi hb => by
          obtain ⟨g1, g2⟩ := gT_ok hw mP_n (r2 i hb)
          exact ⟨(T.2.2.1 i hi).1.trans g1, by omega⟩
        rw [if_pos ⟨by omega, by omega, c2⟩]
        refine v_il2 c_104_28 ?_
        refine v_al0 c_104_29 ?_
        refine v_gI c_104_30 rfl (hri) ?_
        refine v_icmp_ge_F c_104_31 (by omega) (by omega) (by omega) ?_
        refine v_il3 c_104_32 ?_
        refine v_il4 c_104_33 ?_
        refine v_iaddN c_104_34 ?_
        refine v_if_le_T c_104_35 (by omega) (by omega) ?_
        refine v_al0 c_104_38 ?_
        refine v_al0 c_104_39 ?_
        refine v_gR (n0 := 100) c_104_40 rfl ?_
        refine v_il2 c_104_41 ?_
        refine v_aI c_104_42 rfl (by omega) ((T.2.2.2 d2 c2).1.trans r1) ?_
        refine v_cVI c_104_43 rfl (by decide) rfl rfl (q_tak hM' hw (S := rSet M d2) (by omega) hg) ?_
        rintro x u ⟨-, hQ, Fu⟩
        refine v_pop c_104_44 ?_
        refine v_icN (n := 1) c_104_45 rfl ?_
        refine v_rb (B := true) c_104_46 rfl ?_
        exact ⟨_, rfl, rfl, hQ, (FS.ft F).tr (FS.fr Fu (by omega))⟩
      · rw [if_neg (fun z => e34 (by omega))]
        refine v_il2 c_104_28 ?_
        refine v_al0 c_104_29 ?_
        refine v_gI c_104_30 rfl (hri) ?_
        refine v_icmp_ge_F c_104_31 (by omega) (by omega) (by omega) ?_
        refine v_il3 c_104_32 ?_
        refine v_il4 c_104_33 ?_
        refine v_iaddN c_104_34 ?_
        refine v_if_le_F c_104_35 (by omega) (by omega) ?_
        refine v_icN (n := 0) c_104_36 rfl ?_
        refine v_rb (B := false) c_104_37 rfl ?_
        exact ⟨_, rfl, rfl, FS.ft F⟩
    · rw [if_neg (fun z => c2 z.2.2)]
      refine v_il2 c_104_28 ?_
      refine v_al0 c_104_29 ?_
      refine v_gI c_104_30 rfl (hri) ?_
      refine v_icmp_ge_T c_104_31 (by omega) (by omega) (by omega) ?_
      refine v_icN (n := 0) c_104_36 rfl ?_
      refine v_rb (B := false) c_104_37 rfl ?_
      exact ⟨_, rfl, rfl, FS.ft F⟩
  · rw [cmA_3]
    by_cases e : d2 + d3 + d4 = 0
    · rw [if_pos ⟨by omega, by omega, by omega⟩]
      refine v_il1 c_104_0 ?_
      refine v_sw (n := 47) c_104_1 (by decide +kernel) ?_
      refine v_il2 c_104_47 ?_
      refine v_il3 c_104_48 ?_
      refine v_iaddN c_104_49 ?_
      refine v_il4 c_104_50 ?_
      refine v_iaddN c_104_51 ?_
      refine v_if_le_T c_104_52 (by omega) (by omega) ?_
      refine v_al0 c_104_55 ?_
      refine v_cVI c_104_56 rfl (by decide) rfl rfl (q_trs hM hw) ?_
      rintro x t ⟨-, hQ, F⟩
      refine v_pop c_104_57 ?_
      refine v_icN (n := 1) c_104_58 rfl ?_
      refine v_rb (B := true) c_104_59 rfl ?_
      exact ⟨_, rfl, rfl, hQ, F⟩
    · rw [if_neg (fun z => e (by omega))]
      refine v_il1 c_104_0 ?_
      refine v_sw (n := 47) c_104_1 (by decide +kernel) ?_
      refine v_il2 c_104_47 ?_
      refine v_il3 c_104_48 ?_
      refine v_iaddN c_104_49 ?_
      refine v_il4 c_104_50 ?_
      refine v_iaddN c_104_51 ?_
      refine v_if_le_F c_104_52 (by omega) (by omega) ?_
      refine v_icN (n := 0) c_104_53 rfl ?_
      refine v_rb (B := false) c_104_54 rfl ?_
      exact ⟨_, rfl, rfl, FS.rf⟩
  · rw [cmA_4]
    by_cases c2 : d2 < mN M
    · cases hl : (mL M).testBit d2
      · by_cases e : d3 + d4 = 0
        · rw [if_pos ⟨by omega, by omega, c2, rfl⟩]
          refine v_il1 c_104_0 ?_
          refine v_sw (n := 60) c_104_1 (by decide +kernel) ?_
          refine v_al0 c_104_60 ?_
          refine v_il2 c_104_61 ?_
          refine v_cVi c_104_62 rfl (by decide) rfl rfl (q_oneN hM hw (by omega)) ?_
          refine v_if_eq_fb c_104_63 (decide_eq_true c2) ?_
          refine v_al0 c_104_64 ?_
          refine v_il2 c_104_65 ?_
          refine v_cVi c_104_66 rfl (by decide) rfl rfl (q_isP hM hw (by omega)) ?_
          refine v_if_eq_fb c_104_67 (by rw [hl]; rfl) ?_
          refine v_il3 c_104_68 ?_
          refine v_il4 c_104_69 ?_
          refine v_iaddN c_104_70 ?_
          refine v_if_le_T c_104_71 (by omega) (by omega) ?_
          refine v_al0 c_104_74 ?_
          refine v_gR (n0 := 89) c_104_75 rfl ?_
          refine v_icN (n := 1) c_104_76 rfl ?_
          refine v_dup2 c_104_77 ?_
          refine v_aI c_104_78 rfl (by omega) (hM.2.1) ?_
          refine v_icN (n := 1) c_104_79 rfl ?_
          refine v_il2 c_104_80 ?_
          refine v_ishlN c_104_81 (by omega) ?_
          refine v_iorN c_104_82 ?_
          rw [Nat.one_mul]
          refine v_sI c_104_83 rfl (by omega) ?_
          refine v_icN (n := 1) c_104_84 rfl ?_
          refine v_rb (B := true) c_104_85 rfl ?_
          exact ⟨_, rfl, rfl, hM.lv hw, FS.fr (FR.sI (lo := 89) (hi := 90) (by omega) (by omega)) (by omega)⟩
        · rw [if_neg (fun z => e (by omega))]
          refine v_il1 c_104_0 ?_
          refine v_sw (n := 60) c_104_1 (by decide +kernel) ?_
          refine v_al0 c_104_60 ?_
          refine v_il2 c_104_61 ?_
          refine v_cVi c_104_62 rfl (by decide) rfl rfl (q_oneN hM hw (by omega)) ?_
          refine v_if_eq_fb c_104_63 (decide_eq_true c2) ?_
          refine v_al0 c_104_64 ?_
          refine v_il2 c_104_65 ?_
          refine v_cVi c_104_66 rfl (by decide) rfl rfl (q_isP hM hw (by omega)) ?_
          refine v_if_eq_fb c_104_67 (by rw [hl]; rfl) ?_
          refine v_il3 c_104_68 ?_
          refine v_il4 c_104_69 ?_
          refine v_iaddN c_104_70 ?_
          refine v_if_le_F c_104_71 (by omega) (by omega) ?_
          refine v_icN (n := 0) c_104_72 rfl ?_
          refine v_rb (B := false) c_104_73 rfl ?_
          exact ⟨_, rfl, rfl, FS.rf⟩
      · rw [if_neg (fun z => by cases z.2.2.2)]
        refine v_il1 c_104_0 ?_
        refine v_sw (n := 60) c_104_1 (by decide +kernel) ?_
        refine v_al0 c_104_60 ?_
        refine v_il2 c_104_61 ?_
        refine v_cVi c_104_62 rfl (by decide) rfl rfl (q_oneN hM hw (by omega)) ?_
        refine v_if_eq_fb c_104_63 (decide_eq_true c2) ?_
        refine v_al0 c_104_64 ?_
        refine v_il2 c_104_65 ?_
        refine v_cVi c_104_66 rfl (by decide) rfl rfl (q_isP hM hw (by omega)) ?_
        refine v_if_eq_tb c_104_67 (by rw [hl]; rfl) ?_
        refine v_icN (n := 0) c_104_72 rfl ?_
        refine v_rb (B := false) c_104_73 rfl ?_
        exact ⟨_, rfl, rfl, FS.rf⟩
    · rw [if_neg (fun z => c2 z.2.2.1)]
      refine v_il1 c_104_0 ?_
      refine v_sw (n := 60) c_104_1 (by decide +kernel) ?_
      refine v_al0 c_104_60 ?_
      refine v_il2 c_104_61 ?_
      refine v_cVi c_104_62 rfl (by decide) rfl rfl (q_oneN hM hw (by omega)) ?_
      refine v_if_eq_tb c_104_63 (decide_eq_false c2) ?_
      refine v_icN (n := 0) c_104_72 rfl ?_
      refine v_rb (B := false) c_104_73 rfl ?_
      exact ⟨_, rfl, rfl, FS.rf⟩
  · rw [cmA_5]
    by_cases c2 : d2 < mN M
    · by_cases c3 : d3 < mN M
      · rw [if_pos ⟨c2, c3⟩]
        refine v_il1 c_104_0 ?_
        refine v_sw (n := 86) c_104_1 (by decide +kernel) ?_
        refine v_al0 c_104_86 ?_
        refine v_il2 c_104_87 ?_
        refine v_cVi c_104_88 rfl (by decide) rfl rfl (q_oneN hM hw (by omega)) ?_
        refine v_if_eq_fb c_104_89 (decide_eq_true c2) ?_
        refine v_al0 c_104_90 ?_
        refine v_il3 c_104_91 ?_
        refine v_cVi c_104_92 rfl (by decide) rfl rfl (q_oneN hM hw (by omega)) ?_
        refine v_if_ne_tb c_104_93 (decide_eq_true c3) ?_
        refine v_al0 c_104_96 ?_
        refine v_il2 c_104_97 ?_
        refine v_il3 c_104_98 ?_
        refine v_il4 c_104_99 ?_
        refine v_cVi c_104_100 rfl (by decide) rfl rfl (q_rks hM hw c2 c3) ?_
        refine v_pop c_104_101 ?_
        refine v_icN (n := 1) c_104_102 rfl ?_
        refine v_rb (B := true) c_104_103 rfl ?_
        exact ⟨_, rfl, rfl, hM.rk hw c2 c3, FS.fr (FR.sI (lo := 89) (hi := 90) (by omega) (by omega)) (by omega)⟩
      · rw [if_neg (fun z => c3 z.2)]
        refine v_il1 c_104_0 ?_
        refine v_sw (n := 86) c_104_1 (by decide +kernel) ?_
        refine v_al0 c_104_86 ?_
        refine v_il2 c_104_87 ?_
        refine v_cVi c_104_88 rfl (by decide) rfl rfl (q_oneN hM hw (by omega)) ?_
        refine v_if_eq_fb c_104_89 (decide_eq_true c2) ?_
        refine v_al0 c_104_90 ?_
        refine v_il3 c_104_91 ?_
        refine v_cVi c_104_92 rfl (by decide) rfl rfl (q_oneN hM hw (by omega)) ?_
        refine v_if_ne_fb c_104_93 (decide_eq_false c3) ?_
        refine v_icN (n := 0) c_104_94 rfl ?_
        refine v_rb (B := false) c_104_95 rfl ?_
        exact ⟨_, rfl, rfl, FS.rf⟩
    · rw [if_neg (fun z => c2 z.1)]
      refine v_il1 c_104_0 ?_
      refine v_sw (n := 86) c_104_1 (by decide +kernel) ?_
      refine v_al0 c_104_86 ?_
      refine v_il2 c_104_87 ?_
      refine v_cVi c_104_88 rfl (by decide) rfl rfl (q_oneN hM hw (by omega)) ?_
      refine v_if_eq_tb c_104_89 (decide_eq_false c2) ?_
      refine v_icN (n := 0) c_104_94 rfl ?_
      refine v_rb (B := false) c_104_95 rfl ?_
      exact ⟨_, rfl, rfl, FS.rf⟩
  · rw [cmA_6]
    by_cases e : d2 + d3 + d4 = 0
    · rw [if_pos ⟨by omega, by omega, by omega⟩]
      refine v_il1 c_104_0 ?_
      refine v_sw (n := 104) c_104_1 (by decide +kernel) ?_
      refine v_il2 c_104_104 ?_
      refine v_il3 c_104_105 ?_
      refine v_iaddN c_104_106 ?_
      refine v_il4 c_104_107 ?_
      refine v_iaddN c_104_108 ?_
      refine v_if_le_T c_104_109 (by omega) (by omega) ?_
      refine v_al0 c_104_112 ?_
      refine v_cVI c_104_113 rfl (by decide) rfl rfl (q_hom hM hw) ?_
      rintro x t ⟨-, hQ, F⟩
      refine v_pop c_104_114 ?_
      refine v_icN (n := 1) c_104_115 rfl ?_
      refine v_rb (B := true) c_104_116 rfl ?_
      exact ⟨_, rfl, rfl, hQ, FS.fr F (by omega)⟩
    · rw [if_neg (fun z => e (by omega))]
      refine v_il1 c_104_0 ?_
      refine v_sw (n := 104) c_104_1 (by decide +kernel) ?_
      refine v_il2 c_104_104 ?_
      refine v_il3 c_104_105 ?_
      refine v_iaddN c_104_106 ?_
      refine v_il4 c_104_107 ?_
      refine v_iaddN c_104_108 ?_
      refine v_if_le_F c_104_109 (by omega) (by omega) ?_
      refine v_icN (n := 0) c_104_110 rfl ?_
      refine v_rb (B := false) c_104_111 rfl ?_
      exact ⟨_, rfl, rfl, FS.rf⟩
theorem q_suc0 (hM : QM (s.1 89) M) (hw : MW M) {c d1 : Nat} (h1 : d1 < 10) (h2 : d2 < 10) (h3 : d3 < 10) (h4 : d4 < 10) :
    VV sc 105 20 [some (.ref 88), some (.int (nI c)), some (.int (nI d1)), some (.int (nI d2)), some (.int (nI d3)), some (.int (nI d4))] [] s (QI fun x t => CN s (cmA M d1 d2 d3 d4) x t) := by
  have h7 := hw.1
  by_cases hb : 1 ≤ d1 ∧ d1 ≤ 6
  · refine v_il2 c_105_20 ?_
    refine v_i2l c_105_21 ?_
    refine v_lc c_105_22 ?_
    refine v_l2 c_105_23 ?_
    refine v_cSi c_105_24 rfl rfl rfl (q_in _ _ _) ?_
    refine v_if_eq_fb c_105_25 ((in_16 d1 h1).trans (decide_eq_true hb)) ?_
    refine v_al0 c_105_26 ?_
    refine v_il2 c_105_27 ?_
    refine v_il3 c_105_28 ?_
    refine v_il4 c_105_29 ?_
    refine v_il5 c_105_30 ?_
    refine v_cVI c_105_31 rfl (by decide) rfl rfl (q_act hM hw hb.1 hb.2 h2 h3 h4) ?_
    rintro x t h
    cases hc : cmA M d1 d2 d3 d4 with
    | none =>
      obtain ⟨rfl, a⟩ := h.no hc
      refine v_rb c_105_32 rfl ?_
      exact ⟨_, rfl, rfl, a⟩
    | some N =>
      obtain ⟨rfl, a1, a2⟩ := h.ok hc
      refine v_rb c_105_32 rfl ?_
      exact ⟨_, rfl, rfl, a1, a2⟩
  have hin := (in_16 d1 h1).trans (decide_eq_false hb)
  rcases (show d1 = 0 ∨ d1 = 7 ∨ d1 = 8 ∨ d1 = 9 by omega) with rfl | rfl | rfl | rfl
  · rw [cmA_0]
    refine v_il2 c_105_20 ?_
    refine v_i2l c_105_21 ?_
    refine v_lc c_105_22 ?_
    refine v_l2 c_105_23 ?_
    refine v_cSi c_105_24 rfl rfl rfl (q_in _ _ _) ?_
    refine v_if_eq_tb c_105_25 (hin) ?_
    refine v_il2 c_105_33 ?_
    refine v_bpN (n := 7) c_105_34 rfl ?_
    refine v_icmp_ne_T c_105_35 (by omega) (by omega) (by omega) ?_
    refine v_il2 c_105_55 ?_
    refine v_bpN (n := 8) c_105_56 rfl ?_
    refine v_icmp_ne_T c_105_57 (by omega) (by omega) (by omega) ?_
    refine v_il2 c_105_72 ?_
    refine v_bpN (n := 9) c_105_73 rfl ?_
    refine v_icmp_ne_T c_105_74 (by omega) (by omega) (by omega) ?_
    refine v_icN (n := 0) c_105_92 rfl ?_
    refine v_rb (B := false) c_105_93 rfl ?_
    exact ⟨_, rfl, rfl, FS.rf⟩
  · rw [cmA_7]
    by_cases c2 : d2 < mN M
    · by_cases c3 : d3 < mN M
      · by_cases e4 : d4 = 0
        · subst e4
          have b2 := hw.2.2.2.1 d2 c2
          by_cases c4 : mH M d2 = d3
          · rw [if_pos ⟨rfl, c2, c3, c4⟩]
            refine v_il2 c_105_20 ?_
            refine v_i2l c_105_21 ?_
            refine v_lc c_105_22 ?_
            refine v_l2 c_105_23 ?_
            refine v_cSi c_105_24 rfl rfl rfl (q_in _ _ _) ?_
            refine v_if_eq_tb c_105_25 (hin) ?_
            refine v_il2 c_105_33 ?_
            refine v_bpN (n := 7) c_105_34 rfl ?_
            refine v_icmp_ne_F c_105_35 (by omega) (by omega) (by omega) ?_
            refine v_al0 c_105_36 ?_
            refine v_il3 c_105_37 ?_
            refine v_cVi c_105_38 rfl (by decide) rfl rfl (q_oneN hM hw (by omega)) ?_
            refine v_if_eq_fb c_105_39 (decide_eq_true c2) ?_
            refine v_al0 c_105_40 ?_
            refine v_il4 c_105_41 ?_
            refine v_cVi c_105_42 rfl (by decide) rfl rfl (q_oneN hM hw (by omega)) ?_
            refine v_if_eq_fb c_105_43 (decide_eq_true c3) ?_
            refine v_il5 c_105_44 ?_
            refine v_if_ne_F c_105_45 (by omega) (by omega) ?_
            refine v_al0 c_105_46 ?_
            refine v_il3 c_105_47 ?_
            refine v_cVi c_105_48 rfl (by decide) rfl rfl (q_hd hM h7 c2) ?_
            refine v_il4 c_105_49 ?_
            refine v_icmp_ne_F c_105_50 (c4) (by omega) (by omega) ?_
            refine v_icN (n := 1) c_105_51 rfl ?_
            refine v_goto c_105_52 ?_
            refine v_rb (B := true) c_105_54 rfl ?_
            exact ⟨_, rfl, rfl, hM, FS.rf⟩
          · rw [if_neg (fun z => c4 z.2.2.2)]
            refine v_il2 c_105_20 ?_
            refine v_i2l c_105_21 ?_
            refine v_lc c_105_22 ?_
            refine v_l2 c_105_23 ?_
            refine v_cSi c_105_24 rfl rfl rfl (q_in _ _ _) ?_
            refine v_if_eq_tb c_105_25 (hin) ?_
            refine v_il2 c_105_33 ?_
            refine v_bpN (n := 7) c_105_34 rfl ?_
            refine v_icmp_ne_F c_105_35 (by omega) (by omega) (by omega) ?_
            refine v_al0 c_105_36 ?_
            refine v_il3 c_105_37 ?_
            refine v_cVi c_105_38 rfl (by decide) rfl rfl (q_oneN hM hw (by omega)) ?_
            refine v_if_eq_fb c_105_39 (decide_eq_true c2) ?_
            refine v_al0 c_105_40 ?_
            refine v_il4 c_105_41 ?_
            refine v_cVi c_105_42 rfl (by decide) rfl rfl (q_oneN hM hw (by omega)) ?_
            refine v_if_eq_fb c_105_43 (decide_eq_true c3) ?_
            refine v_il5 c_105_44 ?_
            refine v_if_ne_F c_105_45 (by omega) (by omega) ?_
            refine v_al0 c_105_46 ?_
            refine v_il3 c_105_47 ?_
            refine v_cVi c_105_48 rfl (by decide) rfl rfl (q_hd hM h7 c2) ?_
            refine v_il4 c_105_49 ?_
            refine v_icmp_ne_T c_105_50 (c4) (by omega) (by omega) ?_
            refine v_icN (n := 0) c_105_53 rfl ?_
            refine v_rb (B := false) c_105_54 rfl ?_
            exact ⟨_, rfl, rfl, FS.rf⟩
        · rw [if_neg (fun z => e4 z.1)]
          refine v_il2 c_105_20 ?_
          refine v_i2l c_105_21 ?_
          refine v_lc c_105_22 ?_
          refine v_l2 c_105_23 ?_
          refine v_cSi c_105_24 rfl rfl rfl (q_in _ _ _) ?_
          refine v_if_eq_tb c_105_25 (hin) ?_
          refine v_il2 c_105_33 ?_
          refine v_bpN (n := 7) c_105_34 rfl ?_
          refine v_icmp_ne_F c_105_35 (by omega) (by omega) (by omega) ?_
          refine v_al0 c_105_36 ?_
          refine v_il3 c_105_37 ?_
          refine v_cVi c_105_38 rfl (by decide) rfl rfl (q_oneN hM hw (by omega)) ?_
          refine v_if_eq_fb c_105_39 (decide_eq_true c2) ?_
          refine v_al0 c_105_40 ?_
          refine v_il4 c_105_41 ?_
          refine v_cVi c_105_42 rfl (by decide) rfl rfl (q_oneN hM hw (by omega)) ?_
          refine v_if_eq_fb c_105_43 (decide_eq_true c3) ?_
          refine v_il5 c_105_44 ?_
          refine v_if_ne_T c_105_45 (by omega) (by omega) ?_
          refine v_icN (n := 0) c_105_53 rfl ?_
          refine v_rb (B := false) c_105_54 rfl ?_
          exact ⟨_, rfl, rfl, FS.rf⟩
      · rw [if_neg (fun z => c3 z.2.2.1)]
        refine v_il2 c_105_20 ?_
        refine v_i2l c_105_21 ?_
        refine v_lc c_105_22 ?_
        refine v_l2 c_105_23 ?_
        refine v_cSi c_105_24 rfl rfl rfl (q_in _ _ _) ?_
        refine v_if_eq_tb c_105_25 (hin) ?_
        refine v_il2 c_105_33 ?_
        refine v_bpN (n := 7) c_105_34 rfl ?_
        refine v_icmp_ne_F c_105_35 (by omega) (by omega) (by omega) ?_
        refine v_al0 c_105_36 ?_
        refine v_il3 c_105_37 ?_
        refine v_cVi c_105_38 rfl (by decide) rfl rfl (q_oneN hM hw (by omega)) ?_
        refine v_if_eq_fb c_105_39 (decide_eq_true c2) ?_
        refine v_al0 c_105_40 ?_
        refine v_il4 c_105_41 ?_
        refine v_cVi c_105_42 rfl (by decide) rfl rfl (q_oneN hM hw (by omega)) ?_
        refine v_if_eq_tb c_105_43 (decide_eq_false c3) ?_
        refine v_icN (n := 0) c_105_53 rfl ?_
        refine v_rb (B := false) c_105_54 rfl ?_
        exact ⟨_, rfl, rfl, FS.rf⟩
    · rw [if_neg (fun z => c2 z.2.1)]
      refine v_il2 c_105_20 ?_
      refine v_i2l c_105_21 ?_
      refine v_lc c_105_22 ?_
      refine v_l2 c_105_23 ?_
      refine v_cSi c_105_24 rfl rfl rfl (q_in _ _ _) ?_
      refine v_if_eq_tb c_105_25 (hin) ?_
      refine v_il2 c_105_33 ?_
      refine v_bpN (n := 7) c_105_34 rfl ?_
      refine v_icmp_ne_F c_105_35 (by omega) (by omega) (by omega) ?_
      refine v_al0 c_105_36 ?_
      refine v_il3 c_105_37 ?_
      refine v_cVi c_105_38 rfl (by decide) rfl rfl (q_oneN hM hw (by omega)) ?_
      refine v_if_eq_tb c_105_39 (decide_eq_false c2) ?_
      refine v_icN (n := 0) c_105_53 rfl ?_
      refine v_rb (B := false) c_105_54 rfl ?_
      exact ⟨_, rfl, rfl, FS.rf⟩
  · rw [cmA_8]
    have hb := mSum_b hw
    by_cases e2 : d2 = 0
    · subst e2
      by_cases c : mSum M ≤ d3 * 10 + d4
      · rw [if_pos ⟨rfl, c⟩]
        refine v_il2 c_105_20 ?_
        refine v_i2l c_105_21 ?_
        refine v_lc c_105_22 ?_
        refine v_l2 c_105_23 ?_
        refine v_cSi c_105_24 rfl rfl rfl (q_in _ _ _) ?_
        refine v_if_eq_tb c_105_25 (hin) ?_
        refine v_il2 c_105_33 ?_
        refine v_bpN (n := 7) c_105_34 rfl ?_
        refine v_icmp_ne_T c_105_35 (by omega) (by omega) (by omega) ?_
        refine v_il2 c_105_55 ?_
        refine v_bpN (n := 8) c_105_56 rfl ?_
        refine v_icmp_ne_F c_105_57 (by omega) (by omega) (by omega) ?_
        refine v_il3 c_105_58 ?_
        refine v_if_ne_F c_105_59 (by omega) (by omega) ?_
        refine v_al0 c_105_60 ?_
        refine v_cVi c_105_61 rfl (by decide) rfl rfl (q_all hM hw) ?_
        refine v_bpN (n := 10) c_105_62 rfl ?_
        refine v_il4 c_105_63 ?_
        refine v_imulN c_105_64 ?_
        refine v_il5 c_105_65 ?_
        refine v_iaddN c_105_66 ?_
        refine v_icmp_gt_F c_105_67 (by omega) (by omega) (by omega) ?_
        refine v_icN (n := 1) c_105_68 rfl ?_
        refine v_goto c_105_69 ?_
        refine v_rb (B := true) c_105_71 rfl ?_
        exact ⟨_, rfl, rfl, hM, FS.rf⟩
      · rw [if_neg (fun z => c z.2)]
        refine v_il2 c_105_20 ?_
        refine v_i2l c_105_21 ?_
        refine v_lc c_105_22 ?_
        refine v_l2 c_105_23 ?_
        refine v_cSi c_105_24 rfl rfl rfl (q_in _ _ _) ?_
        refine v_if_eq_tb c_105_25 (hin) ?_
        refine v_il2 c_105_33 ?_
        refine v_bpN (n := 7) c_105_34 rfl ?_
        refine v_icmp_ne_T c_105_35 (by omega) (by omega) (by omega) ?_
        refine v_il2 c_105_55 ?_
        refine v_bpN (n := 8) c_105_56 rfl ?_
        refine v_icmp_ne_F c_105_57 (by omega) (by omega) (by omega) ?_
        refine v_il3 c_105_58 ?_
        refine v_if_ne_F c_105_59 (by omega) (by omega) ?_
        refine v_al0 c_105_60 ?_
        refine v_cVi c_105_61 rfl (by decide) rfl rfl (q_all hM hw) ?_
        refine v_bpN (n := 10) c_105_62 rfl ?_
        refine v_il4 c_105_63 ?_
        refine v_imulN c_105_64 ?_
        refine v_il5 c_105_65 ?_
        refine v_iaddN c_105_66 ?_
        refine v_icmp_gt_T c_105_67 (by omega) (by omega) (by omega) ?_
        refine v_icN (n := 0) c_105_70 rfl ?_
        refine v_rb (B := false) c_105_71 rfl ?_
        exact ⟨_, rfl, rfl, FS.rf⟩
    · rw [if_neg (fun z => e2 z.1)]
      refine v_il2 c_105_20 ?_
      refine v_i2l c_105_21 ?_
      refine v_lc c_105_22 ?_
      refine v_l2 c_105_23 ?_
      refine v_cSi c_105_24 rfl rfl rfl (q_in _ _ _) ?_
      refine v_if_eq_tb c_105_25 (hin) ?_
      refine v_il2 c_105_33 ?_
      refine v_bpN (n := 7) c_105_34 rfl ?_
      refine v_icmp_ne_T c_105_35 (by omega) (by omega) (by omega) ?_
      refine v_il2 c_105_55 ?_
      refine v_bpN (n := 8) c_105_56 rfl ?_
      refine v_icmp_ne_F c_105_57 (by omega) (by omega) (by omega) ?_
      refine v_il3 c_105_58 ?_
      refine v_if_ne_T c_105_59 (by omega) (by omega) ?_
      refine v_icN (n := 0) c_105_70 rfl ?_
      refine v_rb (B := false) c_105_71 rfl ?_
      exact ⟨_, rfl, rfl, FS.rf⟩
  · rw [cmA_9]
    by_cases e2 : d2 = 0
    · subst e2
      rcases (show d3 = 0 ∨ d3 = 1 ∨ 1 < d3 by omega) with rfl | rfl | e3
      · have hb := mGr_b hw false
        refine v_il2 c_105_20 ?_
        refine v_i2l c_105_21 ?_
        refine v_lc c_105_22 ?_
        refine v_l2 c_105_23 ?_
        refine v_cSi c_105_24 rfl rfl rfl (q_in _ _ _) ?_
        refine v_if_eq_tb c_105_25 (hin) ?_
        refine v_il2 c_105_33 ?_
        refine v_bpN (n := 7) c_105_34 rfl ?_
        refine v_icmp_ne_T c_105_35 (by omega) (by omega) (by omega) ?_
        refine v_il2 c_105_55 ?_
        refine v_bpN (n := 8) c_105_56 rfl ?_
        refine v_icmp_ne_T c_105_57 (by omega) (by omega) (by omega) ?_
        refine v_il2 c_105_72 ?_
        refine v_bpN (n := 9) c_105_73 rfl ?_
        refine v_icmp_ne_F c_105_74 (by omega) (by omega) (by omega) ?_
        refine v_il3 c_105_75 ?_
        refine v_if_ne_F c_105_76 (by omega) (by omega) ?_
        refine v_il4 c_105_77 ?_
        refine v_icN (n := 2) c_105_78 rfl ?_
        refine v_icmp_ge_F c_105_79 (by omega) (by omega) (by omega) ?_
        refine v_al0 c_105_80 ?_
        refine v_il4 c_105_81 ?_
        refine v_icN (n := 1) c_105_82 rfl ?_
        refine v_icmp_ne_T c_105_83 (by omega) (by omega) (by omega) ?_
        refine v_icN (n := 0) c_105_86 rfl ?_
        refine v_cVI c_105_87 rfl (by decide) rfl rfl (q_grs hM hw false) ?_
        rintro x t ⟨rfl, F⟩
        by_cases c : mGr M false ≤ d4
        · rw [if_pos ⟨rfl, by omega, c⟩]
          refine v_il5 c_105_88 ?_
          refine v_icmp_gt_F c_105_89 (by omega) (by omega) (by omega) ?_
          refine v_icN (n := 1) c_105_90 rfl ?_
          refine v_goto c_105_91 ?_
          refine v_rb (B := true) c_105_93 rfl ?_
          exact ⟨_, rfl, rfl, by rw [F.at (by omega)]; exact hM, FS.fr F (by omega)⟩
        · rw [if_neg (fun z => c z.2.2)]
          refine v_il5 c_105_88 ?_
          refine v_icmp_gt_T c_105_89 (by omega) (by omega) (by omega) ?_
          refine v_icN (n := 0) c_105_92 rfl ?_
          refine v_rb (B := false) c_105_93 rfl ?_
          exact ⟨_, rfl, rfl, FS.fr F (by omega)⟩
      · have hb := mGr_b hw true
        refine v_il2 c_105_20 ?_
        refine v_i2l c_105_21 ?_
        refine v_lc c_105_22 ?_
        refine v_l2 c_105_23 ?_
        refine v_cSi c_105_24 rfl rfl rfl (q_in _ _ _) ?_
        refine v_if_eq_tb c_105_25 (hin) ?_
        refine v_il2 c_105_33 ?_
        refine v_bpN (n := 7) c_105_34 rfl ?_
        refine v_icmp_ne_T c_105_35 (by omega) (by omega) (by omega) ?_
        refine v_il2 c_105_55 ?_
        refine v_bpN (n := 8) c_105_56 rfl ?_
        refine v_icmp_ne_T c_105_57 (by omega) (by omega) (by omega) ?_
        refine v_il2 c_105_72 ?_
        refine v_bpN (n := 9) c_105_73 rfl ?_
        refine v_icmp_ne_F c_105_74 (by omega) (by omega) (by omega) ?_
        refine v_il3 c_105_75 ?_
        refine v_if_ne_F c_105_76 (by omega) (by omega) ?_
        refine v_il4 c_105_77 ?_
        refine v_icN (n := 2) c_105_78 rfl ?_
        refine v_icmp_ge_F c_105_79 (by omega) (by omega) (by omega) ?_
        refine v_al0 c_105_80 ?_
        refine v_il4 c_105_81 ?_
        refine v_icN (n := 1) c_105_82 rfl ?_
        refine v_icmp_ne_F c_105_83 (by omega) (by omega) (by omega) ?_
        refine v_icN (n := 1) c_105_84 rfl ?_
        refine v_goto c_105_85 ?_
        refine v_cVI c_105_87 rfl (by decide) rfl rfl (q_grs hM hw true) ?_
        rintro x t ⟨rfl, F⟩
        by_cases c : mGr M true ≤ d4
        · rw [if_pos ⟨rfl, by omega, c⟩]
          refine v_il5 c_105_88 ?_
          refine v_icmp_gt_F c_105_89 (by omega) (by omega) (by omega) ?_
          refine v_icN (n := 1) c_105_90 rfl ?_
          refine v_goto c_105_91 ?_
          refine v_rb (B := true) c_105_93 rfl ?_
          exact ⟨_, rfl, rfl, by rw [F.at (by omega)]; exact hM, FS.fr F (by omega)⟩
        · rw [if_neg (fun z => c z.2.2)]
          refine v_il5 c_105_88 ?_
          refine v_icmp_gt_T c_105_89 (by omega) (by omega) (by omega) ?_
          refine v_icN (n := 0) c_105_92 rfl ?_
          refine v_rb (B := false) c_105_93 rfl ?_
          exact ⟨_, rfl, rfl, FS.fr F (by omega)⟩
      · rw [if_neg (fun z => absurd z.2.1 (by omega))]
        refine v_il2 c_105_20 ?_
        refine v_i2l c_105_21 ?_
        refine v_lc c_105_22 ?_
        refine v_l2 c_105_23 ?_
        refine v_cSi c_105_24 rfl rfl rfl (q_in _ _ _) ?_
        refine v_if_eq_tb c_105_25 (hin) ?_
        refine v_il2 c_105_33 ?_
        refine v_bpN (n := 7) c_105_34 rfl ?_
        refine v_icmp_ne_T c_105_35 (by omega) (by omega) (by omega) ?_
        refine v_il2 c_105_55 ?_
        refine v_bpN (n := 8) c_105_56 rfl ?_
        refine v_icmp_ne_T c_105_57 (by omega) (by omega) (by omega) ?_
        refine v_il2 c_105_72 ?_
        refine v_bpN (n := 9) c_105_73 rfl ?_
        refine v_icmp_ne_F c_105_74 (by omega) (by omega) (by omega) ?_
        refine v_il3 c_105_75 ?_
        refine v_if_ne_F c_105_76 (by omega) (by omega) ?_
        refine v_il4 c_105_77 ?_
        refine v_icN (n := 2) c_105_78 rfl ?_
        refine v_icmp_ge_T c_105_79 (by omega) (by omega) (by omega) ?_
        refine v_icN (n := 0) c_105_92 rfl ?_
        refine v_rb (B := false) c_105_93 rfl ?_
        exact ⟨_, rfl, rfl, FS.rf⟩
    · rw [if_neg (fun z => e2 z.1)]
      refine v_il2 c_105_20 ?_
      refine v_i2l c_105_21 ?_
      refine v_lc c_105_22 ?_
      refine v_l2 c_105_23 ?_
      refine v_cSi c_105_24 rfl rfl rfl (q_in _ _ _) ?_
      refine v_if_eq_tb c_105_25 (hin) ?_
      refine v_il2 c_105_33 ?_
      refine v_bpN (n := 7) c_105_34 rfl ?_
      refine v_icmp_ne_T c_105_35 (by omega) (by omega) (by omega) ?_
      refine v_il2 c_105_55 ?_
      refine v_bpN (n := 8) c_105_56 rfl ?_
      refine v_icmp_ne_T c_105_57 (by omega) (by omega) (by omega) ?_
      refine v_il2 c_105_72 ?_
      refine v_bpN (n := 9) c_105_73 rfl ?_
      refine v_icmp_ne_F c_105_74 (by omega) (by omega) (by omega) ?_
      refine v_il3 c_105_75 ?_
      refine v_if_ne_T c_105_76 (by omega) (by omega) ?_
      refine v_icN (n := 0) c_105_92 rfl ?_
      refine v_rb (B := false) c_105_93 rfl ?_
      exact ⟨_, rfl, rfl, FS.rf⟩
theorem q_suc (hM : QM (s.1 89) M) (hw : MW M) {c : Nat} (hc : c < 10000) : CC sc 105 [.ref 88, .int (nI c)] s (QI fun x t => CN s (cmd M c) x t) := by
  refine cc_of ml_105 rfl rfl ?_
  refine v_il1 c_105_0 ?_
  refine v_spN (n := 1000) c_105_1 rfl ?_
  refine v_idivN c_105_2 (by omega) (by omega) (by omega) ?_
  refine v_is2 c_105_3 rfl ?_
  refine v_il1 c_105_4 ?_
  refine v_bpN (n := 100) c_105_5 rfl ?_
  refine v_idivN c_105_6 (by omega) (by omega) (by omega) ?_
  refine v_bpN (n := 10) c_105_7 rfl ?_
  refine v_iremN c_105_8 (by omega) (by omega) (by omega) ?_
  refine v_is3 c_105_9 rfl ?_
  refine v_il1 c_105_10 ?_
  refine v_bpN (n := 10) c_105_11 rfl ?_
  refine v_idivN c_105_12 (by omega) (by omega) (by omega) ?_
  refine v_bpN (n := 10) c_105_13 rfl ?_
  refine v_iremN c_105_14 (by omega) (by omega) (by omega) ?_
  refine v_is4 c_105_15 rfl ?_
  refine v_il1 c_105_16 ?_
  refine v_bpN (n := 10) c_105_17 rfl ?_
  refine v_iremN c_105_18 (by omega) (by omega) (by omega) ?_
  refine v_is5 c_105_19 rfl ?_
  exact q_suc0 hM hw (by omega) (by omega) (by omega) (by omega)
end CK3
