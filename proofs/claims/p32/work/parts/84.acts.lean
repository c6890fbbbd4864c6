/-! THE LAW'S OWN METHODS: acts -/
section LAW4
variable {sc : Nat × (Nat → Int32)} {s : zv_S} {M : zM} {L : List zM} {S : Nat → Option zM} {tx : Nat → Nat} {len : Nat}
theorem a_ad6 (hw : MW M) (h6 : mN M < 7) (h : RZ s (mAd M, L, S, tx, len)) : CC sc 7 [.ref 0, .int (nI (mN M)), .int (nI (mN M))] s (AP (nI 6) (mAd M, L, S, tx, len)) := by
  have hn : mN M < mN (mAd M) := Nat.lt_succ_self _
  have e := a_rnk (sc := sc) (hw.ad (by omega)) h hn hn
  have e2 : mR (mAd M) (mN M) (mN M) = 6 := by
    show (if mN M = mN M ∧ mN M = mN M then 6 else if mN M = mN M ∨ mN M = mN M then 5 else mR M (mN M) (mN M)) = 6
    rw [if_pos ⟨rfl, rfl⟩]
  rw [e2] at e
  exact e
theorem a_adh (hw : MW M) (h6 : mN M < 7) (h : RZ s (mAd M, L, S, tx, len)) : CC sc 6 [.ref 0, .int (nI (mN M)), .int (nI 0)] s (AP (nI (mN M)) (mAd M, L, S, tx, len)) := by
  have hn : mN M < mN (mAd M) := Nat.lt_succ_self _
  have e := a_tr0 (sc := sc) (hw.ad (by omega)) h hn
  have e2 : mH (mAd M) (mN M) = mN M := by
    show (if mN M = mN M then mN M else mH M (mN M)) = mN M
    rw [if_pos rfl]
  rw [e2] at e
  exact e
theorem a_rkr (hw : MW M) {i j r : Nat} (hi : i < mN M) (hj : j < mN M) (hr : r ≤ 9) (h : RZ s (mRk M i j r, L, S, tx, len)) : CC sc 7 [.ref 0, .int (nI i), .int (nI j)] s (AP (nI r) (mRk M i j r, L, S, tx, len)) := by
  have e := a_rnk (sc := sc) (hw.rk (i := i) (t := j) hr) h (i := i) (j := j) hi hj
  have e2 : mR (mRk M i j r) i j = r := by
    show (if i = i ∧ j = j then r else mR M i j) = r
    rw [if_pos ⟨rfl, rfl⟩]
  rw [e2] at e
  exact e
theorem a_few1 (hw : MW M) (h : RZ s (M, L, S, tx, len)) {i j : Nat} (hi : i < mN M) (hj : j < mN M) (ha : mAg M i j = 0) : CC sc 25 [.ref 0, .int (nI i), .int (nI (mH M j))] s (AP (nI 1) (M, L, S, tx, len)) := by
  have e := a_few (sc := sc) hw h hi (hw.2.2.2.1 j hj)
  rw [f_few hw hi hj ha] at e
  exact e
theorem a_exc1 (hw : MW M) (h : RZ s (M, L, S, tx, len)) {i j : Nat} (hi : i < mN M) (hj : j < mN M) (ha : mAg M i j = 0) : CC sc 13 [.ref 0, .int (nI i), .int (nI j)] s (AP (nI (mH M j)) (mSw M i j, (M :: L).take 14, S, tx, len)) := by
  have e := a_exc (sc := sc) hw h hi hj ha
  have e2 : mH (mSw M i j) i = mH M j := by
    show (if i = j then mH M i else if i = i then mH M j else mH M i) = mH M j
    rw [if_neg (ag_0 ha).1, if_pos rfl]
  rw [e2] at e
  exact e
theorem a_exc2 (hw : MW M) {i j : Nat} (hi : i < mN M) (hj : j < mN M) (h : RZ s (mSw M i j, L, S, tx, len)) : CC sc 6 [.ref 0, .int (nI j), .int (nI 0)] s (AP (nI (mH M i)) (mSw M i j, L, S, tx, len)) := by
  have e := a_tr0 (sc := sc) (hw.sw hi hj) h (i := j) hj
  have e2 : mH (mSw M i j) j = mH M i := by
    show (if j = j then mH M i else if j = i then mH M j else mH M j) = mH M i
    rw [if_pos rfl]
  rw [e2] at e
  exact e
theorem a_drg1 (hw : MW M) (h : RZ s (M, L, S, tx, len)) {r : Nat} (hr : r < mRn M) : CC sc 14 [.ref 0, .int (nI r)] s (AP (nI (if pc (rSet M r) = 1 then 0 else pc (rSet M r))) (mTk M (rSet M r) (gT M (mP M)), (M :: L).take 14, S, tx, len)) := by
  have e := a_drg (sc := sc) hw h hr
  rw [f_drg hw hr] at e
  exact e
theorem a_trd1 (hw : MW M) (h : RZ s (M, L, S, tx, len)) : CC sc 15 [.ref 0] s (AP (nI (mMov M)) (mTk M (mP M) (gT M (mP M)), (M :: L).take 14, S, tx, len)) := by
  have e := a_trd (sc := sc) hw h
  rw [f_trd] at e
  exact e
theorem a_trdy (hw : MW M) {i : Nat} (hi : i < mN M) (ho : (mP M).testBit i = true) (h : RZ s (mTk M (mP M) (gT M (mP M)), L, S, tx, len)) : CC sc 6 [.ref 0, .int (nI i), .int (nI 0)] s (AP (nI (gT M (mP M) i)) (mTk M (mP M) (gT M (mP M)), L, S, tx, len)) := by
  have e := a_tr0 (sc := sc) hw.tkP h (i := i) hi
  have e2 : mH (mTk M (mP M) (gT M (mP M))) i = gT M (mP M) i := by
    show (if (mP M).testBit i then gT M (mP M) i else mH M i) = gT M (mP M) i
    rw [ho, if_pos rfl]
  rw [e2] at e
  exact e
theorem a_trdn (hw : MW M) {i : Nat} (hi : i < mN M) (ho : (mP M).testBit i = false) (h : RZ s (mTk M (mP M) (gT M (mP M)), L, S, tx, len)) : CC sc 6 [.ref 0, .int (nI i), .int (nI 0)] s (AP (nI (mH M i)) (mTk M (mP M) (gT M (mP M)), L, S, tx, len)) := by
  have e := a_tr0 (sc := sc) hw.tkP h (i := i) hi
  have e2 : mH (mTk M (mP M) (gT M (mP M))) i = mH M i := by
    show (if (mP M).testBit i then gT M (mP M) i else mH M i) = mH M i
    rw [ho, if_neg (by decide)]
  rw [e2] at e
  exact e
theorem a_mov0 (hw : MW M) (h : RZ s (mTk M (mP M) (gT M (mP M)), L, S, tx, len)) : CC sc 5 [.ref 0, .int (nI 6)] s (AP (nI 0) (mTk M (mP M) (gT M (mP M)), L, S, tx, len)) := by
  have e := a_ab6 (sc := sc) hw.tkP h
  rw [f_mov0 hw] at e
  exact e
theorem a_hom2 (hw : MW M) (h : RZ s (mHo M, L, S, tx, len)) : CC sc 5 [.ref 0, .int (nI 2)] s (AP (nI (mN M)) (mHo M, L, S, tx, len)) := by
  have e := a_ab2 (sc := sc) hw.ho h
  rw [f_hown] at e
  exact e
theorem a_hom1 (hw : MW M) (h : RZ s (mHo M, L, S, tx, len)) : CC sc 5 [.ref 0, .int (nI 1)] s (AP (nI (mN M)) (mHo M, L, S, tx, len)) := by
  have e := a_ab1 (sc := sc) hw.ho h
  rw [f_hpc hw] at e
  exact e
theorem l_act (hw : MW M) (hn : 1 ≤ mN M) (h : RZ s (M, L, S, tx, len)) {y : Nat} (hy : y < 2147483648) : CC sc 190 [.ref 0, .int (nI y)] s (QI fun x t => x = bI true ∧ ∃ M' L', MW M' ∧ mN M ≤ mN M' ∧ RZ t (M', L', S, tx, len)) := by
  refine cc_of ml_190 rfl rfl ?_
  have h7 := hw.1
  refine v_il1 c_190_0 ?_
  refine v_icN (n := 3) c_190_1 rfl ?_
  refine v_ishrN c_190_2 (by omega) (by omega) ?_
  obtain ⟨z, hz⟩ : ∃ z, z = y / 2 ^ 3 := ⟨_, rfl⟩
  have hz1 : z < 2147483648 := by omega
  rw [← hz]
  refine v_is2 c_190_3 rfl ?_
  refine v_al0 c_190_4 ?_
  refine v_icN (n := 0) c_190_5 rfl ?_
  refine v_cVI c_190_6 rfl (by decide) rfl rfl (a_ab0 hw h) ?_
  rintro _ u ⟨rfl, h⟩
  refine v_is3 c_190_7 rfl ?_
  refine v_il2 c_190_8 ?_
  refine v_il3 c_190_9 ?_
  refine v_iremN c_190_10 (by omega) (by omega) (by omega) ?_
  obtain ⟨i, hi'⟩ : ∃ i, i = z % mN M := ⟨_, rfl⟩
  have hi : i < mN M := by rw [hi']; exact Nat.mod_lt _ hn
  rw [← hi']
  refine v_is4 c_190_11 rfl ?_
  refine v_il2 c_190_12 ?_
  refine v_icN (n := 3) c_190_13 rfl ?_
  refine v_ishrN c_190_14 (by omega) (by omega) ?_
  refine v_il3 c_190_15 ?_
  refine v_iremN c_190_16 (by omega) (by omega) (by omega) ?_
  obtain ⟨j, hj'⟩ : ∃ j, j = z / 2 ^ 3 % mN M := ⟨_, rfl⟩
  have hj : j < mN M := by rw [hj']; exact Nat.mod_lt _ hn
  rw [← hj']
  have bi := hw.2.2.2.1 i hi
  have bj := hw.2.2.2.1 j hj
  have r0 := hw.2.2.1 i j hi hj
  have s1 := f_sum hw
  refine v_is5 c_190_17 rfl ?_
  refine v_al0 c_190_18 ?_
  refine v_il4 c_190_19 ?_
  refine v_icN (n := 0) c_190_20 rfl ?_
  refine v_cVI c_190_21 rfl (by decide) rfl rfl (a_tr0 hw h hi) ?_
  rintro _ u ⟨rfl, h⟩
  refine v_is6 c_190_22 rfl ?_
  refine v_al0 c_190_23 ?_
  refine v_il5 c_190_24 ?_
  refine v_icN (n := 0) c_190_25 rfl ?_
  refine v_cVI c_190_26 rfl (by decide) rfl rfl (a_tr0 hw h hj) ?_
  rintro _ u ⟨rfl, h⟩
  refine v_is7 c_190_27 rfl ?_
  refine v_il1 c_190_28 ?_
  refine v_bpN (n := 7) c_190_29 rfl ?_
  refine v_iandN c_190_30 ?_
  rw [show y &&& 7 = y % 8 from Nat.and_two_pow_sub_one_eq_mod y 3]
  obtain ⟨k, hk'⟩ : ∃ k, k = y % 8 := ⟨_, rfl⟩
  have hk : k < 8 := by omega
  rw [← hk']
  rcases (show k = 0 ∨ (k = 1 ∨ k = 2) ∨ (k = 3 ∨ k = 4) ∨ k = 5 ∨ k = 6 ∨ k = 7 by omega) with hk | hk | hk | hk | hk | hk
  · have hsw : zm_sw [32, 55, 55, 85, 85, 121, 160] 208 0 (nI k) = 32 := by rw [hk]; decide +kernel
    by_cases c : mN M = 7
    · refine v_sw (n := 32) c_190_31 (hsw) ?_
      refine v_il3 c_190_32 ?_
      refine v_bpN (n := 7) c_190_33 rfl ?_
      refine v_icmp_eq_T c_190_34 (by omega) (by omega) (by omega) ?_
      refine v_icN (n := 1) c_190_51 rfl ?_
      refine v_goto c_190_52 ?_
      refine v_rb (B := true) c_190_54 rfl ?_
      exact ⟨_, rfl, rfl, M, _, hw, Nat.le_refl _, h⟩
    · have h6 : mN M < 7 := by omega
      refine v_sw (n := 32) c_190_31 (hsw) ?_
      refine v_il3 c_190_32 ?_
      refine v_bpN (n := 7) c_190_33 rfl ?_
      refine v_icmp_eq_F c_190_34 (by omega) (by omega) (by omega) ?_
      refine v_al0 c_190_35 ?_
      refine v_cVI c_190_36 rfl (by decide) rfl rfl (a_add hw h h6) ?_
      rintro _ u ⟨rfl, h⟩
      refine v_il3 c_190_37 ?_
      refine v_icmp_ne_F c_190_38 (by omega) (by omega) (by omega) ?_
      refine v_al0 c_190_39 ?_
      refine v_il3 c_190_40 ?_
      refine v_il3 c_190_41 ?_
      refine v_cVI c_190_42 rfl (by decide) rfl rfl (a_ad6 hw h6 h) ?_
      rintro _ u ⟨rfl, h⟩
      refine v_bpN (n := 6) c_190_43 rfl ?_
      refine v_icmp_ne_F c_190_44 (by omega) (by omega) (by omega) ?_
      refine v_al0 c_190_45 ?_
      refine v_il3 c_190_46 ?_
      refine v_icN (n := 0) c_190_47 rfl ?_
      refine v_cVI c_190_48 rfl (by decide) rfl rfl (a_adh hw h6 h) ?_
      rintro _ u ⟨rfl, h⟩
      refine v_il3 c_190_49 ?_
      refine v_icmp_ne_F c_190_50 (by omega) (by omega) (by omega) ?_
      refine v_icN (n := 1) c_190_51 rfl ?_
      refine v_goto c_190_52 ?_
      refine v_rb (B := true) c_190_54 rfl ?_
      exact ⟨_, rfl, rfl, mAd M, _, hw.ad (by omega), Nat.le_succ _, h⟩
  · have hsw : zm_sw [32, 55, 55, 85, 85, 121, 160] 208 0 (nI k) = 55 := by rcases hk with hk | hk <;> (rw [hk]; decide +kernel)
    have hr : z / 2 ^ 6 % 10 ≤ 9 := by omega
    refine v_sw (n := 55) c_190_31 (hsw) ?_
    refine v_al0 c_190_55 ?_
    refine v_il4 c_190_56 ?_
    refine v_il5 c_190_57 ?_
    refine v_cVI c_190_58 rfl (by decide) rfl rfl (a_rnk hw h hi hj) ?_
    rintro _ u ⟨rfl, h⟩
    refine v_is8 c_190_59 rfl ?_
    refine v_al0 c_190_60 ?_
    refine v_il4 c_190_61 ?_
    refine v_il5 c_190_62 ?_
    refine v_il2 c_190_63 ?_
    refine v_bpN (n := 6) c_190_64 rfl ?_
    refine v_ishrN c_190_65 (by omega) (by omega) ?_
    refine v_bpN (n := 10) c_190_66 rfl ?_
    refine v_iremN c_190_67 (by omega) (by omega) (by omega) ?_
    refine v_cVI c_190_68 rfl (by decide) rfl rfl (a_srk hw h hi hj hr) ?_
    rintro _ u ⟨rfl, h⟩
    refine v_il8 c_190_69 ?_
    refine v_icmp_ne_F c_190_70 (by omega) (by omega) (by omega) ?_
    refine v_al0 c_190_71 ?_
    refine v_il4 c_190_72 ?_
    refine v_il5 c_190_73 ?_
    refine v_cVI c_190_74 rfl (by decide) rfl rfl (a_rkr hw hi hj hr h) ?_
    rintro _ u ⟨rfl, h⟩
    refine v_il2 c_190_75 ?_
    refine v_bpN (n := 6) c_190_76 rfl ?_
    refine v_ishrN c_190_77 (by omega) (by omega) ?_
    refine v_bpN (n := 10) c_190_78 rfl ?_
    refine v_iremN c_190_79 (by omega) (by omega) (by omega) ?_
    refine v_icmp_ne_F c_190_80 (by omega) (by omega) (by omega) ?_
    refine v_icN (n := 1) c_190_81 rfl ?_
    refine v_goto c_190_82 ?_
    refine v_rb (B := true) c_190_84 rfl ?_
    exact ⟨_, rfl, rfl, mRk M i j (z / 2 ^ 6 % 10), _, hw.rk hr, Nat.le_refl _, h⟩
  · have hsw : zm_sw [32, 55, 55, 85, 85, 121, 160] 208 0 (nI k) = 85 := by rcases hk with hk | hk <;> (rw [hk]; decide +kernel)
    have hb : mAg M i j < 2147483648 := by unfold mAg; (repeat' split) <;> omega
    by_cases c : mAg M i j = 0
    · have s2 := f_xsum hw hi hj c
      refine v_sw (n := 85) c_190_31 (hsw) ?_
      refine v_al0 c_190_85 ?_
      refine v_icN (n := 3) c_190_86 rfl ?_
      refine v_cVI c_190_87 rfl (by decide) rfl rfl (a_ab3 hw h) ?_
      rintro _ u ⟨rfl, h⟩
      refine v_is9 c_190_88 rfl ?_
      refine v_al0 c_190_89 ?_
      refine v_il4 c_190_90 ?_
      refine v_il5 c_190_91 ?_
      refine v_cVI c_190_92 rfl (by decide) rfl rfl (a_why hw h hi hj) ?_
      rintro _ u ⟨rfl, h⟩
      refine v_if_ne_F c_190_93 (by omega) (by omega) ?_
      refine v_al0 c_190_94 ?_
      refine v_il4 c_190_95 ?_
      refine v_il7 c_190_96 ?_
      refine v_cVI c_190_97 rfl (by decide) rfl rfl (a_few1 hw h hi hj c) ?_
      rintro _ u ⟨rfl, h⟩
      refine v_icN (n := 1) c_190_98 rfl ?_
      refine v_icmp_ne_F c_190_99 (by omega) (by omega) (by omega) ?_
      refine v_al0 c_190_100 ?_
      refine v_il4 c_190_101 ?_
      refine v_il5 c_190_102 ?_
      refine v_cVI c_190_103 rfl (by decide) rfl rfl (a_exc1 hw h hi hj c) ?_
      rintro _ u ⟨rfl, h⟩
      refine v_il7 c_190_104 ?_
      refine v_icmp_ne_F c_190_105 (by omega) (by omega) (by omega) ?_
      refine v_al0 c_190_106 ?_
      refine v_il5 c_190_107 ?_
      refine v_icN (n := 0) c_190_108 rfl ?_
      refine v_cVI c_190_109 rfl (by decide) rfl rfl (a_exc2 hw hi hj h) ?_
      rintro _ u ⟨rfl, h⟩
      refine v_il6 c_190_110 ?_
      refine v_icmp_ne_F c_190_111 (by omega) (by omega) (by omega) ?_
      refine v_al0 c_190_112 ?_
      refine v_icN (n := 3) c_190_113 rfl ?_
      refine v_cVI c_190_114 rfl (by decide) rfl rfl (a_ab3 (hw.sw hi hj) h) ?_
      rintro _ u ⟨rfl, h⟩
      refine v_il9 c_190_115 ?_
      refine v_icmp_ge_F c_190_116 (by omega) (by omega) (by omega) ?_
      refine v_icN (n := 1) c_190_117 rfl ?_
      refine v_goto c_190_118 ?_
      refine v_rb (B := true) c_190_120 rfl ?_
      exact ⟨_, rfl, rfl, mSw M i j, _, hw.sw hi hj, Nat.le_refl _, h⟩
    · refine v_sw (n := 85) c_190_31 (hsw) ?_
      refine v_al0 c_190_85 ?_
      refine v_icN (n := 3) c_190_86 rfl ?_
      refine v_cVI c_190_87 rfl (by decide) rfl rfl (a_ab3 hw h) ?_
      rintro _ u ⟨rfl, h⟩
      refine v_is9 c_190_88 rfl ?_
      refine v_al0 c_190_89 ?_
      refine v_il4 c_190_90 ?_
      refine v_il5 c_190_91 ?_
      refine v_cVI c_190_92 rfl (by decide) rfl rfl (a_why hw h hi hj) ?_
      rintro _ u ⟨rfl, h⟩
      refine v_if_ne_T c_190_93 (by omega) (by omega) ?_
      refine v_icN (n := 1) c_190_117 rfl ?_
      refine v_goto c_190_118 ?_
      refine v_rb (B := true) c_190_120 rfl ?_
      exact ⟨_, rfl, rfl, M, _, hw, Nat.le_refl _, h⟩
  · have hsw : zm_sw [32, 55, 55, 85, 85, 121, 160] 208 0 (nI k) = 121 := by rw [hk]; decide +kernel
    have hr7 := mRn_7 hw
    by_cases c : mRn M = 0
    · refine v_sw (n := 121) c_190_31 (hsw) ?_
      refine v_al0 c_190_121 ?_
      refine v_icN (n := 4) c_190_122 rfl ?_
      refine v_cVI c_190_123 rfl (by decide) rfl rfl (a_ab4 hw h) ?_
      rintro _ u ⟨rfl, h⟩
      refine v_if_ne_F c_190_124 (by omega) (by omega) ?_
      refine v_ic c_190_125 ?_
      refine v_goto c_190_126 ?_
      refine v_is10 c_190_134 rfl ?_
      refine v_il10 c_190_135 ?_
      refine v_if_ge_f c_190_136 ((by decide)) ?_
      refine v_icN (n := 0) c_190_137 rfl ?_
      refine v_goto c_190_138 ?_
      refine v_is11 c_190_143 rfl ?_
      refine v_il10 c_190_144 ?_
      refine v_if_lt_t c_190_145 ((by decide)) ?_
      refine v_icN (n := 1) c_190_156 rfl ?_
      refine v_goto c_190_157 ?_
      refine v_rb (B := true) c_190_159 rfl ?_
      exact ⟨_, rfl, rfl, M, _, hw, Nat.le_refl _, h⟩
    · refine v_sw (n := 121) c_190_31 (hsw) ?_
      refine v_al0 c_190_121 ?_
      refine v_icN (n := 4) c_190_122 rfl ?_
      refine v_cVI c_190_123 rfl (by decide) rfl rfl (a_ab4 hw h) ?_
      rintro _ u ⟨rfl, h⟩
      refine v_if_ne_T c_190_124 (by omega) (by omega) ?_
      refine v_il2 c_190_127 ?_
      refine v_bpN (n := 6) c_190_128 rfl ?_
      refine v_ishrN c_190_129 (by omega) (by omega) ?_
      refine v_al0 c_190_130 ?_
      refine v_icN (n := 4) c_190_131 rfl ?_
      refine v_cVI c_190_132 rfl (by decide) rfl rfl (a_ab4 hw h) ?_
      rintro _ u ⟨rfl, h⟩
      refine v_iremN c_190_133 (by omega) (by omega) (by omega) ?_
      obtain ⟨r, hr'⟩ : ∃ r, r = z / 2 ^ 6 % mRn M := ⟨_, rfl⟩
      have hr : r < mRn M := by rw [hr']; exact Nat.mod_lt _ (by omega)
      rw [← hr']
      have hp := pc_le (rSet M r)
      by_cases c1 : pc (rSet M r) = 1
      · have e := fun u (h : RZ u (M, L, S, tx, len)) => a_drg1 (sc := sc) hw h hr
        rw [c1] at e
        refine v_is10 c_190_134 rfl ?_
        refine v_il10 c_190_135 ?_
        refine v_if_ge_T c_190_136 (by omega) ?_
        refine v_al0 c_190_139 ?_
        refine v_il10 c_190_140 ?_
        refine v_icN (n := 1) c_190_141 rfl ?_
        refine v_cVI c_190_142 rfl (by decide) rfl rfl (a_rg1 hw h hr) ?_
        rintro _ u ⟨rfl, h⟩
        refine v_is11 c_190_143 rfl ?_
        refine v_il10 c_190_144 ?_
        refine v_if_lt_F c_190_145 (by omega) ?_
        refine v_al0 c_190_146 ?_
        refine v_il10 c_190_147 ?_
        refine v_cVI c_190_148 rfl (by decide) rfl rfl ((show CC sc 14 [.ref 0, .int (nI r)] _ (AP (nI 0) (mTk M (rSet M r) (gT M (mP M)), (M :: L).take 14, S, tx, len)) from e _ h)) ?_
        rintro _ u ⟨rfl, h⟩
        refine v_il11 c_190_149 ?_
        refine v_icN (n := 1) c_190_150 rfl ?_
        refine v_icmp_ne_F c_190_151 (by omega) (by omega) (by omega) ?_
        refine v_icN (n := 0) c_190_152 rfl ?_
        refine v_goto c_190_153 ?_
        refine v_icmp_ne_F c_190_155 (by omega) (by omega) (by omega) ?_
        refine v_icN (n := 1) c_190_156 rfl ?_
        refine v_goto c_190_157 ?_
        refine v_rb (B := true) c_190_159 rfl ?_
        exact ⟨_, rfl, rfl, _, _, hw.tkR hr, Nat.le_refl _, h⟩
      · have e := fun u (h : RZ u (M, L, S, tx, len)) => a_drg1 (sc := sc) hw h hr
        rw [if_neg c1] at e
        refine v_is10 c_190_134 rfl ?_
        refine v_il10 c_190_135 ?_
        refine v_if_ge_T c_190_136 (by omega) ?_
        refine v_al0 c_190_139 ?_
        refine v_il10 c_190_140 ?_
        refine v_icN (n := 1) c_190_141 rfl ?_
        refine v_cVI c_190_142 rfl (by decide) rfl rfl (a_rg1 hw h hr) ?_
        rintro _ u ⟨rfl, h⟩
        refine v_is11 c_190_143 rfl ?_
        refine v_il10 c_190_144 ?_
        refine v_if_lt_F c_190_145 (by omega) ?_
        refine v_al0 c_190_146 ?_
        refine v_il10 c_190_147 ?_
        refine v_cVI c_190_148 rfl (by decide) rfl rfl (e _ h) ?_
        rintro _ u ⟨rfl, h⟩
        refine v_il11 c_190_149 ?_
        refine v_icN (n := 1) c_190_150 rfl ?_
        refine v_icmp_ne_T c_190_151 (by omega) (by omega) (by omega) ?_
        refine v_il11 c_190_154 ?_
        refine v_icmp_ne_F c_190_155 (by omega) (by omega) (by omega) ?_
        refine v_icN (n := 1) c_190_156 rfl ?_
        refine v_goto c_190_157 ?_
        refine v_rb (B := true) c_190_159 rfl ?_
        exact ⟨_, rfl, rfl, _, _, hw.tkR hr, Nat.le_refl _, h⟩
  · have hsw : zm_sw [32, 55, 55, 85, 85, 121, 160] 208 0 (nI k) = 160 := by rw [hk]; decide +kernel
    have hm : mMov M ≤ mN M := cnt_le _ _
    have hv : z / 2 ^ 6 &&& 1 ≤ 1 := Nat.and_le_right
    cases hl : (mL M).testBit i
    · have ho := f_yes hi hl
      have g2 := (gT_ok hw mP_n ho).2
      refine v_sw (n := 160) c_190_31 (hsw) ?_
      refine v_al0 c_190_160 ?_
      refine v_il4 c_190_161 ?_
      refine v_icN (n := 3) c_190_162 rfl ?_
      refine v_cVI c_190_163 rfl (by decide) rfl rfl (a_tr3y hw h hi hl) ?_
      rintro _ u ⟨rfl, h⟩
      refine v_is12 c_190_164 rfl ?_
      refine v_al0 c_190_165 ?_
      refine v_bpN (n := 6) c_190_166 rfl ?_
      refine v_cVI c_190_167 rfl (by decide) rfl rfl (a_ab6 hw h) ?_
      rintro _ u ⟨rfl, h⟩
      refine v_is13 c_190_168 rfl ?_
      refine v_al0 c_190_169 ?_
      refine v_il4 c_190_170 ?_
      refine v_icN (n := 2) c_190_171 rfl ?_
      refine v_cVI c_190_172 rfl (by decide) rfl rfl (a_tr2y hw h hi hl) ?_
      rintro _ u ⟨rfl, h⟩
      refine v_icN (n := 1) c_190_173 rfl ?_
      refine v_icmp_ne_F c_190_174 (by omega) (by omega) (by omega) ?_
      refine v_icN (n := 1) c_190_175 rfl ?_
      refine v_goto c_190_176 ?_
      refine v_is14 c_190_178 rfl ?_
      refine v_il2 c_190_179 ?_
      refine v_bpN (n := 6) c_190_180 rfl ?_
      refine v_ishrN c_190_181 (by omega) (by omega) ?_
      refine v_icN (n := 1) c_190_182 rfl ?_
      refine v_iandN c_190_183 ?_
      obtain ⟨v, hv'⟩ : ∃ v, v = z / 2 ^ 6 &&& 1 := ⟨_, rfl⟩
      rw [← hv'] at hv ⊢
      by_cases c : v = 1
      · refine v_icN (n := 1) c_190_184 rfl ?_
        refine v_icmp_eq_T c_190_185 (by omega) (by omega) (by omega) ?_
        refine v_icN (n := 1) c_190_204 rfl ?_
        refine v_goto c_190_205 ?_
        refine v_rb (B := true) c_190_207 rfl ?_
        exact ⟨_, rfl, rfl, M, _, hw, Nat.le_refl _, h⟩
      · refine v_icN (n := 1) c_190_184 rfl ?_
        refine v_icmp_eq_F c_190_185 (by omega) (by omega) (by omega) ?_
        refine v_al0 c_190_186 ?_
        refine v_cVI c_190_187 rfl (by decide) rfl rfl (a_trd1 hw h) ?_
        rintro _ u ⟨rfl, h⟩
        refine v_il13 c_190_188 ?_
        refine v_icmp_ne_F c_190_189 (by omega) (by omega) (by omega) ?_
        refine v_al0 c_190_190 ?_
        refine v_il4 c_190_191 ?_
        refine v_icN (n := 0) c_190_192 rfl ?_
        refine v_cVI c_190_193 rfl (by decide) rfl rfl (a_trdy hw hi ho h) ?_
        rintro _ u ⟨rfl, h⟩
        refine v_il14 c_190_194 ?_
        refine v_if_eq_F c_190_195 (by omega) (by omega) ?_
        refine v_il12 c_190_196 ?_
        refine v_goto c_190_197 ?_
        refine v_icmp_ne_F c_190_199 (by omega) (by omega) (by omega) ?_
        refine v_al0 c_190_200 ?_
        refine v_bpN (n := 6) c_190_201 rfl ?_
        refine v_cVI c_190_202 rfl (by decide) rfl rfl (a_mov0 hw h) ?_
        rintro _ u ⟨rfl, h⟩
        refine v_if_ne_F c_190_203 (by omega) (by omega) ?_
        refine v_icN (n := 1) c_190_204 rfl ?_
        refine v_goto c_190_205 ?_
        refine v_rb (B := true) c_190_207 rfl ?_
        exact ⟨_, rfl, rfl, _, _, hw.tkP, Nat.le_refl _, h⟩
    · have ho := f_nay hl
      refine v_sw (n := 160) c_190_31 (hsw) ?_
      refine v_al0 c_190_160 ?_
      refine v_il4 c_190_161 ?_
      refine v_icN (n := 3) c_190_162 rfl ?_
      refine v_cVI c_190_163 rfl (by decide) rfl rfl (a_tr3n hw h hi hl) ?_
      rintro _ u ⟨rfl, h⟩
      refine v_is12 c_190_164 rfl ?_
      refine v_al0 c_190_165 ?_
      refine v_bpN (n := 6) c_190_166 rfl ?_
      refine v_cVI c_190_167 rfl (by decide) rfl rfl (a_ab6 hw h) ?_
      rintro _ u ⟨rfl, h⟩
      refine v_is13 c_190_168 rfl ?_
      refine v_al0 c_190_169 ?_
      refine v_il4 c_190_170 ?_
      refine v_icN (n := 2) c_190_171 rfl ?_
      refine v_cVI c_190_172 rfl (by decide) rfl rfl (a_tr2n hw h hi hl) ?_
      rintro _ u ⟨rfl, h⟩
      refine v_icN (n := 1) c_190_173 rfl ?_
      refine v_icmp_ne_T c_190_174 (by omega) (by omega) (by omega) ?_
      refine v_icN (n := 0) c_190_177 rfl ?_
      refine v_is14 c_190_178 rfl ?_
      refine v_il2 c_190_179 ?_
      refine v_bpN (n := 6) c_190_180 rfl ?_
      refine v_ishrN c_190_181 (by omega) (by omega) ?_
      refine v_icN (n := 1) c_190_182 rfl ?_
      refine v_iandN c_190_183 ?_
      obtain ⟨v, hv'⟩ : ∃ v, v = z / 2 ^ 6 &&& 1 := ⟨_, rfl⟩
      rw [← hv'] at hv ⊢
      by_cases c : v = 1
      · refine v_icN (n := 1) c_190_184 rfl ?_
        refine v_icmp_eq_T c_190_185 (by omega) (by omega) (by omega) ?_
        refine v_icN (n := 1) c_190_204 rfl ?_
        refine v_goto c_190_205 ?_
        refine v_rb (B := true) c_190_207 rfl ?_
        exact ⟨_, rfl, rfl, M, _, hw, Nat.le_refl _, h⟩
      · refine v_icN (n := 1) c_190_184 rfl ?_
        refine v_icmp_eq_F c_190_185 (by omega) (by omega) (by omega) ?_
        refine v_al0 c_190_186 ?_
        refine v_cVI c_190_187 rfl (by decide) rfl rfl (a_trd1 hw h) ?_
        rintro _ u ⟨rfl, h⟩
        refine v_il13 c_190_188 ?_
        refine v_icmp_ne_F c_190_189 (by omega) (by omega) (by omega) ?_
        refine v_al0 c_190_190 ?_
        refine v_il4 c_190_191 ?_
        refine v_icN (n := 0) c_190_192 rfl ?_
        refine v_cVI c_190_193 rfl (by decide) rfl rfl (a_trdn hw hi ho h) ?_
        rintro _ u ⟨rfl, h⟩
        refine v_il14 c_190_194 ?_
        refine v_if_eq_T c_190_195 (by omega) (by omega) ?_
        refine v_il6 c_190_198 ?_
        refine v_icmp_ne_F c_190_199 (by omega) (by omega) (by omega) ?_
        refine v_al0 c_190_200 ?_
        refine v_bpN (n := 6) c_190_201 rfl ?_
        refine v_cVI c_190_202 rfl (by decide) rfl rfl (a_mov0 hw h) ?_
        rintro _ u ⟨rfl, h⟩
        refine v_if_ne_F c_190_203 (by omega) (by omega) ?_
        refine v_icN (n := 1) c_190_204 rfl ?_
        refine v_goto c_190_205 ?_
        refine v_rb (B := true) c_190_207 rfl ?_
        exact ⟨_, rfl, rfl, _, _, hw.tkP, Nat.le_refl _, h⟩
  · have hsw : zm_sw [32, 55, 55, 85, 85, 121, 160] 208 0 (nI k) = 208 := by rw [hk]; decide +kernel
    have hv : z / 2 ^ 6 &&& 3 ≤ 3 := Nat.and_le_right
    refine v_sw (n := 208) c_190_31 (hsw) ?_
    refine v_il2 c_190_208 ?_
    refine v_bpN (n := 6) c_190_209 rfl ?_
    refine v_ishrN c_190_210 (by omega) (by omega) ?_
    refine v_icN (n := 3) c_190_211 rfl ?_
    refine v_iandN c_190_212 ?_
    obtain ⟨v, hv'⟩ : ∃ v, v = z / 2 ^ 6 &&& 3 := ⟨_, rfl⟩
    rw [← hv'] at hv ⊢
    by_cases c : v = 0
    · have hh : mHc M ≤ mN M := cnt_le _ _
      refine v_if_le_T c_190_213 (by omega) (by omega) ?_
      refine v_al0 c_190_242 ?_
      refine v_cVI c_190_243 rfl (by decide) rfl rfl (a_hom hw h) ?_
      rintro _ u ⟨rfl, h⟩
      refine v_if_lt_F c_190_244 (by omega) ?_
      refine v_al0 c_190_245 ?_
      refine v_icN (n := 2) c_190_246 rfl ?_
      refine v_cVI c_190_247 rfl (by decide) rfl rfl (a_hom2 hw h) ?_
      rintro _ u ⟨rfl, h⟩
      refine v_il3 c_190_248 ?_
      refine v_icmp_ne_F c_190_249 (by omega) (by omega) (by omega) ?_
      refine v_al0 c_190_250 ?_
      refine v_icN (n := 1) c_190_251 rfl ?_
      refine v_cVI c_190_252 rfl (by decide) rfl rfl (a_hom1 hw h) ?_
      rintro _ u ⟨rfl, h⟩
      refine v_il3 c_190_253 ?_
      refine v_icmp_ne_F c_190_254 (by omega) (by omega) (by omega) ?_
      refine v_icN (n := 1) c_190_255 rfl ?_
      refine v_goto c_190_256 ?_
      refine v_rb (B := true) c_190_258 rfl ?_
      exact ⟨_, rfl, rfl, _, _, hw.ho, Nat.le_refl _, h⟩
    · refine v_if_le_F c_190_213 (by omega) (by omega) ?_
      refine v_il2 c_190_214 ?_
      refine v_bpN (n := 6) c_190_215 rfl ?_
      refine v_ishrN c_190_216 (by omega) (by omega) ?_
      refine v_icN (n := 3) c_190_217 rfl ?_
      refine v_iandN c_190_218 ?_
      rw [← hv']
      by_cases c2 : v = 1
      · cases hl : (mL M).testBit i
        · have hpl := pc_le (mP (mLv M i))
          refine v_icN (n := 1) c_190_219 rfl ?_
          refine v_icmp_gt_F c_190_220 (by omega) (by omega) (by omega) ?_
          refine v_al0 c_190_221 ?_
          refine v_il4 c_190_222 ?_
          refine v_icN (n := 2) c_190_223 rfl ?_
          refine v_cVI c_190_224 rfl (by decide) rfl rfl (a_tr2y hw h hi hl) ?_
          rintro _ u ⟨rfl, h⟩
          refine v_if_eq_F c_190_225 (by omega) (by omega) ?_
          refine v_al0 c_190_226 ?_
          refine v_il4 c_190_227 ?_
          refine v_cVI c_190_228 rfl (by decide) rfl rfl (a_lea hw h hi hl) ?_
          rintro _ u ⟨rfl, h⟩
          refine v_al0 c_190_229 ?_
          refine v_icN (n := 1) c_190_230 rfl ?_
          refine v_cVI c_190_231 rfl (by decide) rfl rfl (a_ab1 (hw.lv hi) h) ?_
          rintro _ u ⟨rfl, h⟩
          refine v_icmp_ne_F c_190_232 (by omega) (by omega) (by omega) ?_
          refine v_al0 c_190_233 ?_
          refine v_il4 c_190_234 ?_
          refine v_icN (n := 2) c_190_235 rfl ?_
          refine v_cVI c_190_236 rfl (by decide) rfl rfl (a_tr2n (hw.lv hi) h hi f_lv) ?_
          rintro _ u ⟨rfl, h⟩
          refine v_if_ne_F c_190_237 (by omega) (by omega) ?_
          refine v_icN (n := 1) c_190_238 rfl ?_
          refine v_goto c_190_239 ?_
          refine v_rb (B := true) c_190_258 rfl ?_
          exact ⟨_, rfl, rfl, _, _, hw.lv hi, Nat.le_refl _, h⟩
        · refine v_icN (n := 1) c_190_219 rfl ?_
          refine v_icmp_gt_F c_190_220 (by omega) (by omega) (by omega) ?_
          refine v_al0 c_190_221 ?_
          refine v_il4 c_190_222 ?_
          refine v_icN (n := 2) c_190_223 rfl ?_
          refine v_cVI c_190_224 rfl (by decide) rfl rfl (a_tr2n hw h hi hl) ?_
          rintro _ u ⟨rfl, h⟩
          refine v_if_eq_T c_190_225 (by omega) (by omega) ?_
          refine v_icN (n := 1) c_190_238 rfl ?_
          refine v_goto c_190_239 ?_
          refine v_rb (B := true) c_190_258 rfl ?_
          exact ⟨_, rfl, rfl, M, _, hw, Nat.le_refl _, h⟩
      · refine v_icN (n := 1) c_190_219 rfl ?_
        refine v_icmp_gt_T c_190_220 (by omega) (by omega) (by omega) ?_
        refine v_icN (n := 1) c_190_238 rfl ?_
        refine v_goto c_190_239 ?_
        refine v_rb (B := true) c_190_258 rfl ?_
        exact ⟨_, rfl, rfl, M, _, hw, Nat.le_refl _, h⟩
end LAW4
