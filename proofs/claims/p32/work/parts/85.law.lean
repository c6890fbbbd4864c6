/-! THE LAW -/
section LAW5
variable {M : zM}
theorem z_mP (h0 : mN M = 0) : mP M = 0 := by
  have h := mP_lt M
  rw [h0] at h
  have h : mP M < 1 := h
  omega
theorem z_mRn (hw : MW M) (h0 : mN M = 0) : mRn M = 0 := by
  have h := (mT_TI hw (mP_n (M := M))).2.2.2.2
  have e : mRn M = tRi (mT M (mP M)) := rfl
  rw [e, z_mP h0]
  rw [z_mP h0] at h
  exact Nat.le_zero.mp h
theorem z_mMov (h0 : mN M = 0) : mMov M = 0 := by
  unfold mMov
  rw [h0]
  rfl
theorem z_bg (h0 : mN M = 0) : oI (bgF M false (2 ^ mN M - 1)) = -9 := by
  rw [h0]
  rfl
theorem z_ls (h0 : mN M = 0) : mLS M (mK M) 0 = 0 := by
  have e : mK M = 0 := by
    unfold mK
    rw [h0]
    rfl
  rw [e]
  rfl
theorem z_bw (h0 : mN M = 0) : mBw M = nI 0 := by
  have e1 := z_mP h0
  have e2 : mTh M (mP M) = 0 := by
    unfold mTh
    rw [h0]
    rfl
  unfold mBw
  rw [e2, e1]
  unfold wyS
  have e3 : bS 0 (mN M) = 0 := by rw [h0]; rfl
  rw [e3, FX_0 (by omega), FX_0 (by omega)]
  exact Int32.sub_self _
end LAW5
section LAW6
variable {L0 : Nat} {xs : Nat → Int32}
theorem law_lp (hL : L0 ≤ 260) {s : zv_S} {M : zM} {L : List zM} {S : Nat → Option zM} {tx : Nat → Nat} {len : Nat} (hw : MW M) (h0 : mN M = 0) (h : RZ s (M, L, S, tx, len)) :
    VV (L0, xs) 206 4 [some (.float 0), some (.ref 0), none, none, none] [] s (fun o t => o = .inl (some (.int 1)) ∧ t.2.2 = 0) := by
  have hw1 := hw.tkP
  have h1 : mN (mTk M (mP M) (gT M (mP M))) = 0 := h0
  have q1 := fun u (h : RZ u (M, L, S, tx, len)) => a_trd1 (sc := (L0, xs)) hw h
  rw [z_mMov h0] at q1
  obtain ⟨M1, hM1⟩ : ∃ M1, M1 = mTk M (mP M) (gT M (mP M)) := ⟨_, rfl⟩
  rw [← hM1] at hw1 h1 q1
  obtain ⟨L1, hL1⟩ : ∃ L1, L1 = (M :: L).take 14 := ⟨_, rfl⟩
  rw [← hL1] at q1
  have q2 := fun u (h : RZ u (M1, L1, S, tx, len)) => a_ab4 (sc := (L0, xs)) hw1 h
  rw [z_mRn hw1 h1] at q2
  have q3 := fun u (h : RZ u (M1, L1, S, tx, len)) => a_grp0 (sc := (L0, xs)) hw1 h
  rw [z_bg h1] at q3
  have q4 := fun u (h : RZ u (M1, L1, S, tx, len)) => a_lst (sc := (L0, xs)) hw1 h
  rw [z_ls h1] at q4
  have q5 := fun u (h : RZ u (M1, L1, S, tx, len)) => a_bet (sc := (L0, xs)) hw1 h
  rw [z_bw h1] at q5
  refine v_al1 c_206_4 ?_
  refine v_cVI c_206_5 rfl (by decide) rfl rfl (q1 _ h) ?_
  rintro _ u ⟨rfl, h⟩
  refine v_if_ne_F c_206_6 (by omega) (by omega) ?_
  refine v_al1 c_206_7 ?_
  refine v_icN (n := 4) c_206_8 rfl ?_
  refine v_cVI c_206_9 rfl (by decide) rfl rfl (q2 _ h) ?_
  rintro _ u ⟨rfl, h⟩
  refine v_if_ne_F c_206_10 (by omega) (by omega) ?_
  refine v_al1 c_206_11 ?_
  refine v_icN (n := 0) c_206_12 rfl ?_
  refine v_cVI c_206_13 rfl (by decide) rfl rfl (q3 _ h) ?_
  rintro _ u ⟨rfl, h⟩
  refine v_bp c_206_14 ?_
  refine v_icmp_ne_f c_206_15 (rfl) ?_
  refine v_al1 c_206_16 ?_
  refine v_cVI c_206_17 rfl (by decide) rfl rfl (q4 _ h) ?_
  rintro _ u ⟨rfl, h⟩
  refine v_if_ne_F c_206_18 (by omega) (by omega) ?_
  refine v_al1 c_206_19 ?_
  refine v_cVI c_206_20 rfl (by decide) rfl rfl (q5 _ h) ?_
  rintro _ u ⟨rfl, h⟩
  refine v_if_ne_F c_206_21 (by omega) (by omega) ?_
  refine v_icN (n := 1) c_206_22 rfl ?_
  refine v_goto c_206_23 ?_
  refine v_is2 c_206_25 rfl ?_
  refine v_icN (n := 0) c_206_26 rfl ?_
  refine v_is3 c_206_27 rfl ?_
  -- traders come
  refine vv_while (fun m ls u => ∃ M L y4, m + mN M = 6 ∧ mN M ≤ 5 ∧ MW M ∧ ls = [some (.float 0), some (.ref 0), some (.int (nI 1)), some (.int (nI (mN M))), y4] ∧ RZ u (M, L, S, tx, len)) ?_ 6 _ _ ⟨M1, L1, none, by omega, by omega, hw1, by rw [h1], h⟩
  rintro m ls u ⟨M, L, y4, e1, e2, hw, rfl, h⟩ hk
  refine v_il3 c_206_28 ?_
  refine v_icN (n := 2) c_206_29 rfl ?_
  refine v_aS0 c_206_30 ?_
  refine v_icN (n := 0) c_206_31 rfl ?_
  refine v_cSI c_206_32 rfl rfl rfl (l_cell hL (by omega)) ?_
  rintro _ u' ⟨⟨y, hy, rfl⟩, rfl⟩
  by_cases c : mN M < 2 + y % 4
  · refine v_icN (n := 4) c_206_33 rfl ?_
    refine v_iremN c_206_34 (by omega) (by omega) (by omega) ?_
    refine v_iaddN c_206_35 ?_
    refine v_icmp_ge_F c_206_36 (by omega) (by omega) (by omega) ?_
    refine v_il2 c_206_37 ?_
    refine v_if_eq_F c_206_38 (by omega) (by omega) ?_
    refine v_al1 c_206_39 ?_
    refine v_cVI c_206_40 rfl (by decide) rfl rfl (a_add hw h (by omega)) ?_
    rintro _ u ⟨rfl, h⟩
    refine v_il3 c_206_41 ?_
    refine v_icmp_ne_F c_206_42 (by omega) (by omega) (by omega) ?_
    refine v_icN (n := 1) c_206_43 rfl ?_
    refine v_goto c_206_44 ?_
    refine v_is2 c_206_46 rfl ?_
    refine v_incN3 c_206_47 rfl rfl ?_
    refine v_goto c_206_48 ?_
    exact hk (m - 1) _ _ (by omega) ⟨mAd M, _, _, by show m - 1 + (mN M + 1) = 6; omega, by show mN M + 1 ≤ 5; omega, hw.ad (by omega), rfl, h⟩
  have h2 : 2 ≤ mN M := by omega
  refine v_icN (n := 4) c_206_33 rfl ?_
  refine v_iremN c_206_34 (by omega) (by omega) (by omega) ?_
  refine v_iaddN c_206_35 ?_
  refine v_icmp_ge_T c_206_36 (by omega) (by omega) (by omega) ?_
  refine v_icN (n := 0) c_206_49 rfl ?_
  refine v_is3 c_206_50 rfl ?_
  -- they rank
  refine vv_forS 16 (fun k ls u => ∃ M L y4, 2 ≤ mN M ∧ MW M ∧ ls = [some (.float 0), some (.ref 0), some (.int (nI 1)), some (.int (nI k)), y4] ∧ RZ u (M, L, S, tx, len)) ?_ ?_ _ _ ⟨M, L, y4, h2, hw, rfl, h⟩
  · rintro k ls u hk16 ⟨M, L, y4, e2, hw, rfl, h⟩ hk
    have h7 := hw.1
    refine v_il3 c_206_51 ?_
    refine v_bpN (n := 16) c_206_52 rfl ?_
    refine v_icmp_ge_F c_206_53 (by omega) (by omega) (by omega) ?_
    refine v_il2 c_206_54 ?_
    refine v_if_eq_F c_206_55 (by omega) (by omega) ?_
    refine v_aS0 c_206_56 ?_
    refine v_icN (n := 1) c_206_57 rfl ?_
    refine v_il3 c_206_58 ?_
    refine v_iaddN c_206_59 ?_
    refine v_cSI c_206_60 rfl rfl rfl (l_cell hL (by omega)) ?_
    rintro _ u' ⟨⟨y, hy, rfl⟩, rfl⟩
    have m1 := Nat.mod_lt y (show mN M > 0 by omega)
    have m2 := Nat.mod_lt (y / 2 ^ 4) (show mN M > 0 by omega)
    have m3 : y / 2 ^ 8 % 10 ≤ 9 := by omega
    have r9 := hw.2.2.1 _ _ m1 m2
    refine v_is4 c_206_61 rfl ?_
    refine v_al1 c_206_62 ?_
    refine v_il4 c_206_63 ?_
    refine v_al1 c_206_64 ?_
    refine v_icN (n := 0) c_206_65 rfl ?_
    refine v_cVI c_206_66 rfl (by decide) rfl rfl (a_ab0 hw h) ?_
    rintro _ u ⟨rfl, h⟩
    refine v_iremN c_206_67 (by omega) (by omega) (by omega) ?_
    refine v_il4 c_206_68 ?_
    refine v_icN (n := 4) c_206_69 rfl ?_
    refine v_ishrN c_206_70 (by omega) (by omega) ?_
    refine v_al1 c_206_71 ?_
    refine v_icN (n := 0) c_206_72 rfl ?_
    refine v_cVI c_206_73 rfl (by decide) rfl rfl (a_ab0 hw h) ?_
    rintro _ u ⟨rfl, h⟩
    refine v_iremN c_206_74 (by omega) (by omega) (by omega) ?_
    refine v_il4 c_206_75 ?_
    refine v_bpN (n := 8) c_206_76 rfl ?_
    refine v_ishrN c_206_77 (by omega) (by omega) ?_
    refine v_bpN (n := 10) c_206_78 rfl ?_
    refine v_iremN c_206_79 (by omega) (by omega) (by omega) ?_
    refine v_cVI c_206_80 rfl (by decide) rfl rfl (a_srk hw h m1 m2 m3) ?_
    rintro _ u ⟨rfl, h⟩
    refine v_if_lt_F c_206_81 (by omega) ?_
    refine v_icN (n := 1) c_206_82 rfl ?_
    refine v_goto c_206_83 ?_
    refine v_is2 c_206_85 rfl ?_
    refine v_incN3 c_206_86 rfl rfl ?_
    refine v_goto c_206_87 ?_
    exact hk _ _ ⟨mRk M _ _ _, _, _, e2, hw.rk m3, rfl, h⟩
  rintro ls u ⟨M, L, y4, h2, hw, rfl, h⟩
  refine v_il3 c_206_51 ?_
  refine v_bpN (n := 16) c_206_52 rfl ?_
  refine v_icmp_ge_T c_206_53 (by omega) (by omega) (by omega) ?_
  refine v_icN (n := 0) c_206_88 rfl ?_
  refine v_is3 c_206_89 rfl ?_
  -- the turns
  refine vv_forS 24 (fun k ls u => ∃ M L y4, 2 ≤ mN M ∧ MW M ∧ ls = [some (.float 0), some (.ref 0), some (.int (nI 1)), some (.int (nI k)), y4] ∧ RZ u (M, L, S, tx, len)) ?_ ?_ _ _ ⟨M, L, y4, h2, hw, rfl, h⟩
  · rintro k ls u hk24 ⟨M, L, y4, e2, hw, rfl, h⟩ hk
    have h7 := hw.1
    refine v_il3 c_206_90 ?_
    refine v_bpN (n := 24) c_206_91 rfl ?_
    refine v_icmp_ge_F c_206_92 (by omega) (by omega) (by omega) ?_
    refine v_il2 c_206_93 ?_
    refine v_if_eq_F c_206_94 (by omega) (by omega) ?_
    refine v_al1 c_206_95 ?_
    refine v_aS0 c_206_96 ?_
    refine v_bpN (n := 17) c_206_97 rfl ?_
    refine v_il3 c_206_98 ?_
    refine v_iaddN c_206_99 ?_
    refine v_cSI c_206_100 rfl rfl rfl (l_cell hL (by omega)) ?_
    rintro _ u' ⟨⟨y, hy, rfl⟩, rfl⟩
    refine v_cSI c_206_101 rfl rfl rfl (l_act hw (by omega) h hy) ?_
    rintro _ u ⟨rfl, M', L', hw', hn', h⟩
    refine v_if_eq_fb c_206_102 (rfl) ?_
    refine v_al1 c_206_103 ?_
    refine v_cSI c_206_104 rfl rfl rfl (l_tra hw' h) ?_
    rintro _ u ⟨rfl, h⟩
    refine v_if_eq_fb c_206_105 (rfl) ?_
    refine v_al1 c_206_106 ?_
    refine v_cSI c_206_107 rfl rfl rfl (l_rng hw' h) ?_
    rintro _ u ⟨rfl, h⟩
    refine v_if_eq_fb c_206_108 (rfl) ?_
    refine v_al1 c_206_109 ?_
    refine v_cSI c_206_110 rfl rfl rfl (l_lea hw' h) ?_
    rintro _ u ⟨rfl, h⟩
    refine v_if_eq_fb c_206_111 (rfl) ?_
    refine v_icN (n := 1) c_206_112 rfl ?_
    refine v_goto c_206_113 ?_
    refine v_is2 c_206_115 rfl ?_
    refine v_incN3 c_206_116 rfl rfl ?_
    refine v_goto c_206_117 ?_
    exact hk _ _ ⟨M', L', _, by omega, hw', rfl, h⟩
  rintro ls u ⟨M, L, y4, h2, hw, rfl, h⟩
  have h7 := hw.1
  have s1 := f_sum hw
  have hh : mHc M ≤ mN M := cnt_le _ _
  have hl13 : (L.take 13).length ≤ 13 := List.length_take_le _ _
  have u1 := fun u (h : RZ u (mHo M, (M :: L).take 14, (fun j => if j = 0 then some M else S j), tx, len)) => a_und (sc := (L0, xs)) (M := mHo M) (N := M) (L := L.take 13) hw h
  refine v_il3 c_206_90 ?_
  refine v_bpN (n := 24) c_206_91 rfl ?_
  refine v_icmp_ge_T c_206_92 (by omega) (by omega) (by omega) ?_
  refine v_al1 c_206_118 ?_
  refine v_icN (n := 0) c_206_119 rfl ?_
  refine v_cVI c_206_120 rfl (by decide) rfl rfl (a_ab0 hw h) ?_
  rintro _ u ⟨rfl, h⟩
  refine v_is3 c_206_121 rfl ?_
  refine v_al1 c_206_122 ?_
  refine v_icN (n := 3) c_206_123 rfl ?_
  refine v_cVI c_206_124 rfl (by decide) rfl rfl (a_ab3 hw h) ?_
  rintro _ u ⟨rfl, h⟩
  refine v_is4 c_206_125 rfl ?_
  refine v_il2 c_206_126 ?_
  refine v_if_eq_F c_206_127 (by omega) (by omega) ?_
  refine v_al1 c_206_128 ?_
  refine v_icN (n := 0) c_206_129 rfl ?_
  refine v_cVI c_206_130 rfl (by decide) rfl rfl (a_sav hw h) ?_
  rintro _ u ⟨rfl, h⟩
  refine v_il3 c_206_131 ?_
  refine v_icmp_ne_F c_206_132 (by omega) (by omega) (by omega) ?_
  refine v_al1 c_206_133 ?_
  refine v_cVI c_206_134 rfl (by decide) rfl rfl (a_hom hw h) ?_
  rintro _ u ⟨rfl, h⟩
  refine v_if_lt_F c_206_135 (by omega) ?_
  refine v_al1 c_206_136 ?_
  refine v_cVI c_206_137 rfl (by decide) rfl rfl (u1 _ h) ?_
  rintro _ u ⟨rfl, h⟩
  refine v_if_lt_F c_206_138 (by omega) ?_
  refine v_al1 c_206_139 ?_
  refine v_icN (n := 3) c_206_140 rfl ?_
  refine v_cVI c_206_141 rfl (by decide) rfl rfl (a_ab3 hw h) ?_
  rintro _ u ⟨rfl, h⟩
  refine v_il4 c_206_142 ?_
  refine v_icmp_ne_F c_206_143 (by omega) (by omega) (by omega) ?_
  refine v_al1 c_206_144 ?_
  refine v_cVI c_206_145 rfl (by decide) rfl rfl (a_hom hw h) ?_
  rintro _ u ⟨rfl, h⟩
  refine v_if_lt_F c_206_146 (by omega) ?_
  refine v_al1 c_206_147 ?_
  refine v_icN (n := 0) c_206_148 rfl ?_
  refine v_cVI c_206_149 rfl (by decide) rfl rfl (a_res hw h (if_pos rfl)) ?_
  rintro _ u ⟨rfl, h⟩
  refine v_il3 c_206_150 ?_
  refine v_icmp_ne_F c_206_151 (by omega) (by omega) (by omega) ?_
  refine v_icN (n := 1) c_206_152 rfl ?_
  refine v_goto c_206_153 ?_
  refine v_is2 c_206_155 rfl ?_
  refine v_il2 c_206_156 ?_
  refine v_if_eq_F c_206_157 (by omega) (by omega) ?_
  refine v_al1 c_206_158 ?_
  refine v_icN (n := 3) c_206_159 rfl ?_
  refine v_cVI c_206_160 rfl (by decide) rfl rfl (a_ab3 hw h) ?_
  rintro _ u ⟨rfl, h⟩
  refine v_il4 c_206_161 ?_
  refine v_icmp_ne_F c_206_162 (by omega) (by omega) (by omega) ?_
  refine v_al1 c_206_163 ?_
  refine v_cSI c_206_164 rfl rfl rfl (l_tra hw h) ?_
  rintro _ u ⟨rfl, h⟩
  refine v_if_eq_fb c_206_165 (rfl) ?_
  refine v_icN (n := 1) c_206_166 rfl ?_
  refine v_goto c_206_167 ?_
  refine v_rb (B := true) c_206_169 rfl ?_
  exact ⟨rfl, h.2⟩
end LAW6
