/-! THE LAW'S OWN METHODS: rings, least -/
section LAW3
variable {sc : Nat × (Nat → Int32)} {s : zv_S} {M : zM} {L : List zM} {S : Nat → Option zM} {tx : Nat → Nat} {len : Nat}
/-- what the law reads of a ring and of its traders -/
def RGK (M : zM) (rr : Nat → Nat) : Prop := (∀ j, j < mRn M → tRr (mT M (mP M)) j = nI (rr j) ∧ rSet M j ≠ 0 ∧ rr j < tRo (mT M (mP M)) ∧ ∀ x, (rSet M j).testBit x = true → (mP M).testBit x = true ∧ tRf (mT M (mP M)) x = nI (rr j) ∧ tGf (mT M (mP M)) x = nI j) ∧ (∀ j j', j ≤ j' → j' < mRn M → rr j ≤ rr j') ∧ tRo (mT M (mP M)) ≤ mRn M
theorem mRG (hw : MW M) : ∃ rr, RGK M rr := by
  obtain ⟨q, r, k, rr, h1, h2, h3, h4, h5, h6⟩ := mXX hw
  refine ⟨rr, fun j hj => ?_, h3, h5⟩
  obtain ⟨b1, b2, b3, b4, b5, b6⟩ := h2 j hj
  refine ⟨b1, b2, b3, fun x hx => ?_⟩
  obtain ⟨c1, c2, c3⟩ := b4 x hx
  obtain ⟨a1, a2, a3, a4, a5, a6, a7⟩ := h1 x c1
  rw [c2] at a4 a7
  exact ⟨c1, by rw [a3, a7], a4⟩
theorem a_rg2' (hw : MW M) (h : RZ s (M, L, S, tx, len)) {rr : Nat → Nat} (hg : RGK M rr) {r : Nat} (hr : r < mRn M) : CC sc 9 [.ref 0, .int (nI r), .int (nI 2)] s (AP (nI (rr r)) (M, L, S, tx, len)) := by
  have e := a_rg2 (sc := sc) hw h hr
  rw [(hg.1 r hr).1] at e
  exact e
theorem a_rg3' (hw : MW M) (h : RZ s (M, L, S, tx, len)) {r : Nat} (hr : r < mRn M) : CC sc 9 [.ref 0, .int (nI r), .int (nI 3)] s (AP (nI (gN M (rSet M r) (mN M))) (M, L, S, tx, len)) := by
  have e := a_rg3 (sc := sc) hw h hr
  rw [(f_gS hw (rSet_ok hw hr).2.1 _ (Nat.le_refl _)).1] at e
  exact e
theorem a_tr4r (hw : MW M) (h : RZ s (M, L, S, tx, len)) {rr : Nat → Nat} (hg : RGK M rr) {i r : Nat} (hi : i < mN M) (hr : r < mRn M) (hx : (rSet M r).testBit i = true) : CC sc 6 [.ref 0, .int (nI i), .int (nI 4)] s (AP (nI (rr r)) (M, L, S, tx, len)) := by
  have e := a_tr4 (sc := sc) hw h hi
  rw [((hg.1 r hr).2.2.2 i hx).2.1] at e
  exact e
theorem a_tr5r (hw : MW M) (h : RZ s (M, L, S, tx, len)) {rr : Nat → Nat} (hg : RGK M rr) {i r : Nat} (hi : i < mN M) (hr : r < mRn M) (hx : (rSet M r).testBit i = true) : CC sc 6 [.ref 0, .int (nI i), .int (nI 5)] s (AP (nI r) (M, L, S, tx, len)) := by
  have e := a_tr5 (sc := sc) hw h hi
  rw [((hg.1 r hr).2.2.2 i hx).2.2] at e
  exact e
theorem a_tr3p (hw : MW M) (h : RZ s (M, L, S, tx, len)) {i : Nat} (hi : i < mN M) (ho : (mP M).testBit i = true) : CC sc 6 [.ref 0, .int (nI i), .int (nI 3)] s (AP (nI (gT M (mP M) i)) (M, L, S, tx, len)) := by
  have e := a_tr3 (sc := sc) hw h hi
  rw [(gT_ok hw mP_n ho).1] at e
  exact e
/-- the rounds of the rings don't fall -/
theorem l_rg46 (hw : MW M) (h : RZ s (M, L, S, tx, len)) {rr : Nat → Nat} (hg : RGK M rr) {k : Nat} (hk : k < mRn M) {l1 l2 l3 l5 l6 l7 l8 : Option Value} {Q : zm_O → zv_S → Prop} (hc : ∀ u, RZ u (M, L, S, tx, len) → VV sc 188 59 [some (.ref 0), l1, l2, l3, some (.int (nI k)), l5, l6, l7, l8] [] u Q) : VV sc 188 46 [some (.ref 0), l1, l2, l3, some (.int (nI k)), l5, l6, l7, l8] [] s Q := by
  have hr7 := mRn_7 hw
  by_cases c : k = 0
  · refine v_il4 c_188_46 ?_
    refine v_if_eq_T c_188_47 (by omega) (by omega) ?_
    exact hc _ h
  · have h1 := hg.2.1 (k - 1) k (by omega) hk
    have h2 := (hg.1 k hk).2.2.1
    have h3 := hg.2.2
    refine v_il4 c_188_46 ?_
    refine v_if_eq_F c_188_47 (by omega) (by omega) ?_
    refine v_al0 c_188_48 ?_
    refine v_il4 c_188_49 ?_
    refine v_icN (n := 2) c_188_50 rfl ?_
    refine v_cVI c_188_51 rfl (by decide) rfl rfl (a_rg2' hw h hg hk) ?_
    rintro _ u ⟨rfl, h⟩
    refine v_al0 c_188_52 ?_
    refine v_il4 c_188_53 ?_
    refine v_icN (n := 1) c_188_54 rfl ?_
    refine v_isubN c_188_55 (by omega) ?_
    refine v_icN (n := 2) c_188_56 rfl ?_
    refine v_cVI c_188_57 rfl (by decide) rfl rfl (a_rg2' hw h hg (by omega)) ?_
    rintro _ u ⟨rfl, h⟩
    refine v_icmp_lt_F c_188_58 (by omega) (by omega) (by omega) ?_
    exact hc _ h
theorem l_rng (hw : MW M) (h : RZ s (M, L, S, tx, len)) : CC sc 188 [.ref 0] s (AP (bI true) (M, L, S, tx, len)) := by
  refine cc_of ml_188 rfl rfl ?_
  have h7 := hw.1
  have hr7 := mRn_7 hw
  obtain ⟨rr, hg⟩ := mRG hw
  have hro := hg.2.2
  refine v_icN (n := 0) c_188_0 rfl ?_
  refine v_is1 c_188_1 rfl ?_
  refine v_icN (n := 0) c_188_2 rfl ?_
  refine v_is2 c_188_3 rfl ?_
  refine v_icN (n := 1) c_188_4 rfl ?_
  refine v_is3 c_188_5 rfl ?_
  refine v_icN (n := 0) c_188_6 rfl ?_
  refine v_is4 c_188_7 rfl ?_
  refine vv_forS (mRn M) (fun k ls u => (∃ y5 y6 y7 y8, ls = [some (.ref 0), some (.int (nI (orS (rSet M) k))), some (.int (nI 0)), some (.int (nI 1)), some (.int (nI k)), y5, y6, y7, y8]) ∧ RZ u (M, L, S, tx, len)) ?_ ?_ _ _ ⟨⟨none, none, none, none, rfl⟩, h⟩
  · rintro k ls u hk ⟨⟨y5, y6, y7, y8, rfl⟩, h⟩ hkk
    rw [orS_s] at hkk
    obtain ⟨b1, b2, b3, b4⟩ := hg.1 k hk
    obtain ⟨r1, r2, r3, r4⟩ := rSet_ok hw hk
    have hgn := (f_gS hw r2 _ (Nat.le_refl _)).2
    have hor := f_orr hw (k := k) (by omega)
    have hp := pc_le (rSet M k)
    refine v_il4 c_188_8 ?_
    refine v_al0 c_188_9 ?_
    refine v_icN (n := 4) c_188_10 rfl ?_
    refine v_cVI c_188_11 rfl (by decide) rfl rfl (a_ab4 hw h) ?_
    rintro _ u ⟨rfl, h⟩
    refine v_icmp_ge_F c_188_12 (by omega) (by omega) (by omega) ?_
    refine v_il3 c_188_13 ?_
    refine v_if_eq_F c_188_14 (by omega) (by omega) ?_
    refine v_al0 c_188_15 ?_
    refine v_il4 c_188_16 ?_
    refine v_icN (n := 0) c_188_17 rfl ?_
    refine v_cVI c_188_18 rfl (by decide) rfl rfl (a_rg0 hw h hk) ?_
    rintro _ u ⟨rfl, h⟩
    refine v_is5 c_188_19 rfl ?_
    refine v_il5 c_188_20 ?_
    refine v_if_le_F c_188_21 (by omega) (by omega) ?_
    refine v_il5 c_188_22 ?_
    refine v_il1 c_188_23 ?_
    refine v_iandN c_188_24 ?_
    rw [f_dis hw hk]
    refine v_if_ne_F c_188_25 (by omega) (by omega) ?_
    refine v_al0 c_188_26 ?_
    refine v_il4 c_188_27 ?_
    refine v_icN (n := 1) c_188_28 rfl ?_
    refine v_cVI c_188_29 rfl (by decide) rfl rfl (a_rg1 hw h hk) ?_
    rintro _ u ⟨rfl, h⟩
    refine v_il5 c_188_30 ?_
    refine v_cSi c_188_31 rfl rfl rfl (l_one r4) ?_
    refine v_icmp_ne_F c_188_32 (by omega) (by omega) (by omega) ?_
    refine v_al0 c_188_33 ?_
    refine v_il4 c_188_34 ?_
    refine v_icN (n := 2) c_188_35 rfl ?_
    refine v_cVI c_188_36 rfl (by decide) rfl rfl (a_rg2' hw h hg hk) ?_
    rintro _ u ⟨rfl, h⟩
    refine v_al0 c_188_37 ?_
    refine v_icN (n := 5) c_188_38 rfl ?_
    refine v_cVI c_188_39 rfl (by decide) rfl rfl (a_ab5 hw h) ?_
    rintro _ u ⟨rfl, h⟩
    refine v_icmp_ge_F c_188_40 (by omega) (by omega) (by omega) ?_
    refine v_al0 c_188_41 ?_
    refine v_il4 c_188_42 ?_
    refine v_icN (n := 3) c_188_43 rfl ?_
    refine v_cVI c_188_44 rfl (by decide) rfl rfl (a_rg3' hw h hk) ?_
    rintro _ u ⟨rfl, h⟩
    refine v_if_lt_F c_188_45 (by omega) ?_
    refine l_rg46 hw h hg hk fun u h => ?_
    refine v_icN (n := 1) c_188_59 rfl ?_
    refine v_goto c_188_60 ?_
    refine v_is3 c_188_62 rfl ?_
    refine v_icN (n := 0) c_188_63 rfl ?_
    refine v_is6 c_188_64 rfl ?_
    refine v_icN (n := 0) c_188_65 rfl ?_
    refine v_is7 c_188_66 rfl ?_
    refine v_icN (n := 0) c_188_67 rfl ?_
    refine v_is8 c_188_68 rfl ?_
    refine vv_forS (mN M) (fun i ls v => ls = [some (.ref 0), some (.int (nI (orS (rSet M) k))), some (.int (nI (gN M (rSet M k) i))), some (.int (nI 1)), some (.int (nI k)), some (.int (nI (rSet M k))), some (.int (nI (orS (fun i => if (rSet M k).testBit i then 1 * 2 ^ mH M i else 0) i))), some (.int (nI (orS (fun i => if (rSet M k).testBit i then 1 * 2 ^ gT M (mP M) i else 0) i))), some (.int (nI i))] ∧ RZ v (M, L, S, tx, len)) ?_ ?_ _ _ ⟨rfl, h⟩
    · rintro i ls v hi ⟨rfl, h⟩ hki
      have bi := hw.2.2.2.1 i hi
      have es : gN M (rSet M k) (i + 1) = gN M (rSet M k) i + (if (rSet M k).testBit i then mR M i (mH M i) - mR M i (gT M (mP M) i) else 0) := rfl
      rw [es, orS_s, orS_s] at hki
      cases c : (rSet M k).testBit i
      · rw [c, if_neg (by decide), if_neg (by decide), if_neg (by decide), Nat.or_zero, Nat.or_zero, Nat.add_zero] at hki
        refine v_il8 c_188_69 ?_
        refine v_al0 c_188_70 ?_
        refine v_icN (n := 0) c_188_71 rfl ?_
        refine v_cVI c_188_72 rfl (by decide) rfl rfl (a_ab0 hw h) ?_
        rintro _ u ⟨rfl, h⟩
        refine v_icmp_ge_F c_188_73 (by omega) (by omega) (by omega) ?_
        refine v_il3 c_188_74 ?_
        refine v_if_eq_F c_188_75 (by omega) (by omega) ?_
        refine v_il5 c_188_76 ?_
        refine v_il8 c_188_77 ?_
        refine v_ishrN c_188_78 (by omega) (by omega) ?_
        refine v_icN (n := 1) c_188_79 rfl ?_
        refine v_iandN c_188_80 ?_
        rw [tb0 c]
        refine v_icN (n := 1) c_188_81 rfl ?_
        refine v_icmp_ne_T c_188_82 (by omega) (by omega) (by omega) ?_
        refine v_incN8 c_188_135 rfl rfl ?_
        refine v_goto c_188_136 ?_
        exact hki _ _ ⟨rfl, h⟩
      · rw [c, if_pos rfl, if_pos rfl, if_pos rfl] at hki
        have ho := r2 i c
        have g2 := (gT_ok hw mP_n ho).2
        have f1 := (f_get hw ho).1
        refine v_il8 c_188_69 ?_
        refine v_al0 c_188_70 ?_
        refine v_icN (n := 0) c_188_71 rfl ?_
        refine v_cVI c_188_72 rfl (by decide) rfl rfl (a_ab0 hw h) ?_
        rintro _ u ⟨rfl, h⟩
        refine v_icmp_ge_F c_188_73 (by omega) (by omega) (by omega) ?_
        refine v_il3 c_188_74 ?_
        refine v_if_eq_F c_188_75 (by omega) (by omega) ?_
        refine v_il5 c_188_76 ?_
        refine v_il8 c_188_77 ?_
        refine v_ishrN c_188_78 (by omega) (by omega) ?_
        refine v_icN (n := 1) c_188_79 rfl ?_
        refine v_iandN c_188_80 ?_
        rw [tb1 c]
        refine v_icN (n := 1) c_188_81 rfl ?_
        refine v_icmp_ne_F c_188_82 (by omega) (by omega) (by omega) ?_
        refine v_il6 c_188_83 ?_
        refine v_icN (n := 1) c_188_84 rfl ?_
        refine v_al0 c_188_85 ?_
        refine v_il8 c_188_86 ?_
        refine v_icN (n := 0) c_188_87 rfl ?_
        refine v_cVI c_188_88 rfl (by decide) rfl rfl (a_tr0 hw h hi) ?_
        rintro _ u ⟨rfl, h⟩
        refine v_ishlN c_188_89 (by omega) ?_
        refine v_iorN c_188_90 ?_
        refine v_is6 c_188_91 rfl ?_
        refine v_il7 c_188_92 ?_
        refine v_icN (n := 1) c_188_93 rfl ?_
        refine v_al0 c_188_94 ?_
        refine v_il8 c_188_95 ?_
        refine v_icN (n := 3) c_188_96 rfl ?_
        refine v_cVI c_188_97 rfl (by decide) rfl rfl (a_tr3p hw h hi ho) ?_
        rintro _ u ⟨rfl, h⟩
        refine v_ishlN c_188_98 (by omega) ?_
        refine v_iorN c_188_99 ?_
        refine v_is7 c_188_100 rfl ?_
        refine v_il2 c_188_101 ?_
        refine v_al0 c_188_102 ?_
        refine v_il8 c_188_103 ?_
        refine v_icN (n := 1) c_188_104 rfl ?_
        refine v_cVI c_188_105 rfl (by decide) rfl rfl (a_tr1 hw h hi) ?_
        rintro _ u ⟨rfl, h⟩
        refine v_al0 c_188_106 ?_
        refine v_il8 c_188_107 ?_
        refine v_al0 c_188_108 ?_
        refine v_il8 c_188_109 ?_
        refine v_icN (n := 3) c_188_110 rfl ?_
        refine v_cVI c_188_111 rfl (by decide) rfl rfl (a_tr3p hw h hi ho) ?_
        rintro _ u ⟨rfl, h⟩
        refine v_cVI c_188_112 rfl (by decide) rfl rfl (a_rnk hw h hi g2) ?_
        rintro _ u ⟨rfl, h⟩
        refine v_isubN c_188_113 (by omega) ?_
        refine v_iaddN c_188_114 ?_
        refine v_is2 c_188_115 rfl ?_
        refine v_al0 c_188_116 ?_
        refine v_il8 c_188_117 ?_
        refine v_icN (n := 5) c_188_118 rfl ?_
        refine v_cVI c_188_119 rfl (by decide) rfl rfl (a_tr5r hw h hg hi hk c) ?_
        rintro _ u ⟨rfl, h⟩
        refine v_il4 c_188_120 ?_
        refine v_icmp_ne_F c_188_121 (by omega) (by omega) (by omega) ?_
        refine v_al0 c_188_122 ?_
        refine v_il8 c_188_123 ?_
        refine v_icN (n := 4) c_188_124 rfl ?_
        refine v_cVI c_188_125 rfl (by decide) rfl rfl (a_tr4r hw h hg hi hk c) ?_
        rintro _ u ⟨rfl, h⟩
        refine v_al0 c_188_126 ?_
        refine v_il4 c_188_127 ?_
        refine v_icN (n := 2) c_188_128 rfl ?_
        refine v_cVI c_188_129 rfl (by decide) rfl rfl (a_rg2' hw h hg hk) ?_
        rintro _ u ⟨rfl, h⟩
        refine v_icmp_ne_F c_188_130 (by omega) (by omega) (by omega) ?_
        refine v_icN (n := 1) c_188_131 rfl ?_
        refine v_goto c_188_132 ?_
        refine v_is3 c_188_134 rfl ?_
        refine v_incN8 c_188_135 rfl rfl ?_
        refine v_goto c_188_136 ?_
        exact hki _ _ ⟨rfl, h⟩
    · rintro ls v ⟨rfl, h⟩
      have hX : orS (fun i => if (rSet M k).testBit i then 1 * 2 ^ mH M i else 0) (mN M) < 128 := f_held128 hw (c := fun i => (rSet M k).testBit i)
      rw [f_ring hw hk]
      refine v_il8 c_188_69 ?_
      refine v_al0 c_188_70 ?_
      refine v_icN (n := 0) c_188_71 rfl ?_
      refine v_cVI c_188_72 rfl (by decide) rfl rfl (a_ab0 hw h) ?_
      rintro _ u ⟨rfl, h⟩
      refine v_icmp_ge_T c_188_73 (by omega) (by omega) (by omega) ?_
      refine v_il3 c_188_137 ?_
      refine v_if_eq_F c_188_138 (by omega) (by omega) ?_
      refine v_il6 c_188_139 ?_
      refine v_il7 c_188_140 ?_
      refine v_icmp_ne_F c_188_141 (rfl) (by omega) (by omega) ?_
      refine v_icN (n := 1) c_188_142 rfl ?_
      refine v_goto c_188_143 ?_
      refine v_is3 c_188_145 rfl ?_
      refine v_il2 c_188_146 ?_
      refine v_al0 c_188_147 ?_
      refine v_il4 c_188_148 ?_
      refine v_icN (n := 3) c_188_149 rfl ?_
      refine v_cVI c_188_150 rfl (by decide) rfl rfl (a_rg3' hw h hk) ?_
      rintro _ u ⟨rfl, h⟩
      refine v_isubN c_188_151 (by omega) ?_
      refine v_is2 c_188_152 rfl ?_
      refine v_il1 c_188_153 ?_
      refine v_il5 c_188_154 ?_
      refine v_iorN c_188_155 ?_
      refine v_is1 c_188_156 rfl ?_
      refine v_incN4 c_188_157 rfl rfl ?_
      refine v_goto c_188_158 ?_
      rw [Nat.sub_self]
      exact hkk _ _ ⟨⟨_, _, _, _, rfl⟩, h⟩
  · rintro ls u ⟨⟨y5, y6, y7, y8, rfl⟩, h⟩
    have hpc := pc_le (mP M)
    have hP := mP_128 hw
    rw [f_allr hw]
    refine v_il4 c_188_8 ?_
    refine v_al0 c_188_9 ?_
    refine v_icN (n := 4) c_188_10 rfl ?_
    refine v_cVI c_188_11 rfl (by decide) rfl rfl (a_ab4 hw h) ?_
    rintro _ u ⟨rfl, h⟩
    refine v_icmp_ge_T c_188_12 (by omega) (by omega) (by omega) ?_
    refine v_il3 c_188_159 ?_
    refine v_if_eq_F c_188_160 (by omega) (by omega) ?_
    refine v_il2 c_188_161 ?_
    refine v_if_ne_F c_188_162 (by omega) (by omega) ?_
    refine v_il1 c_188_163 ?_
    refine v_cSi c_188_164 rfl rfl rfl (l_one hP) ?_
    refine v_al0 c_188_165 ?_
    refine v_icN (n := 1) c_188_166 rfl ?_
    refine v_cVI c_188_167 rfl (by decide) rfl rfl (a_ab1 hw h) ?_
    rintro _ u ⟨rfl, h⟩
    refine v_icmp_ne_F c_188_168 (by omega) (by omega) (by omega) ?_
    refine v_al0 c_188_169 ?_
    refine v_icN (n := 5) c_188_170 rfl ?_
    refine v_cVI c_188_171 rfl (by decide) rfl rfl (a_ab5 hw h) ?_
    rintro _ u ⟨rfl, h⟩
    refine v_al0 c_188_172 ?_
    refine v_icN (n := 4) c_188_173 rfl ?_
    refine v_cVI c_188_174 rfl (by decide) rfl rfl (a_ab4 hw h) ?_
    rintro _ u ⟨rfl, h⟩
    refine v_icmp_gt_F c_188_175 (by omega) (by omega) (by omega) ?_
    refine v_icN (n := 1) c_188_176 rfl ?_
    refine v_goto c_188_177 ?_
    refine v_rb (B := true) c_188_179 rfl ?_
    exact ⟨_, rfl, rfl, h⟩
theorem a_lofy (hw : MW M) (h : RZ s (M, L, S, tx, len)) {i : Nat} (hi : i < mN M) (ho : (mP M).testBit i = true) : CC sc 22 [.ref 0, .int (nI i)] s (AP (nI (mLo M i)) (M, L, S, tx, len)) := by
  have e := a_lof (sc := sc) hw h hi
  rw [(f_lof hw ho).1] at e
  exact e
theorem a_lofn (hw : MW M) (h : RZ s (M, L, S, tx, len)) {i : Nat} (hi : i < mN M) (ho : (mP M).testBit i = false) : CC sc 22 [.ref 0, .int (nI i)] s (AP (-9) (M, L, S, tx, len)) := by
  have e := a_lof (sc := sc) hw h hi
  have e2 : lOf M i = -9 := by unfold lOf; rw [ho, if_neg (by decide)]
  rw [e2] at e
  exact e
theorem a_grp0 (hw : MW M) (h : RZ s (M, L, S, tx, len)) : CC sc 19 [.ref 0, .int (nI 0)] s (AP (oI (bgF M false (2 ^ mN M - 1))) (M, L, S, tx, len)) := a_grp hw h false
theorem a_grp1 (hw : MW M) (h : RZ s (M, L, S, tx, len)) : CC sc 19 [.ref 0, .int (nI 1)] s (AP (oI (bgF M true (2 ^ mN M - 1))) (M, L, S, tx, len)) := a_grp hw h true
theorem a_gms0 (hw : MW M) (h : RZ s (M, L, S, tx, len)) : CC sc 20 [.ref 0, .int (nI 0)] s (AP (nI (mGr M false)) (M, L, S, tx, len)) := a_gms hw h false
theorem a_gms1 (hw : MW M) (h : RZ s (M, L, S, tx, len)) : CC sc 20 [.ref 0, .int (nI 1)] s (AP (nI (mGr M true)) (M, L, S, tx, len)) := a_gms hw h true
theorem l_lea (hw : MW M) (h : RZ s (M, L, S, tx, len)) : CC sc 189 [.ref 0] s (AP (bI true) (M, L, S, tx, len)) := by
  refine cc_of ml_189 rfl rfl ?_
  have h7 := hw.1
  refine v_icN (n := 0) c_189_0 rfl ?_
  refine v_is1 c_189_1 rfl ?_
  refine v_icN (n := 0) c_189_2 rfl ?_
  refine v_is2 c_189_3 rfl ?_
  refine v_icN (n := 0) c_189_4 rfl ?_
  refine v_is3 c_189_5 rfl ?_
  refine v_icN (n := 0) c_189_6 rfl ?_
  refine v_is4 c_189_7 rfl ?_
  refine v_icN (n := 0) c_189_8 rfl ?_
  refine v_is5 c_189_9 rfl ?_
  refine vv_forS (mN M) (fun i ls u => ls = [some (.ref 0), some (.int (nI (orS (fun i => if (mP M).testBit i then 1 * 2 ^ mLo M i else 0) i))), some (.int (nI (orS (fun i => if (mP M).testBit i then 1 * 2 ^ mH M i else 0) i))), some (.int (nI (lsN M i))), some (.int (nI (hN M i))), some (.int (nI i)), none, none] ∧ RZ u (M, L, S, tx, len)) ?_ ?_ _ _ ⟨rfl, h⟩
  · rintro i ls u hi ⟨rfl, h⟩ hk
    have bi := hw.2.2.2.1 i hi
    have e1 : lsN M (i + 1) = lsN M i + (if (mP M).testBit i then mR M i (mLo M i) else 0) := rfl
    have e2 : hN M (i + 1) = hN M i + (if (mP M).testBit i then mR M i (mH M i) else 0) := rfl
    rw [orS_s, orS_s, e1, e2] at hk
    cases hl : (mL M).testBit i
    · have ho := f_yes hi hl
      have lo := (f_lof hw ho).2
      rw [ho, if_pos rfl, if_pos rfl, if_pos rfl, if_pos rfl] at hk
      refine v_il5 c_189_10 ?_
      refine v_al0 c_189_11 ?_
      refine v_icN (n := 0) c_189_12 rfl ?_
      refine v_cVI c_189_13 rfl (by decide) rfl rfl (a_ab0 hw h) ?_
      rintro _ u ⟨rfl, h⟩
      refine v_icmp_ge_F c_189_14 (by omega) (by omega) (by omega) ?_
      refine v_al0 c_189_15 ?_
      refine v_il5 c_189_16 ?_
      refine v_icN (n := 2) c_189_17 rfl ?_
      refine v_cVI c_189_18 rfl (by decide) rfl rfl (a_tr2y hw h hi hl) ?_
      rintro _ u ⟨rfl, h⟩
      refine v_icN (n := 1) c_189_19 rfl ?_
      refine v_icmp_ne_F c_189_20 (by omega) (by omega) (by omega) ?_
      refine v_il1 c_189_21 ?_
      refine v_icN (n := 1) c_189_22 rfl ?_
      refine v_al0 c_189_23 ?_
      refine v_il5 c_189_24 ?_
      refine v_cVI c_189_25 rfl (by decide) rfl rfl (a_lofy hw h hi ho) ?_
      rintro _ u ⟨rfl, h⟩
      refine v_ishlN c_189_26 (by omega) ?_
      refine v_iorN c_189_27 ?_
      refine v_is1 c_189_28 rfl ?_
      refine v_il2 c_189_29 ?_
      refine v_icN (n := 1) c_189_30 rfl ?_
      refine v_al0 c_189_31 ?_
      refine v_il5 c_189_32 ?_
      refine v_icN (n := 0) c_189_33 rfl ?_
      refine v_cVI c_189_34 rfl (by decide) rfl rfl (a_tr0 hw h hi) ?_
      rintro _ u ⟨rfl, h⟩
      refine v_ishlN c_189_35 (by omega) ?_
      refine v_iorN c_189_36 ?_
      refine v_is2 c_189_37 rfl ?_
      refine v_il3 c_189_38 ?_
      refine v_al0 c_189_39 ?_
      refine v_il5 c_189_40 ?_
      refine v_al0 c_189_41 ?_
      refine v_il5 c_189_42 ?_
      refine v_cVI c_189_43 rfl (by decide) rfl rfl (a_lofy hw h hi ho) ?_
      rintro _ u ⟨rfl, h⟩
      refine v_cVI c_189_44 rfl (by decide) rfl rfl (a_rnk hw h hi lo) ?_
      rintro _ u ⟨rfl, h⟩
      refine v_iaddN c_189_45 ?_
      refine v_is3 c_189_46 rfl ?_
      refine v_il4 c_189_47 ?_
      refine v_al0 c_189_48 ?_
      refine v_il5 c_189_49 ?_
      refine v_icN (n := 1) c_189_50 rfl ?_
      refine v_cVI c_189_51 rfl (by decide) rfl rfl (a_tr1 hw h hi) ?_
      rintro _ u ⟨rfl, h⟩
      refine v_iaddN c_189_52 ?_
      refine v_is4 c_189_53 rfl ?_
      refine v_goto c_189_54 ?_
      refine v_incN5 c_189_66 rfl rfl ?_
      refine v_goto c_189_67 ?_
      exact hk _ _ ⟨rfl, h⟩
    · have ho := f_nay hl
      rw [ho, if_neg (by decide), if_neg (by decide), if_neg (by decide), if_neg (by decide), Nat.or_zero, Nat.or_zero, Nat.add_zero, Nat.add_zero] at hk
      refine v_il5 c_189_10 ?_
      refine v_al0 c_189_11 ?_
      refine v_icN (n := 0) c_189_12 rfl ?_
      refine v_cVI c_189_13 rfl (by decide) rfl rfl (a_ab0 hw h) ?_
      rintro _ u ⟨rfl, h⟩
      refine v_icmp_ge_F c_189_14 (by omega) (by omega) (by omega) ?_
      refine v_al0 c_189_15 ?_
      refine v_il5 c_189_16 ?_
      refine v_icN (n := 2) c_189_17 rfl ?_
      refine v_cVI c_189_18 rfl (by decide) rfl rfl (a_tr2n hw h hi hl) ?_
      rintro _ u ⟨rfl, h⟩
      refine v_icN (n := 1) c_189_19 rfl ?_
      refine v_icmp_ne_T c_189_20 (by omega) (by omega) (by omega) ?_
      refine v_al0 c_189_55 ?_
      refine v_il5 c_189_56 ?_
      refine v_cVI c_189_57 rfl (by decide) rfl rfl (a_lofn hw h hi ho) ?_
      rintro _ u ⟨rfl, h⟩
      refine v_bp c_189_58 ?_
      refine v_icmp_ne_f c_189_59 (rfl) ?_
      refine v_al0 c_189_60 ?_
      refine v_il5 c_189_61 ?_
      refine v_cVI c_189_62 rfl (by decide) rfl rfl (a_harX hw h hi hl) ?_
      rintro _ u ⟨rfl, h⟩
      refine v_if_eq_T c_189_63 (by omega) (by omega) ?_
      refine v_incN5 c_189_66 rfl rfl ?_
      refine v_goto c_189_67 ?_
      exact hk _ _ ⟨rfl, h⟩
  · rintro ls u ⟨rfl, h⟩
    have hX := f_held128 hw (c := fun i => (mP M).testBit i)
    have hl := f_lN hw _ (Nat.le_refl _)
    have hh := f_hN hw _ (Nat.le_refl _)
    have e3 := f_lsum hw
    have e4 := f_ltop hw
    have hgl := f_gle hw
    have c1 : mGr M false ≤ 2 ^ mN M - 1 := cnt_le _ _
    have c2 : mGr M true ≤ 2 ^ mN M - 1 := cnt_le _ _
    have p3 := hw.p128
    obtain ⟨X, eX⟩ : ∃ X, X = orS (fun i => if (mP M).testBit i then 1 * 2 ^ mH M i else 0) (mN M) := ⟨_, rfl⟩
    have hX : X < 128 := by rw [eX]; exact hX
    rw [f_lset hw, ← eX]
    refine v_il5 c_189_10 ?_
    refine v_al0 c_189_11 ?_
    refine v_icN (n := 0) c_189_12 rfl ?_
    refine v_cVI c_189_13 rfl (by decide) rfl rfl (a_ab0 hw h) ?_
    rintro _ u ⟨rfl, h⟩
    refine v_icmp_ge_T c_189_14 (by omega) (by omega) (by omega) ?_
    refine v_il1 c_189_68 ?_
    refine v_il2 c_189_69 ?_
    refine v_icmp_ne_F c_189_70 (by omega) (by omega) (by omega) ?_
    refine v_il3 c_189_71 ?_
    refine v_al0 c_189_72 ?_
    refine v_cVI c_189_73 rfl (by decide) rfl rfl (a_lst hw h) ?_
    rintro _ u ⟨rfl, h⟩
    refine v_icmp_ne_F c_189_74 (by omega) (by omega) (by omega) ?_
    refine v_il3 c_189_75 ?_
    refine v_il4 c_189_76 ?_
    refine v_icmp_gt_F c_189_77 (by omega) (by omega) (by omega) ?_
    refine v_icN (n := 1) c_189_78 rfl ?_
    refine v_goto c_189_79 ?_
    refine v_is5 c_189_81 rfl ?_
    refine v_al0 c_189_82 ?_
    obtain ⟨k1, k2⟩ := f_grp hw
    have q1 := a_grp0 (sc := sc) hw h
    rcases k1 with ⟨g1, g2⟩ | ⟨g, g1, g2, g3, g4⟩
    · rcases k2 with ⟨d1, d2⟩ | ⟨g', b, d1, -⟩
      · rw [g1] at q1
        refine v_icN (n := 0) c_189_83 rfl ?_
        refine v_cVI c_189_84 rfl (by decide) rfl rfl ((q1 : CC sc 19 [.ref 0, .int (nI 0)] _ (AP (-9) (M, L, S, tx, len)))) ?_
        rintro _ u ⟨rfl, h⟩
        refine v_is6 c_189_85 rfl ?_
        refine v_al0 c_189_86 ?_
        have q2 := a_grp1 (sc := sc) hw h
        rw [d1] at q2
        refine v_icN (n := 1) c_189_87 rfl ?_
        refine v_cVI c_189_88 rfl (by decide) rfl rfl ((q2 : CC sc 19 [.ref 0, .int (nI 1)] _ (AP (-9) (M, L, S, tx, len)))) ?_
        rintro _ u ⟨rfl, h⟩
        refine v_is7 c_189_89 rfl ?_
        refine v_il5 c_189_90 ?_
        refine v_if_eq_F c_189_91 (by omega) (by omega) ?_
        refine v_il6 c_189_92 ?_
        refine v_if_ge_f c_189_93 ((by decide)) ?_
        refine v_il6 c_189_94 ?_
        refine v_bp c_189_95 ?_
        refine v_icmp_ne_f c_189_96 (rfl) ?_
        refine v_al0 c_189_97 ?_
        refine v_icN (n := 0) c_189_98 rfl ?_
        refine v_cVI c_189_99 rfl (by decide) rfl rfl (a_gms0 hw h) ?_
        rintro _ u ⟨rfl, h⟩
        refine v_if_ne_F c_189_100 (by omega) (by omega) ?_
        refine v_goto c_189_101 ?_
        refine v_il7 c_189_106 ?_
        refine v_if_ge_f c_189_107 ((by decide)) ?_
        refine v_al0 c_189_108 ?_
        refine v_icN (n := 1) c_189_109 rfl ?_
        refine v_cVI c_189_110 rfl (by decide) rfl rfl (a_gms1 hw h) ?_
        rintro _ u ⟨rfl, h⟩
        refine v_if_ne_F c_189_111 (by omega) (by omega) ?_
        refine v_goto c_189_112 ?_
        refine v_icN (n := 1) c_189_124 rfl ?_
        refine v_goto c_189_125 ?_
        refine v_is5 c_189_127 rfl ?_
        refine v_il5 c_189_128 ?_
        refine v_if_eq_F c_189_129 (by omega) (by omega) ?_
        refine v_al0 c_189_130 ?_
        refine v_icN (n := 1) c_189_131 rfl ?_
        refine v_cVI c_189_132 rfl (by decide) rfl rfl (a_gms1 hw h) ?_
        rintro _ u ⟨rfl, h⟩
        refine v_al0 c_189_133 ?_
        refine v_icN (n := 0) c_189_134 rfl ?_
        refine v_cVI c_189_135 rfl (by decide) rfl rfl (a_gms0 hw h) ?_
        rintro _ u ⟨rfl, h⟩
        refine v_icmp_gt_F c_189_136 (by omega) (by omega) (by omega) ?_
        refine v_icN (n := 1) c_189_137 rfl ?_
        refine v_goto c_189_138 ?_
        refine v_rb (B := true) c_189_140 rfl ?_
        exact ⟨_, rfl, rfl, h⟩
      · rw [g1] at d1
        cases d1
    · rw [g1] at q1
      refine v_icN (n := 0) c_189_83 rfl ?_
      refine v_cVI c_189_84 rfl (by decide) rfl rfl ((q1 : CC sc 19 [.ref 0, .int (nI 0)] _ (AP (nI g) (M, L, S, tx, len)))) ?_
      rintro _ u ⟨rfl, h⟩
      refine v_is6 c_189_85 rfl ?_
      refine v_al0 c_189_86 ?_
      have q2 := a_grp1 (sc := sc) hw h
      have pg := pc_le g
      rcases k2 with ⟨d1, d2⟩ | ⟨g', b, d1, d2, d3, d4, d5, d6⟩
      · rw [d1] at q2
        refine v_icN (n := 1) c_189_87 rfl ?_
        refine v_cVI c_189_88 rfl (by decide) rfl rfl ((q2 : CC sc 19 [.ref 0, .int (nI 1)] _ (AP (-9) (M, L, S, tx, len)))) ?_
        rintro _ u ⟨rfl, h⟩
        refine v_is7 c_189_89 rfl ?_
        refine v_il5 c_189_90 ?_
        refine v_if_eq_F c_189_91 (by omega) (by omega) ?_
        refine v_il6 c_189_92 ?_
        refine v_if_ge_T c_189_93 (by omega) ?_
        refine v_al0 c_189_102 ?_
        refine v_icN (n := 0) c_189_103 rfl ?_
        refine v_cVI c_189_104 rfl (by decide) rfl rfl (a_gms0 hw h) ?_
        rintro _ u ⟨rfl, h⟩
        refine v_if_le_F c_189_105 (by omega) (by omega) ?_
        refine v_il7 c_189_106 ?_
        refine v_if_ge_f c_189_107 ((by decide)) ?_
        refine v_al0 c_189_108 ?_
        refine v_icN (n := 1) c_189_109 rfl ?_
        refine v_cVI c_189_110 rfl (by decide) rfl rfl (a_gms1 hw h) ?_
        rintro _ u ⟨rfl, h⟩
        refine v_if_ne_F c_189_111 (by omega) (by omega) ?_
        refine v_goto c_189_112 ?_
        refine v_icN (n := 1) c_189_124 rfl ?_
        refine v_goto c_189_125 ?_
        refine v_is5 c_189_127 rfl ?_
        refine v_il5 c_189_128 ?_
        refine v_if_eq_F c_189_129 (by omega) (by omega) ?_
        refine v_al0 c_189_130 ?_
        refine v_icN (n := 1) c_189_131 rfl ?_
        refine v_cVI c_189_132 rfl (by decide) rfl rfl (a_gms1 hw h) ?_
        rintro _ u ⟨rfl, h⟩
        refine v_al0 c_189_133 ?_
        refine v_icN (n := 0) c_189_134 rfl ?_
        refine v_cVI c_189_135 rfl (by decide) rfl rfl (a_gms0 hw h) ?_
        rintro _ u ⟨rfl, h⟩
        refine v_icmp_gt_F c_189_136 (by omega) (by omega) (by omega) ?_
        refine v_icN (n := 1) c_189_137 rfl ?_
        refine v_goto c_189_138 ?_
        refine v_rb (B := true) c_189_140 rfl ?_
        exact ⟨_, rfl, rfl, h⟩
      · rw [g1] at d1
        cases d1
        rw [d2] at q2
        have pb := pc_le b
        refine v_icN (n := 1) c_189_87 rfl ?_
        refine v_cVI c_189_88 rfl (by decide) rfl rfl ((q2 : CC sc 19 [.ref 0, .int (nI 1)] _ (AP (nI b) (M, L, S, tx, len)))) ?_
        rintro _ u ⟨rfl, h⟩
        refine v_is7 c_189_89 rfl ?_
        refine v_il5 c_189_90 ?_
        refine v_if_eq_F c_189_91 (by omega) (by omega) ?_
        refine v_il6 c_189_92 ?_
        refine v_if_ge_T c_189_93 (by omega) ?_
        refine v_al0 c_189_102 ?_
        refine v_icN (n := 0) c_189_103 rfl ?_
        refine v_cVI c_189_104 rfl (by decide) rfl rfl (a_gms0 hw h) ?_
        rintro _ u ⟨rfl, h⟩
        refine v_if_le_F c_189_105 (by omega) (by omega) ?_
        refine v_il7 c_189_106 ?_
        refine v_if_ge_T c_189_107 (by omega) ?_
        refine v_al0 c_189_113 ?_
        refine v_icN (n := 1) c_189_114 rfl ?_
        refine v_cVI c_189_115 rfl (by decide) rfl rfl (a_gms1 hw h) ?_
        rintro _ u ⟨rfl, h⟩
        refine v_if_le_F c_189_116 (by omega) (by omega) ?_
        refine v_il6 c_189_117 ?_
        refine v_if_le_F c_189_118 (by omega) (by omega) ?_
        refine v_il6 c_189_119 ?_
        refine v_cSi c_189_120 rfl rfl rfl (l_one g4) ?_
        refine v_il7 c_189_121 ?_
        refine v_cSi c_189_122 rfl rfl rfl (l_one d5) ?_
        refine v_icmp_gt_F c_189_123 (by omega) (by omega) (by omega) ?_
        refine v_icN (n := 1) c_189_124 rfl ?_
        refine v_goto c_189_125 ?_
        refine v_is5 c_189_127 rfl ?_
        refine v_il5 c_189_128 ?_
        refine v_if_eq_F c_189_129 (by omega) (by omega) ?_
        refine v_al0 c_189_130 ?_
        refine v_icN (n := 1) c_189_131 rfl ?_
        refine v_cVI c_189_132 rfl (by decide) rfl rfl (a_gms1 hw h) ?_
        rintro _ u ⟨rfl, h⟩
        refine v_al0 c_189_133 ?_
        refine v_icN (n := 0) c_189_134 rfl ?_
        refine v_cVI c_189_135 rfl (by decide) rfl rfl (a_gms0 hw h) ?_
        rintro _ u ⟨rfl, h⟩
        refine v_icmp_gt_F c_189_136 (by omega) (by omega) (by omega) ?_
        refine v_icN (n := 1) c_189_137 rfl ?_
        refine v_goto c_189_138 ?_
        refine v_rb (B := true) c_189_140 rfl ?_
        exact ⟨_, rfl, rfl, h⟩
end LAW3
