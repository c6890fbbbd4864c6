/-! THE LAW: its cases -/
section LCS
variable {L j : Nat} {xs : Nat → Int32} {s : zv_S} {Q : zm_O → zv_S → Prop} {y5 y6 : Option Value} {M : zM} {H : List zM} {S : Nat → Option zM} {tx : Nat → Nat} {len : Nat}
def LNX (L : Nat) (xs : Nat → Int32) (j : Nat) (s : zv_S) (Q : zm_O → zv_S → Prop) : Prop := ∀ (u : zv_S) (W' : zW) (y5 y6 : Option Value), WAw W' → RCw u W' → RMw u W' → u.2.2 ≤ s.2.2 + 1 → VV (L, xs) 206 970 [some (.float 0), some (.ref 0), some (.ref 88), some (.ref 109), some (.int (nI (4 * j))), y5, y6] [] u Q
theorem lc_0 (hL : L ≤ 2048) (hj : 4 * j + 4 ≤ L) (hW : WA M H S) (hC : RCw s (M, H, S, tx, len)) (hR : RMw s (M, H, S, tx, len)) (hn : LNX L xs j s Q) : VV (L, xs) 206 25 [some (.float 0), some (.ref 0), some (.ref 88), some (.ref 109), some (.int (nI (4 * j))), y5, y6] [] s Q := by
  obtain ⟨r, hc, hm, hx⟩ := o_app (sc := (L, xs)) (tx := tx) (len := len) hW (xs (4 * j + 1))
  refine v_al1 c_206_25 ?_
  refine v_aS0 c_206_26 ?_
  refine v_il4 c_206_27 ?_
  refine v_icN (n := 1) c_206_28 rfl ?_
  refine v_iaddN c_206_29 ?_
  refine v_sld c_206_30 (hL) (by omega) ?_
  refine v_al3 c_206_31 ?_
  refine v_cSI c_206_32 rfl rfl rfl (w_185 (hc s hC) hx) ?_
  rintro x t ht
  obtain ⟨e, hf⟩ := LX.fl ht
  have hRt := hR.fl hf
  refine v_is5 c_206_33 rfl ?_
  refine v_al2 c_206_34 ?_
  refine v_aS0 c_206_35 ?_
  refine v_il4 c_206_36 ?_
  refine v_icN (n := 1) c_206_37 rfl ?_
  refine v_iaddN c_206_38 ?_
  refine v_sld c_206_39 (hL) (by omega) ?_
  refine v_cVI c_206_40 rfl (by decide) rfl rfl (hm t hRt) ?_
  rintro y u hu
  cases r with
  | inl k =>
    obtain ⟨rfl, c1, c2⟩ := ht
    obtain ⟨m1, m2, m3⟩ := hu
    obtain ⟨k1, k2⟩ := hx
    refine v_is6 c_206_41 rfl ?_
    refine v_al2 c_206_42 ?_
    refine v_cVi c_206_43 rfl (by decide) rfl rfl (q_thr m1) ?_
    refine v_il5 c_206_44 ?_
    refine v_icmp_eq_T c_206_45 (by omega) (by omega) (by omega) ?_
    refine v_il5 c_206_48 ?_
    refine v_if_ne_T c_206_49 (by omega) (by omega) ?_
    refine v_goto c_206_59 ?_
    exact hn u (M, H, S, tx, len) _ _ hW (c1.f88 m3) m2 (by rw [m3.2, c2.2]; omega)
  | inr q =>
    obtain ⟨rfl, c0, c1, c2⟩ := ht
    obtain ⟨m1, rfl, m2, m3⟩ := hu
    have e9 : u.2.1 109 0 = q.1.toInt64 := by rw [m3.atL (by omega)]; exact c0
    refine v_is6 c_206_41 rfl ?_
    refine v_al2 c_206_42 ?_
    refine v_cVi c_206_43 rfl (by decide) rfl rfl (q_thr m1) ?_
    refine v_il5 c_206_44 ?_
    refine v_icmp_eq_T c_206_45 (by omega) (by omega) (by omega) ?_
    refine v_il5 c_206_48 ?_
    refine v_if_ne_F c_206_49 (by omega) (by omega) ?_
    refine v_al3 c_206_50 ?_
    refine v_icN (n := 0) c_206_51 rfl ?_
    refine v_aL c_206_52 rfl (by omega) (e9) ?_
    refine v_il6 c_206_53 ?_
    refine v_i2l c_206_54 ?_
    refine v_lcmp c_206_55 ?_
    refine v_if_eq_t c_206_56 (((lg_cmp_eq _ _).mpr rfl)) ?_
    refine v_goto c_206_59 ?_
    exact hn u q.2 _ _ hx (c1.f88 m3) m2 (by rw [m3.2, c2.2]; omega)
theorem lc_1 (hL : L ≤ 2048) (hj : 4 * j + 4 ≤ L) (hW : WA M H S) (hC : RCw s (M, H, S, tx, len)) (hR : RMw s (M, H, S, tx, len)) (hn : LNX L xs j s Q) : VV (L, xs) 206 60 [some (.float 0), some (.ref 0), some (.ref 88), some (.ref 109), some (.int (nI (4 * j))), y5, y6] [] s Q := by
  obtain ⟨r, hc, hm, hx⟩ := o_clr (sc := (L, xs)) (tx := tx) (len := len) hW
  match r, hc, hm, hx with
  | .inl k, _, _, hx => exact absurd hx.1 (by have := hx.2; omega)
  | .inr q, hc, hm, hx =>
    refine v_al1 c_206_60 ?_
    refine v_cVI c_206_61 rfl (by decide) rfl rfl (xc_q (hc s hC)) ?_
    rintro x t ⟨rfl, c1, c2⟩
    have hRt := hR.fl (FL.of c2)
    refine v_al2 c_206_62 ?_
    refine v_cVI c_206_63 rfl (by decide) rfl rfl (hm t hRt) ?_
    rintro y u ⟨m1, rfl, m2, m3⟩
    refine v_icmp_eq_t c_206_64 (rfl) ?_
    exact hn u q.2 _ _ hx (c1.f88 m3) m2 (by rw [m3.2, c2.2]; omega)
theorem lc_2 (hL : L ≤ 2048) (hj : 4 * j + 4 ≤ L) (hW : WA M H S) (hC : RCw s (M, H, S, tx, len)) (hR : RMw s (M, H, S, tx, len)) (hn : LNX L xs j s Q) : VV (L, xs) 206 67 [some (.float 0), some (.ref 0), some (.ref 88), some (.ref 109), some (.int (nI (4 * j))), y5, y6] [] s Q := by
  obtain ⟨r, hc, hm, hx⟩ := o_erp (sc := (L, xs)) (tx := tx) (len := len) hW
  match r, hc, hm, hx with
  | .inl k, _, _, hx => exact absurd hx.1 (by have := hx.2; omega)
  | .inr q, hc, hm, hx =>
    refine v_al1 c_206_67 ?_
    refine v_cVI c_206_68 rfl (by decide) rfl rfl (xc_q (hc s hC)) ?_
    rintro x t ⟨rfl, c1, c2⟩
    have hRt := hR.fl (FL.of c2)
    refine v_al2 c_206_69 ?_
    refine v_cVI c_206_70 rfl (by decide) rfl rfl (hm t hRt) ?_
    rintro y u ⟨m1, rfl, m2, m3⟩
    refine v_icmp_eq_t c_206_71 (rfl) ?_
    exact hn u q.2 _ _ hx (c1.f88 m3) m2 (by rw [m3.2, c2.2]; omega)
theorem lc_3 (hL : L ≤ 2048) (hj : 4 * j + 4 ≤ L) (hW : WA M H S) (hC : RCw s (M, H, S, tx, len)) (hR : RMw s (M, H, S, tx, len)) (hn : LNX L xs j s Q) : VV (L, xs) 206 74 [some (.float 0), some (.ref 0), some (.ref 88), some (.ref 109), some (.int (nI (4 * j))), y5, y6] [] s Q := by
  obtain ⟨r, hc, hm, hx⟩ := o_lod (sc := (L, xs)) (tx := tx) (len := len) hW 
  refine v_al1 c_206_74 ?_
  refine v_al3 c_206_75 ?_
  refine v_cSI c_206_76 rfl rfl rfl (w_186 (hc s hC) hx) ?_
  rintro x t ht
  obtain ⟨e, hf⟩ := LX.fl ht
  have hRt := hR.fl hf
  refine v_is5 c_206_77 rfl ?_
  refine v_al2 c_206_78 ?_
  refine v_cVI c_206_79 rfl (by decide) rfl rfl (hm t hRt) ?_
  rintro y u hu
  cases r with
  | inl k =>
    obtain ⟨rfl, c1, c2⟩ := ht
    obtain ⟨m1, m2, m3⟩ := hu
    obtain ⟨k1, k2⟩ := hx
    refine v_is6 c_206_80 rfl ?_
    refine v_al2 c_206_81 ?_
    refine v_cVi c_206_82 rfl (by decide) rfl rfl (q_thr m1) ?_
    refine v_il5 c_206_83 ?_
    refine v_icmp_eq_T c_206_84 (by omega) (by omega) (by omega) ?_
    refine v_il5 c_206_87 ?_
    refine v_if_ne_T c_206_88 (by omega) (by omega) ?_
    refine v_goto c_206_98 ?_
    exact hn u (M, H, S, tx, len) _ _ hW (c1.f88 m3) m2 (by rw [m3.2, c2.2]; omega)
  | inr q =>
    obtain ⟨rfl, c0, c1, c2⟩ := ht
    obtain ⟨m1, rfl, m2, m3⟩ := hu
    have e9 : u.2.1 109 0 = q.1.toInt64 := by rw [m3.atL (by omega)]; exact c0
    refine v_is6 c_206_80 rfl ?_
    refine v_al2 c_206_81 ?_
    refine v_cVi c_206_82 rfl (by decide) rfl rfl (q_thr m1) ?_
    refine v_il5 c_206_83 ?_
    refine v_icmp_eq_T c_206_84 (by omega) (by omega) (by omega) ?_
    refine v_il5 c_206_87 ?_
    refine v_if_ne_F c_206_88 (by omega) (by omega) ?_
    refine v_al3 c_206_89 ?_
    refine v_icN (n := 0) c_206_90 rfl ?_
    refine v_aL c_206_91 rfl (by omega) (e9) ?_
    refine v_il6 c_206_92 ?_
    refine v_i2l c_206_93 ?_
    refine v_lcmp c_206_94 ?_
    refine v_if_eq_t c_206_95 (((lg_cmp_eq _ _).mpr rfl)) ?_
    refine v_goto c_206_98 ?_
    exact hn u q.2 _ _ hx (c1.f88 m3) m2 (by rw [m3.2, c2.2]; omega)
theorem lc_4 (hL : L ≤ 2048) (hj : 4 * j + 4 ≤ L) (hW : WA M H S) (hC : RCw s (M, H, S, tx, len)) (hR : RMw s (M, H, S, tx, len)) (hn : LNX L xs j s Q) : VV (L, xs) 206 99 [some (.float 0), some (.ref 0), some (.ref 88), some (.ref 109), some (.int (nI (4 * j))), y5, y6] [] s Q := by
  obtain ⟨r, hc, hm, hx⟩ := o_abt (sc := (L, xs)) (tx := tx) (len := len) hW (xs (4 * j + 1))
  refine v_al1 c_206_99 ?_
  refine v_aS0 c_206_100 ?_
  refine v_il4 c_206_101 ?_
  refine v_icN (n := 1) c_206_102 rfl ?_
  refine v_iaddN c_206_103 ?_
  refine v_sld c_206_104 (hL) (by omega) ?_
  refine v_al3 c_206_105 ?_
  refine v_cSI c_206_106 rfl rfl rfl (w_187 (hc s hC) hx) ?_
  rintro x t ht
  obtain ⟨e, hf⟩ := LX.fl ht
  have hRt := hR.fl hf
  refine v_is5 c_206_107 rfl ?_
  refine v_al2 c_206_108 ?_
  refine v_aS0 c_206_109 ?_
  refine v_il4 c_206_110 ?_
  refine v_icN (n := 1) c_206_111 rfl ?_
  refine v_iaddN c_206_112 ?_
  refine v_sld c_206_113 (hL) (by omega) ?_
  refine v_cVI c_206_114 rfl (by decide) rfl rfl (hm t hRt) ?_
  rintro y u hu
  cases r with
  | inl k =>
    obtain ⟨rfl, c1, c2⟩ := ht
    obtain ⟨m1, m2, m3⟩ := hu
    obtain ⟨k1, k2⟩ := hx
    refine v_is6 c_206_115 rfl ?_
    refine v_al2 c_206_116 ?_
    refine v_cVi c_206_117 rfl (by decide) rfl rfl (q_thr m1) ?_
    refine v_il5 c_206_118 ?_
    refine v_icmp_eq_T c_206_119 (by omega) (by omega) (by omega) ?_
    refine v_il5 c_206_122 ?_
    refine v_if_ne_T c_206_123 (by omega) (by omega) ?_
    refine v_goto c_206_133 ?_
    exact hn u (M, H, S, tx, len) _ _ hW (c1.f88 m3) m2 (by rw [m3.2, c2.2]; omega)
  | inr q =>
    obtain ⟨rfl, c0, c1, c2⟩ := ht
    obtain ⟨m1, rfl, m2, m3⟩ := hu
    have e9 : u.2.1 109 0 = q.1.toInt64 := by rw [m3.atL (by omega)]; exact c0
    refine v_is6 c_206_115 rfl ?_
    refine v_al2 c_206_116 ?_
    refine v_cVi c_206_117 rfl (by decide) rfl rfl (q_thr m1) ?_
    refine v_il5 c_206_118 ?_
    refine v_icmp_eq_T c_206_119 (by omega) (by omega) (by omega) ?_
    refine v_il5 c_206_122 ?_
    refine v_if_ne_F c_206_123 (by omega) (by omega) ?_
    refine v_al3 c_206_124 ?_
    refine v_icN (n := 0) c_206_125 rfl ?_
    refine v_aL c_206_126 rfl (by omega) (e9) ?_
    refine v_il6 c_206_127 ?_
    refine v_i2l c_206_128 ?_
    refine v_lcmp c_206_129 ?_
    refine v_if_eq_t c_206_130 (((lg_cmp_eq _ _).mpr rfl)) ?_
    refine v_goto c_206_133 ?_
    exact hn u q.2 _ _ hx (c1.f88 m3) m2 (by rw [m3.2, c2.2]; omega)
theorem lc_5 (hL : L ≤ 2048) (hj : 4 * j + 4 ≤ L) (hW : WA M H S) (hC : RCw s (M, H, S, tx, len)) (hR : RMw s (M, H, S, tx, len)) (hn : LNX L xs j s Q) : VV (L, xs) 206 134 [some (.float 0), some (.ref 0), some (.ref 88), some (.ref 109), some (.int (nI (4 * j))), y5, y6] [] s Q := by
  obtain ⟨r, hc, hm, hx⟩ := o_tra (sc := (L, xs)) (tx := tx) (len := len) hW (xs (4 * j + 1)) (xs (4 * j + 2))
  refine v_al1 c_206_134 ?_
  refine v_aS0 c_206_135 ?_
  refine v_il4 c_206_136 ?_
  refine v_icN (n := 1) c_206_137 rfl ?_
  refine v_iaddN c_206_138 ?_
  refine v_sld c_206_139 (hL) (by omega) ?_
  refine v_aS0 c_206_140 ?_
  refine v_il4 c_206_141 ?_
  refine v_icN (n := 2) c_206_142 rfl ?_
  refine v_iaddN c_206_143 ?_
  refine v_sld c_206_144 (hL) (by omega) ?_
  refine v_al3 c_206_145 ?_
  refine v_cSI c_206_146 rfl rfl rfl (w_188 (hc s hC) hx) ?_
  rintro x t ht
  obtain ⟨e, hf⟩ := LX.fl ht
  have hRt := hR.fl hf
  refine v_is5 c_206_147 rfl ?_
  refine v_al2 c_206_148 ?_
  refine v_aS0 c_206_149 ?_
  refine v_il4 c_206_150 ?_
  refine v_icN (n := 1) c_206_151 rfl ?_
  refine v_iaddN c_206_152 ?_
  refine v_sld c_206_153 (hL) (by omega) ?_
  refine v_aS0 c_206_154 ?_
  refine v_il4 c_206_155 ?_
  refine v_icN (n := 2) c_206_156 rfl ?_
  refine v_iaddN c_206_157 ?_
  refine v_sld c_206_158 (hL) (by omega) ?_
  refine v_cVI c_206_159 rfl (by decide) rfl rfl (hm t hRt) ?_
  rintro y u hu
  cases r with
  | inl k =>
    obtain ⟨rfl, c1, c2⟩ := ht
    obtain ⟨m1, m2, m3⟩ := hu
    obtain ⟨k1, k2⟩ := hx
    refine v_is6 c_206_160 rfl ?_
    refine v_al2 c_206_161 ?_
    refine v_cVi c_206_162 rfl (by decide) rfl rfl (q_thr m1) ?_
    refine v_il5 c_206_163 ?_
    refine v_icmp_eq_T c_206_164 (by omega) (by omega) (by omega) ?_
    refine v_il5 c_206_167 ?_
    refine v_if_ne_T c_206_168 (by omega) (by omega) ?_
    refine v_goto c_206_178 ?_
    exact hn u (M, H, S, tx, len) _ _ hW (c1.f88 m3) m2 (by rw [m3.2, c2.2]; omega)
  | inr q =>
    obtain ⟨rfl, c0, c1, c2⟩ := ht
    obtain ⟨m1, rfl, m2, m3⟩ := hu
    have e9 : u.2.1 109 0 = q.1.toInt64 := by rw [m3.atL (by omega)]; exact c0
    refine v_is6 c_206_160 rfl ?_
    refine v_al2 c_206_161 ?_
    refine v_cVi c_206_162 rfl (by decide) rfl rfl (q_thr m1) ?_
    refine v_il5 c_206_163 ?_
    refine v_icmp_eq_T c_206_164 (by omega) (by omega) (by omega) ?_
    refine v_il5 c_206_167 ?_
    refine v_if_ne_F c_206_168 (by omega) (by omega) ?_
    refine v_al3 c_206_169 ?_
    refine v_icN (n := 0) c_206_170 rfl ?_
    refine v_aL c_206_171 rfl (by omega) (e9) ?_
    refine v_il6 c_206_172 ?_
    refine v_i2l c_206_173 ?_
    refine v_lcmp c_206_174 ?_
    refine v_if_eq_t c_206_175 (((lg_cmp_eq _ _).mpr rfl)) ?_
    refine v_goto c_206_178 ?_
    exact hn u q.2 _ _ hx (c1.f88 m3) m2 (by rw [m3.2, c2.2]; omega)
theorem lc_6 (hL : L ≤ 2048) (hj : 4 * j + 4 ≤ L) (hW : WA M H S) (hC : RCw s (M, H, S, tx, len)) (hR : RMw s (M, H, S, tx, len)) (hn : LNX L xs j s Q) : VV (L, xs) 206 179 [some (.float 0), some (.ref 0), some (.ref 88), some (.ref 109), some (.int (nI (4 * j))), y5, y6] [] s Q := by
  obtain ⟨r, hc, hm, hx⟩ := o_rnk (sc := (L, xs)) (tx := tx) (len := len) hW (xs (4 * j + 1)) (xs (4 * j + 2))
  refine v_al1 c_206_179 ?_
  refine v_aS0 c_206_180 ?_
  refine v_il4 c_206_181 ?_
  refine v_icN (n := 1) c_206_182 rfl ?_
  refine v_iaddN c_206_183 ?_
  refine v_sld c_206_184 (hL) (by omega) ?_
  refine v_aS0 c_206_185 ?_
  refine v_il4 c_206_186 ?_
  refine v_icN (n := 2) c_206_187 rfl ?_
  refine v_iaddN c_206_188 ?_
  refine v_sld c_206_189 (hL) (by omega) ?_
  refine v_al3 c_206_190 ?_
  refine v_cSI c_206_191 rfl rfl rfl (w_189 (hc s hC) hx) ?_
  rintro x t ht
  obtain ⟨e, hf⟩ := LX.fl ht
  have hRt := hR.fl hf
  refine v_is5 c_206_192 rfl ?_
  refine v_al2 c_206_193 ?_
  refine v_aS0 c_206_194 ?_
  refine v_il4 c_206_195 ?_
  refine v_icN (n := 1) c_206_196 rfl ?_
  refine v_iaddN c_206_197 ?_
  refine v_sld c_206_198 (hL) (by omega) ?_
  refine v_aS0 c_206_199 ?_
  refine v_il4 c_206_200 ?_
  refine v_icN (n := 2) c_206_201 rfl ?_
  refine v_iaddN c_206_202 ?_
  refine v_sld c_206_203 (hL) (by omega) ?_
  refine v_cVI c_206_204 rfl (by decide) rfl rfl (hm t hRt) ?_
  rintro y u hu
  cases r with
  | inl k =>
    obtain ⟨rfl, c1, c2⟩ := ht
    obtain ⟨m1, m2, m3⟩ := hu
    obtain ⟨k1, k2⟩ := hx
    refine v_is6 c_206_205 rfl ?_
    refine v_al2 c_206_206 ?_
    refine v_cVi c_206_207 rfl (by decide) rfl rfl (q_thr m1) ?_
    refine v_il5 c_206_208 ?_
    refine v_icmp_eq_T c_206_209 (by omega) (by omega) (by omega) ?_
    refine v_il5 c_206_212 ?_
    refine v_if_ne_T c_206_213 (by omega) (by omega) ?_
    refine v_goto c_206_223 ?_
    exact hn u (M, H, S, tx, len) _ _ hW (c1.f88 m3) m2 (by rw [m3.2, c2.2]; omega)
  | inr q =>
    obtain ⟨rfl, c0, c1, c2⟩ := ht
    obtain ⟨m1, rfl, m2, m3⟩ := hu
    have e9 : u.2.1 109 0 = q.1.toInt64 := by rw [m3.atL (by omega)]; exact c0
    refine v_is6 c_206_205 rfl ?_
    refine v_al2 c_206_206 ?_
    refine v_cVi c_206_207 rfl (by decide) rfl rfl (q_thr m1) ?_
    refine v_il5 c_206_208 ?_
    refine v_icmp_eq_T c_206_209 (by omega) (by omega) (by omega) ?_
    refine v_il5 c_206_212 ?_
    refine v_if_ne_F c_206_213 (by omega) (by omega) ?_
    refine v_al3 c_206_214 ?_
    refine v_icN (n := 0) c_206_215 rfl ?_
    refine v_aL c_206_216 rfl (by omega) (e9) ?_
    refine v_il6 c_206_217 ?_
    refine v_i2l c_206_218 ?_
    refine v_lcmp c_206_219 ?_
    refine v_if_eq_t c_206_220 (((lg_cmp_eq _ _).mpr rfl)) ?_
    refine v_goto c_206_223 ?_
    exact hn u q.2 _ _ hx (c1.f88 m3) m2 (by rw [m3.2, c2.2]; omega)
theorem lc_7 (hL : L ≤ 2048) (hj : 4 * j + 4 ≤ L) (hW : WA M H S) (hC : RCw s (M, H, S, tx, len)) (hR : RMw s (M, H, S, tx, len)) (hn : LNX L xs j s Q) : VV (L, xs) 206 224 [some (.float 0), some (.ref 0), some (.ref 88), some (.ref 109), some (.int (nI (4 * j))), y5, y6] [] s Q := by
  obtain ⟨r, hc, hm, hx⟩ := o_hld (sc := (L, xs)) (tx := tx) (len := len) hW (xs (4 * j + 1))
  refine v_al1 c_206_224 ?_
  refine v_aS0 c_206_225 ?_
  refine v_il4 c_206_226 ?_
  refine v_icN (n := 1) c_206_227 rfl ?_
  refine v_iaddN c_206_228 ?_
  refine v_sld c_206_229 (hL) (by omega) ?_
  refine v_al3 c_206_230 ?_
  refine v_cSI c_206_231 rfl rfl rfl (w_190 (hc s hC) hx) ?_
  rintro x t ht
  obtain ⟨e, hf⟩ := LX.fl ht
  have hRt := hR.fl hf
  refine v_is5 c_206_232 rfl ?_
  refine v_al2 c_206_233 ?_
  refine v_aS0 c_206_234 ?_
  refine v_il4 c_206_235 ?_
  refine v_icN (n := 1) c_206_236 rfl ?_
  refine v_iaddN c_206_237 ?_
  refine v_sld c_206_238 (hL) (by omega) ?_
  refine v_cVI c_206_239 rfl (by decide) rfl rfl (hm t hRt) ?_
  rintro y u hu
  cases r with
  | inl k =>
    obtain ⟨rfl, c1, c2⟩ := ht
    obtain ⟨m1, m2, m3⟩ := hu
    obtain ⟨k1, k2⟩ := hx
    refine v_is6 c_206_240 rfl ?_
    refine v_al2 c_206_241 ?_
    refine v_cVi c_206_242 rfl (by decide) rfl rfl (q_thr m1) ?_
    refine v_il5 c_206_243 ?_
    refine v_icmp_eq_T c_206_244 (by omega) (by omega) (by omega) ?_
    refine v_il5 c_206_247 ?_
    refine v_if_ne_T c_206_248 (by omega) (by omega) ?_
    refine v_goto c_206_258 ?_
    exact hn u (M, H, S, tx, len) _ _ hW (c1.f88 m3) m2 (by rw [m3.2, c2.2]; omega)
  | inr q =>
    obtain ⟨rfl, c0, c1, c2⟩ := ht
    obtain ⟨m1, rfl, m2, m3⟩ := hu
    have e9 : u.2.1 109 0 = q.1.toInt64 := by rw [m3.atL (by omega)]; exact c0
    refine v_is6 c_206_240 rfl ?_
    refine v_al2 c_206_241 ?_
    refine v_cVi c_206_242 rfl (by decide) rfl rfl (q_thr m1) ?_
    refine v_il5 c_206_243 ?_
    refine v_icmp_eq_T c_206_244 (by omega) (by omega) (by omega) ?_
    refine v_il5 c_206_247 ?_
    refine v_if_ne_F c_206_248 (by omega) (by omega) ?_
    refine v_al3 c_206_249 ?_
    refine v_icN (n := 0) c_206_250 rfl ?_
    refine v_aL c_206_251 rfl (by omega) (e9) ?_
    refine v_il6 c_206_252 ?_
    refine v_i2l c_206_253 ?_
    refine v_lcmp c_206_254 ?_
    refine v_if_eq_t c_206_255 (((lg_cmp_eq _ _).mpr rfl)) ?_
    refine v_goto c_206_258 ?_
    exact hn u q.2 _ _ hx (c1.f88 m3) m2 (by rw [m3.2, c2.2]; omega)
theorem lc_8 (hL : L ≤ 2048) (hj : 4 * j + 4 ≤ L) (hW : WA M H S) (hC : RCw s (M, H, S, tx, len)) (hR : RMw s (M, H, S, tx, len)) (hn : LNX L xs j s Q) : VV (L, xs) 206 259 [some (.float 0), some (.ref 0), some (.ref 88), some (.ref 109), some (.int (nI (4 * j))), y5, y6] [] s Q := by
  obtain ⟨r, hc, hm, hx⟩ := o_rng (sc := (L, xs)) (tx := tx) (len := len) hW (xs (4 * j + 1)) (xs (4 * j + 2))
  refine v_al1 c_206_259 ?_
  refine v_aS0 c_206_260 ?_
  refine v_il4 c_206_261 ?_
  refine v_icN (n := 1) c_206_262 rfl ?_
  refine v_iaddN c_206_263 ?_
  refine v_sld c_206_264 (hL) (by omega) ?_
  refine v_aS0 c_206_265 ?_
  refine v_il4 c_206_266 ?_
  refine v_icN (n := 2) c_206_267 rfl ?_
  refine v_iaddN c_206_268 ?_
  refine v_sld c_206_269 (hL) (by omega) ?_
  refine v_al3 c_206_270 ?_
  refine v_cSI c_206_271 rfl rfl rfl (w_191 (hc s hC) hx) ?_
  rintro x t ht
  obtain ⟨e, hf⟩ := LX.fl ht
  have hRt := hR.fl hf
  refine v_is5 c_206_272 rfl ?_
  refine v_al2 c_206_273 ?_
  refine v_aS0 c_206_274 ?_
  refine v_il4 c_206_275 ?_
  refine v_icN (n := 1) c_206_276 rfl ?_
  refine v_iaddN c_206_277 ?_
  refine v_sld c_206_278 (hL) (by omega) ?_
  refine v_aS0 c_206_279 ?_
  refine v_il4 c_206_280 ?_
  refine v_icN (n := 2) c_206_281 rfl ?_
  refine v_iaddN c_206_282 ?_
  refine v_sld c_206_283 (hL) (by omega) ?_
  refine v_cVI c_206_284 rfl (by decide) rfl rfl (hm t hRt) ?_
  rintro y u hu
  cases r with
  | inl k =>
    obtain ⟨rfl, c1, c2⟩ := ht
    obtain ⟨m1, m2, m3⟩ := hu
    obtain ⟨k1, k2⟩ := hx
    refine v_is6 c_206_285 rfl ?_
    refine v_al2 c_206_286 ?_
    refine v_cVi c_206_287 rfl (by decide) rfl rfl (q_thr m1) ?_
    refine v_il5 c_206_288 ?_
    refine v_icmp_eq_T c_206_289 (by omega) (by omega) (by omega) ?_
    refine v_il5 c_206_292 ?_
    refine v_if_ne_T c_206_293 (by omega) (by omega) ?_
    refine v_goto c_206_303 ?_
    exact hn u (M, H, S, tx, len) _ _ hW (c1.f88 m3) m2 (by rw [m3.2, c2.2]; omega)
  | inr q =>
    obtain ⟨rfl, c0, c1, c2⟩ := ht
    obtain ⟨m1, rfl, m2, m3⟩ := hu
    have e9 : u.2.1 109 0 = q.1.toInt64 := by rw [m3.atL (by omega)]; exact c0
    refine v_is6 c_206_285 rfl ?_
    refine v_al2 c_206_286 ?_
    refine v_cVi c_206_287 rfl (by decide) rfl rfl (q_thr m1) ?_
    refine v_il5 c_206_288 ?_
    refine v_icmp_eq_T c_206_289 (by omega) (by omega) (by omega) ?_
    refine v_il5 c_206_292 ?_
    refine v_if_ne_F c_206_293 (by omega) (by omega) ?_
    refine v_al3 c_206_294 ?_
    refine v_icN (n := 0) c_206_295 rfl ?_
    refine v_aL c_206_296 rfl (by omega) (e9) ?_
    refine v_il6 c_206_297 ?_
    refine v_i2l c_206_298 ?_
    refine v_lcmp c_206_299 ?_
    refine v_if_eq_t c_206_300 (((lg_cmp_eq _ _).mpr rfl)) ?_
    refine v_goto c_206_303 ?_
    exact hn u q.2 _ _ hx (c1.f88 m3) m2 (by rw [m3.2, c2.2]; omega)
theorem lc_9 (hL : L ≤ 2048) (hj : 4 * j + 4 ≤ L) (hW : WA M H S) (hC : RCw s (M, H, S, tx, len)) (hR : RMw s (M, H, S, tx, len)) (hn : LNX L xs j s Q) : VV (L, xs) 206 304 [some (.float 0), some (.ref 0), some (.ref 88), some (.ref 109), some (.int (nI (4 * j))), y5, y6] [] s Q := by
  obtain ⟨r, hc, hm, hx⟩ := o_why (sc := (L, xs)) (tx := tx) (len := len) hW (xs (4 * j + 1)) (xs (4 * j + 2))
  refine v_al1 c_206_304 ?_
  refine v_aS0 c_206_305 ?_
  refine v_il4 c_206_306 ?_
  refine v_icN (n := 1) c_206_307 rfl ?_
  refine v_iaddN c_206_308 ?_
  refine v_sld c_206_309 (hL) (by omega) ?_
  refine v_aS0 c_206_310 ?_
  refine v_il4 c_206_311 ?_
  refine v_icN (n := 2) c_206_312 rfl ?_
  refine v_iaddN c_206_313 ?_
  refine v_sld c_206_314 (hL) (by omega) ?_
  refine v_al3 c_206_315 ?_
  refine v_cSI c_206_316 rfl rfl rfl (w_192 (hc s hC) hx) ?_
  rintro x t ht
  obtain ⟨e, hf⟩ := LX.fl ht
  have hRt := hR.fl hf
  refine v_is5 c_206_317 rfl ?_
  refine v_al2 c_206_318 ?_
  refine v_aS0 c_206_319 ?_
  refine v_il4 c_206_320 ?_
  refine v_icN (n := 1) c_206_321 rfl ?_
  refine v_iaddN c_206_322 ?_
  refine v_sld c_206_323 (hL) (by omega) ?_
  refine v_aS0 c_206_324 ?_
  refine v_il4 c_206_325 ?_
  refine v_icN (n := 2) c_206_326 rfl ?_
  refine v_iaddN c_206_327 ?_
  refine v_sld c_206_328 (hL) (by omega) ?_
  refine v_cVI c_206_329 rfl (by decide) rfl rfl (hm t hRt) ?_
  rintro y u hu
  cases r with
  | inl k =>
    obtain ⟨rfl, c1, c2⟩ := ht
    obtain ⟨m1, m2, m3⟩ := hu
    obtain ⟨k1, k2⟩ := hx
    refine v_is6 c_206_330 rfl ?_
    refine v_al2 c_206_331 ?_
    refine v_cVi c_206_332 rfl (by decide) rfl rfl (q_thr m1) ?_
    refine v_il5 c_206_333 ?_
    refine v_icmp_eq_T c_206_334 (by omega) (by omega) (by omega) ?_
    refine v_il5 c_206_337 ?_
    refine v_if_ne_T c_206_338 (by omega) (by omega) ?_
    refine v_goto c_206_348 ?_
    exact hn u (M, H, S, tx, len) _ _ hW (c1.f88 m3) m2 (by rw [m3.2, c2.2]; omega)
  | inr q =>
    obtain ⟨rfl, c0, c1, c2⟩ := ht
    obtain ⟨m1, rfl, m2, m3⟩ := hu
    have e9 : u.2.1 109 0 = q.1.toInt64 := by rw [m3.atL (by omega)]; exact c0
    refine v_is6 c_206_330 rfl ?_
    refine v_al2 c_206_331 ?_
    refine v_cVi c_206_332 rfl (by decide) rfl rfl (q_thr m1) ?_
    refine v_il5 c_206_333 ?_
    refine v_icmp_eq_T c_206_334 (by omega) (by omega) (by omega) ?_
    refine v_il5 c_206_337 ?_
    refine v_if_ne_F c_206_338 (by omega) (by omega) ?_
    refine v_al3 c_206_339 ?_
    refine v_icN (n := 0) c_206_340 rfl ?_
    refine v_aL c_206_341 rfl (by omega) (e9) ?_
    refine v_il6 c_206_342 ?_
    refine v_i2l c_206_343 ?_
    refine v_lcmp c_206_344 ?_
    refine v_if_eq_t c_206_345 (((lg_cmp_eq _ _).mpr rfl)) ?_
    refine v_goto c_206_348 ?_
    exact hn u q.2 _ _ hx (c1.f88 m3) m2 (by rw [m3.2, c2.2]; omega)
theorem lc_10 (hL : L ≤ 2048) (hj : 4 * j + 4 ≤ L) (hW : WA M H S) (hC : RCw s (M, H, S, tx, len)) (hR : RMw s (M, H, S, tx, len)) (hn : LNX L xs j s Q) : VV (L, xs) 206 349 [some (.float 0), some (.ref 0), some (.ref 88), some (.ref 109), some (.int (nI (4 * j))), y5, y6] [] s Q := by
  obtain ⟨r, hc, hm, hx⟩ := o_add (sc := (L, xs)) (tx := tx) (len := len) hW 
  refine v_al1 c_206_349 ?_
  refine v_al3 c_206_350 ?_
  refine v_cSI c_206_351 rfl rfl rfl (w_193 (hc s hC) hx) ?_
  rintro x t ht
  obtain ⟨e, hf⟩ := LX.fl ht
  have hRt := hR.fl hf
  refine v_is5 c_206_352 rfl ?_
  refine v_al2 c_206_353 ?_
  refine v_cVI c_206_354 rfl (by decide) rfl rfl (hm t hRt) ?_
  rintro y u hu
  cases r with
  | inl k =>
    obtain ⟨rfl, c1, c2⟩ := ht
    obtain ⟨m1, m2, m3⟩ := hu
    obtain ⟨k1, k2⟩ := hx
    refine v_is6 c_206_355 rfl ?_
    refine v_al2 c_206_356 ?_
    refine v_cVi c_206_357 rfl (by decide) rfl rfl (q_thr m1) ?_
    refine v_il5 c_206_358 ?_
    refine v_icmp_eq_T c_206_359 (by omega) (by omega) (by omega) ?_
    refine v_il5 c_206_362 ?_
    refine v_if_ne_T c_206_363 (by omega) (by omega) ?_
    refine v_goto c_206_373 ?_
    exact hn u (M, H, S, tx, len) _ _ hW (c1.f88 m3) m2 (by rw [m3.2, c2.2]; omega)
  | inr q =>
    obtain ⟨rfl, c0, c1, c2⟩ := ht
    obtain ⟨m1, rfl, m2, m3⟩ := hu
    have e9 : u.2.1 109 0 = q.1.toInt64 := by rw [m3.atL (by omega)]; exact c0
    refine v_is6 c_206_355 rfl ?_
    refine v_al2 c_206_356 ?_
    refine v_cVi c_206_357 rfl (by decide) rfl rfl (q_thr m1) ?_
    refine v_il5 c_206_358 ?_
    refine v_icmp_eq_T c_206_359 (by omega) (by omega) (by omega) ?_
    refine v_il5 c_206_362 ?_
    refine v_if_ne_F c_206_363 (by omega) (by omega) ?_
    refine v_al3 c_206_364 ?_
    refine v_icN (n := 0) c_206_365 rfl ?_
    refine v_aL c_206_366 rfl (by omega) (e9) ?_
    refine v_il6 c_206_367 ?_
    refine v_i2l c_206_368 ?_
    refine v_lcmp c_206_369 ?_
    refine v_if_eq_t c_206_370 (((lg_cmp_eq _ _).mpr rfl)) ?_
    refine v_goto c_206_373 ?_
    exact hn u q.2 _ _ hx (c1.f88 m3) m2 (by rw [m3.2, c2.2]; omega)
theorem lc_11 (hL : L ≤ 2048) (hj : 4 * j + 4 ≤ L) (hW : WA M H S) (hC : RCw s (M, H, S, tx, len)) (hR : RMw s (M, H, S, tx, len)) (hn : LNX L xs j s Q) : VV (L, xs) 206 374 [some (.float 0), some (.ref 0), some (.ref 88), some (.ref 109), some (.int (nI (4 * j))), y5, y6] [] s Q := by
  obtain ⟨r, hc, hm, hx⟩ := o_srk (sc := (L, xs)) (tx := tx) (len := len) hW (xs (4 * j + 1)) (xs (4 * j + 2)) (xs (4 * j + 3))
  refine v_al1 c_206_374 ?_
  refine v_aS0 c_206_375 ?_
  refine v_il4 c_206_376 ?_
  refine v_icN (n := 1) c_206_377 rfl ?_
  refine v_iaddN c_206_378 ?_
  refine v_sld c_206_379 (hL) (by omega) ?_
  refine v_aS0 c_206_380 ?_
  refine v_il4 c_206_381 ?_
  refine v_icN (n := 2) c_206_382 rfl ?_
  refine v_iaddN c_206_383 ?_
  refine v_sld c_206_384 (hL) (by omega) ?_
  refine v_aS0 c_206_385 ?_
  refine v_il4 c_206_386 ?_
  refine v_icN (n := 3) c_206_387 rfl ?_
  refine v_iaddN c_206_388 ?_
  refine v_sld c_206_389 (hL) (by omega) ?_
  refine v_al3 c_206_390 ?_
  refine v_cSI c_206_391 rfl rfl rfl (w_194 (hc s hC) hx) ?_
  rintro x t ht
  obtain ⟨e, hf⟩ := LX.fl ht
  have hRt := hR.fl hf
  refine v_is5 c_206_392 rfl ?_
  refine v_al2 c_206_393 ?_
  refine v_aS0 c_206_394 ?_
  refine v_il4 c_206_395 ?_
  refine v_icN (n := 1) c_206_396 rfl ?_
  refine v_iaddN c_206_397 ?_
  refine v_sld c_206_398 (hL) (by omega) ?_
  refine v_aS0 c_206_399 ?_
  refine v_il4 c_206_400 ?_
  refine v_icN (n := 2) c_206_401 rfl ?_
  refine v_iaddN c_206_402 ?_
  refine v_sld c_206_403 (hL) (by omega) ?_
  refine v_aS0 c_206_404 ?_
  refine v_il4 c_206_405 ?_
  refine v_icN (n := 3) c_206_406 rfl ?_
  refine v_iaddN c_206_407 ?_
  refine v_sld c_206_408 (hL) (by omega) ?_
  refine v_cVI c_206_409 rfl (by decide) rfl rfl (hm t hRt) ?_
  rintro y u hu
  cases r with
  | inl k =>
    obtain ⟨rfl, c1, c2⟩ := ht
    obtain ⟨m1, m2, m3⟩ := hu
    obtain ⟨k1, k2⟩ := hx
    refine v_is6 c_206_410 rfl ?_
    refine v_al2 c_206_411 ?_
    refine v_cVi c_206_412 rfl (by decide) rfl rfl (q_thr m1) ?_
    refine v_il5 c_206_413 ?_
    refine v_icmp_eq_T c_206_414 (by omega) (by omega) (by omega) ?_
    refine v_il5 c_206_417 ?_
    refine v_if_ne_T c_206_418 (by omega) (by omega) ?_
    refine v_goto c_206_428 ?_
    exact hn u (M, H, S, tx, len) _ _ hW (c1.f88 m3) m2 (by rw [m3.2, c2.2]; omega)
  | inr q =>
    obtain ⟨rfl, c0, c1, c2⟩ := ht
    obtain ⟨m1, rfl, m2, m3⟩ := hu
    have e9 : u.2.1 109 0 = q.1.toInt64 := by rw [m3.atL (by omega)]; exact c0
    refine v_is6 c_206_410 rfl ?_
    refine v_al2 c_206_411 ?_
    refine v_cVi c_206_412 rfl (by decide) rfl rfl (q_thr m1) ?_
    refine v_il5 c_206_413 ?_
    refine v_icmp_eq_T c_206_414 (by omega) (by omega) (by omega) ?_
    refine v_il5 c_206_417 ?_
    refine v_if_ne_F c_206_418 (by omega) (by omega) ?_
    refine v_al3 c_206_419 ?_
    refine v_icN (n := 0) c_206_420 rfl ?_
    refine v_aL c_206_421 rfl (by omega) (e9) ?_
    refine v_il6 c_206_422 ?_
    refine v_i2l c_206_423 ?_
    refine v_lcmp c_206_424 ?_
    refine v_if_eq_t c_206_425 (((lg_cmp_eq _ _).mpr rfl)) ?_
    refine v_goto c_206_428 ?_
    exact hn u q.2 _ _ hx (c1.f88 m3) m2 (by rw [m3.2, c2.2]; omega)
theorem lc_12 (hL : L ≤ 2048) (hj : 4 * j + 4 ≤ L) (hW : WA M H S) (hC : RCw s (M, H, S, tx, len)) (hR : RMw s (M, H, S, tx, len)) (hn : LNX L xs j s Q) : VV (L, xs) 206 429 [some (.float 0), some (.ref 0), some (.ref 88), some (.ref 109), some (.int (nI (4 * j))), y5, y6] [] s Q := by
  obtain ⟨r, hc, hm, hx⟩ := o_exc (sc := (L, xs)) (tx := tx) (len := len) hW (xs (4 * j + 1)) (xs (4 * j + 2))
  refine v_al1 c_206_429 ?_
  refine v_aS0 c_206_430 ?_
  refine v_il4 c_206_431 ?_
  refine v_icN (n := 1) c_206_432 rfl ?_
  refine v_iaddN c_206_433 ?_
  refine v_sld c_206_434 (hL) (by omega) ?_
  refine v_aS0 c_206_435 ?_
  refine v_il4 c_206_436 ?_
  refine v_icN (n := 2) c_206_437 rfl ?_
  refine v_iaddN c_206_438 ?_
  refine v_sld c_206_439 (hL) (by omega) ?_
  refine v_al3 c_206_440 ?_
  refine v_cSI c_206_441 rfl rfl rfl (w_195 (hc s hC) hx) ?_
  rintro x t ht
  obtain ⟨e, hf⟩ := LX.fl ht
  have hRt := hR.fl hf
  refine v_is5 c_206_442 rfl ?_
  refine v_al2 c_206_443 ?_
  refine v_aS0 c_206_444 ?_
  refine v_il4 c_206_445 ?_
  refine v_icN (n := 1) c_206_446 rfl ?_
  refine v_iaddN c_206_447 ?_
  refine v_sld c_206_448 (hL) (by omega) ?_
  refine v_aS0 c_206_449 ?_
  refine v_il4 c_206_450 ?_
  refine v_icN (n := 2) c_206_451 rfl ?_
  refine v_iaddN c_206_452 ?_
  refine v_sld c_206_453 (hL) (by omega) ?_
  refine v_cVI c_206_454 rfl (by decide) rfl rfl (hm t hRt) ?_
  rintro y u hu
  cases r with
  | inl k =>
    obtain ⟨rfl, c1, c2⟩ := ht
    obtain ⟨m1, m2, m3⟩ := hu
    obtain ⟨k1, k2⟩ := hx
    refine v_is6 c_206_455 rfl ?_
    refine v_al2 c_206_456 ?_
    refine v_cVi c_206_457 rfl (by decide) rfl rfl (q_thr m1) ?_
    refine v_il5 c_206_458 ?_
    refine v_icmp_eq_T c_206_459 (by omega) (by omega) (by omega) ?_
    refine v_il5 c_206_462 ?_
    refine v_if_ne_T c_206_463 (by omega) (by omega) ?_
    refine v_goto c_206_473 ?_
    exact hn u (M, H, S, tx, len) _ _ hW (c1.f88 m3) m2 (by rw [m3.2, c2.2]; omega)
  | inr q =>
    obtain ⟨rfl, c0, c1, c2⟩ := ht
    obtain ⟨m1, rfl, m2, m3⟩ := hu
    have e9 : u.2.1 109 0 = q.1.toInt64 := by rw [m3.atL (by omega)]; exact c0
    refine v_is6 c_206_455 rfl ?_
    refine v_al2 c_206_456 ?_
    refine v_cVi c_206_457 rfl (by decide) rfl rfl (q_thr m1) ?_
    refine v_il5 c_206_458 ?_
    refine v_icmp_eq_T c_206_459 (by omega) (by omega) (by omega) ?_
    refine v_il5 c_206_462 ?_
    refine v_if_ne_F c_206_463 (by omega) (by omega) ?_
    refine v_al3 c_206_464 ?_
    refine v_icN (n := 0) c_206_465 rfl ?_
    refine v_aL c_206_466 rfl (by omega) (e9) ?_
    refine v_il6 c_206_467 ?_
    refine v_i2l c_206_468 ?_
    refine v_lcmp c_206_469 ?_
    refine v_if_eq_t c_206_470 (((lg_cmp_eq _ _).mpr rfl)) ?_
    refine v_goto c_206_473 ?_
    exact hn u q.2 _ _ hx (c1.f88 m3) m2 (by rw [m3.2, c2.2]; omega)
theorem lc_13 (hL : L ≤ 2048) (hj : 4 * j + 4 ≤ L) (hW : WA M H S) (hC : RCw s (M, H, S, tx, len)) (hR : RMw s (M, H, S, tx, len)) (hn : LNX L xs j s Q) : VV (L, xs) 206 474 [some (.float 0), some (.ref 0), some (.ref 88), some (.ref 109), some (.int (nI (4 * j))), y5, y6] [] s Q := by
  obtain ⟨r, hc, hm, hx⟩ := o_drg (sc := (L, xs)) (tx := tx) (len := len) hW (xs (4 * j + 1))
  refine v_al1 c_206_474 ?_
  refine v_aS0 c_206_475 ?_
  refine v_il4 c_206_476 ?_
  refine v_icN (n := 1) c_206_477 rfl ?_
  refine v_iaddN c_206_478 ?_
  refine v_sld c_206_479 (hL) (by omega) ?_
  refine v_al3 c_206_480 ?_
  refine v_cSI c_206_481 rfl rfl rfl (w_196 (hc s hC) hx) ?_
  rintro x t ht
  obtain ⟨e, hf⟩ := LX.fl ht
  have hRt := hR.fl hf
  refine v_is5 c_206_482 rfl ?_
  refine v_al2 c_206_483 ?_
  refine v_aS0 c_206_484 ?_
  refine v_il4 c_206_485 ?_
  refine v_icN (n := 1) c_206_486 rfl ?_
  refine v_iaddN c_206_487 ?_
  refine v_sld c_206_488 (hL) (by omega) ?_
  refine v_cVI c_206_489 rfl (by decide) rfl rfl (hm t hRt) ?_
  rintro y u hu
  cases r with
  | inl k =>
    obtain ⟨rfl, c1, c2⟩ := ht
    obtain ⟨m1, m2, m3⟩ := hu
    obtain ⟨k1, k2⟩ := hx
    refine v_is6 c_206_490 rfl ?_
    refine v_al2 c_206_491 ?_
    refine v_cVi c_206_492 rfl (by decide) rfl rfl (q_thr m1) ?_
    refine v_il5 c_206_493 ?_
    refine v_icmp_eq_T c_206_494 (by omega) (by omega) (by omega) ?_
    refine v_il5 c_206_497 ?_
    refine v_if_ne_T c_206_498 (by omega) (by omega) ?_
    refine v_goto c_206_508 ?_
    exact hn u (M, H, S, tx, len) _ _ hW (c1.f88 m3) m2 (by rw [m3.2, c2.2]; omega)
  | inr q =>
    obtain ⟨rfl, c0, c1, c2⟩ := ht
    obtain ⟨m1, rfl, m2, m3⟩ := hu
    have e9 : u.2.1 109 0 = q.1.toInt64 := by rw [m3.atL (by omega)]; exact c0
    refine v_is6 c_206_490 rfl ?_
    refine v_al2 c_206_491 ?_
    refine v_cVi c_206_492 rfl (by decide) rfl rfl (q_thr m1) ?_
    refine v_il5 c_206_493 ?_
    refine v_icmp_eq_T c_206_494 (by omega) (by omega) (by omega) ?_
    refine v_il5 c_206_497 ?_
    refine v_if_ne_F c_206_498 (by omega) (by omega) ?_
    refine v_al3 c_206_499 ?_
    refine v_icN (n := 0) c_206_500 rfl ?_
    refine v_aL c_206_501 rfl (by omega) (e9) ?_
    refine v_il6 c_206_502 ?_
    refine v_i2l c_206_503 ?_
    refine v_lcmp c_206_504 ?_
    refine v_if_eq_t c_206_505 (((lg_cmp_eq _ _).mpr rfl)) ?_
    refine v_goto c_206_508 ?_
    exact hn u q.2 _ _ hx (c1.f88 m3) m2 (by rw [m3.2, c2.2]; omega)
theorem lc_14 (hL : L ≤ 2048) (hj : 4 * j + 4 ≤ L) (hW : WA M H S) (hC : RCw s (M, H, S, tx, len)) (hR : RMw s (M, H, S, tx, len)) (hn : LNX L xs j s Q) : VV (L, xs) 206 509 [some (.float 0), some (.ref 0), some (.ref 88), some (.ref 109), some (.int (nI (4 * j))), y5, y6] [] s Q := by
  obtain ⟨r, hc, hm, hx⟩ := o_trd (sc := (L, xs)) (tx := tx) (len := len) hW
  match r, hc, hm, hx with
  | .inl k, _, _, hx => exact absurd hx.1 (by have := hx.2; omega)
  | .inr q, hc, hm, hx =>
    refine v_al1 c_206_509 ?_
    refine v_cVI c_206_510 rfl (by decide) rfl rfl (xc_q (hc s hC)) ?_
    rintro x t ⟨rfl, c1, c2⟩
    have hRt := hR.fl (FL.of c2)
    refine v_al2 c_206_511 ?_
    refine v_cVI c_206_512 rfl (by decide) rfl rfl (hm t hRt) ?_
    rintro y u ⟨m1, rfl, m2, m3⟩
    refine v_icmp_eq_t c_206_513 (rfl) ?_
    exact hn u q.2 _ _ hx (c1.f88 m3) m2 (by rw [m3.2, c2.2]; omega)
theorem lc_15 (hL : L ≤ 2048) (hj : 4 * j + 4 ≤ L) (hW : WA M H S) (hC : RCw s (M, H, S, tx, len)) (hR : RMw s (M, H, S, tx, len)) (hn : LNX L xs j s Q) : VV (L, xs) 206 516 [some (.float 0), some (.ref 0), some (.ref 88), some (.ref 109), some (.int (nI (4 * j))), y5, y6] [] s Q := by
  obtain ⟨r, hc, hm, hx⟩ := o_lea (sc := (L, xs)) (tx := tx) (len := len) hW (xs (4 * j + 1))
  refine v_al1 c_206_516 ?_
  refine v_aS0 c_206_517 ?_
  refine v_il4 c_206_518 ?_
  refine v_icN (n := 1) c_206_519 rfl ?_
  refine v_iaddN c_206_520 ?_
  refine v_sld c_206_521 (hL) (by omega) ?_
  refine v_al3 c_206_522 ?_
  refine v_cSI c_206_523 rfl rfl rfl (w_197 (hc s hC) hx) ?_
  rintro x t ht
  obtain ⟨e, hf⟩ := LX.fl ht
  have hRt := hR.fl hf
  refine v_is5 c_206_524 rfl ?_
  refine v_al2 c_206_525 ?_
  refine v_aS0 c_206_526 ?_
  refine v_il4 c_206_527 ?_
  refine v_icN (n := 1) c_206_528 rfl ?_
  refine v_iaddN c_206_529 ?_
  refine v_sld c_206_530 (hL) (by omega) ?_
  refine v_cVI c_206_531 rfl (by decide) rfl rfl (hm t hRt) ?_
  rintro y u hu
  cases r with
  | inl k =>
    obtain ⟨rfl, c1, c2⟩ := ht
    obtain ⟨m1, m2, m3⟩ := hu
    obtain ⟨k1, k2⟩ := hx
    refine v_is6 c_206_532 rfl ?_
    refine v_al2 c_206_533 ?_
    refine v_cVi c_206_534 rfl (by decide) rfl rfl (q_thr m1) ?_
    refine v_il5 c_206_535 ?_
    refine v_icmp_eq_T c_206_536 (by omega) (by omega) (by omega) ?_
    refine v_il5 c_206_539 ?_
    refine v_if_ne_T c_206_540 (by omega) (by omega) ?_
    refine v_goto c_206_550 ?_
    exact hn u (M, H, S, tx, len) _ _ hW (c1.f88 m3) m2 (by rw [m3.2, c2.2]; omega)
  | inr q =>
    obtain ⟨rfl, c0, c1, c2⟩ := ht
    obtain ⟨m1, rfl, m2, m3⟩ := hu
    have e9 : u.2.1 109 0 = q.1.toInt64 := by rw [m3.atL (by omega)]; exact c0
    refine v_is6 c_206_532 rfl ?_
    refine v_al2 c_206_533 ?_
    refine v_cVi c_206_534 rfl (by decide) rfl rfl (q_thr m1) ?_
    refine v_il5 c_206_535 ?_
    refine v_icmp_eq_T c_206_536 (by omega) (by omega) (by omega) ?_
    refine v_il5 c_206_539 ?_
    refine v_if_ne_F c_206_540 (by omega) (by omega) ?_
    refine v_al3 c_206_541 ?_
    refine v_icN (n := 0) c_206_542 rfl ?_
    refine v_aL c_206_543 rfl (by omega) (e9) ?_
    refine v_il6 c_206_544 ?_
    refine v_i2l c_206_545 ?_
    refine v_lcmp c_206_546 ?_
    refine v_if_eq_t c_206_547 (((lg_cmp_eq _ _).mpr rfl)) ?_
    refine v_goto c_206_550 ?_
    exact hn u q.2 _ _ hx (c1.f88 m3) m2 (by rw [m3.2, c2.2]; omega)
theorem lc_16 (hL : L ≤ 2048) (hj : 4 * j + 4 ≤ L) (hW : WA M H S) (hC : RCw s (M, H, S, tx, len)) (hR : RMw s (M, H, S, tx, len)) (hn : LNX L xs j s Q) : VV (L, xs) 206 551 [some (.float 0), some (.ref 0), some (.ref 88), some (.ref 109), some (.int (nI (4 * j))), y5, y6] [] s Q := by
  obtain ⟨r, hc, hm, hx⟩ := o_hom (sc := (L, xs)) (tx := tx) (len := len) hW
  match r, hc, hm, hx with
  | .inl k, _, _, hx => exact absurd hx.1 (by have := hx.2; omega)
  | .inr q, hc, hm, hx =>
    refine v_al1 c_206_551 ?_
    refine v_cVI c_206_552 rfl (by decide) rfl rfl (xc_q (hc s hC)) ?_
    rintro x t ⟨rfl, c1, c2⟩
    have hRt := hR.fl (FL.of c2)
    refine v_al2 c_206_553 ?_
    refine v_cVI c_206_554 rfl (by decide) rfl rfl (hm t hRt) ?_
    rintro y u ⟨m1, rfl, m2, m3⟩
    refine v_icmp_eq_t c_206_555 (rfl) ?_
    exact hn u q.2 _ _ hx (c1.f88 m3) m2 (by rw [m3.2, c2.2]; omega)
theorem lc_17 (hL : L ≤ 2048) (hj : 4 * j + 4 ≤ L) (hW : WA M H S) (hC : RCw s (M, H, S, tx, len)) (hR : RMw s (M, H, S, tx, len)) (hn : LNX L xs j s Q) : VV (L, xs) 206 558 [some (.float 0), some (.ref 0), some (.ref 88), some (.ref 109), some (.int (nI (4 * j))), y5, y6] [] s Q := by
  obtain ⟨r, hc, hm, hx⟩ := o_und (sc := (L, xs)) (tx := tx) (len := len) hW 
  refine v_al1 c_206_558 ?_
  refine v_al3 c_206_559 ?_
  refine v_cSI c_206_560 rfl rfl rfl (w_198 (hc s hC) hx) ?_
  rintro x t ht
  obtain ⟨e, hf⟩ := LX.fl ht
  have hRt := hR.fl hf
  refine v_is5 c_206_561 rfl ?_
  refine v_al2 c_206_562 ?_
  refine v_cVI c_206_563 rfl (by decide) rfl rfl (hm t hRt) ?_
  rintro y u hu
  cases r with
  | inl k =>
    obtain ⟨rfl, c1, c2⟩ := ht
    obtain ⟨m1, m2, m3⟩ := hu
    obtain ⟨k1, k2⟩ := hx
    refine v_is6 c_206_564 rfl ?_
    refine v_al2 c_206_565 ?_
    refine v_cVi c_206_566 rfl (by decide) rfl rfl (q_thr m1) ?_
    refine v_il5 c_206_567 ?_
    refine v_icmp_eq_T c_206_568 (by omega) (by omega) (by omega) ?_
    refine v_il5 c_206_571 ?_
    refine v_if_ne_T c_206_572 (by omega) (by omega) ?_
    refine v_goto c_206_582 ?_
    exact hn u (M, H, S, tx, len) _ _ hW (c1.f88 m3) m2 (by rw [m3.2, c2.2]; omega)
  | inr q =>
    obtain ⟨rfl, c0, c1, c2⟩ := ht
    obtain ⟨m1, rfl, m2, m3⟩ := hu
    have e9 : u.2.1 109 0 = q.1.toInt64 := by rw [m3.atL (by omega)]; exact c0
    refine v_is6 c_206_564 rfl ?_
    refine v_al2 c_206_565 ?_
    refine v_cVi c_206_566 rfl (by decide) rfl rfl (q_thr m1) ?_
    refine v_il5 c_206_567 ?_
    refine v_icmp_eq_T c_206_568 (by omega) (by omega) (by omega) ?_
    refine v_il5 c_206_571 ?_
    refine v_if_ne_F c_206_572 (by omega) (by omega) ?_
    refine v_al3 c_206_573 ?_
    refine v_icN (n := 0) c_206_574 rfl ?_
    refine v_aL c_206_575 rfl (by omega) (e9) ?_
    refine v_il6 c_206_576 ?_
    refine v_i2l c_206_577 ?_
    refine v_lcmp c_206_578 ?_
    refine v_if_eq_t c_206_579 (((lg_cmp_eq _ _).mpr rfl)) ?_
    refine v_goto c_206_582 ?_
    exact hn u q.2 _ _ hx (c1.f88 m3) m2 (by rw [m3.2, c2.2]; omega)
theorem lc_18 (hL : L ≤ 2048) (hj : 4 * j + 4 ≤ L) (hW : WA M H S) (hC : RCw s (M, H, S, tx, len)) (hR : RMw s (M, H, S, tx, len)) (hn : LNX L xs j s Q) : VV (L, xs) 206 583 [some (.float 0), some (.ref 0), some (.ref 88), some (.ref 109), some (.int (nI (4 * j))), y5, y6] [] s Q := by
  by_cases h0 : xs (4 * j + 1) = 0
  · obtain ⟨r, hc, hm, hx⟩ := o_grp (sc := (L, xs)) (tx := tx) (len := len) hW false
    match r, hc, hm, hx with
    | .inl k, _, _, hx => exact absurd hx.1 (by have := hx.2; omega)
    | .inr q, hc, hm, hx =>
      refine v_al1 c_206_583 ?_
      refine v_aS0 c_206_584 ?_
      refine v_il4 c_206_585 ?_
      refine v_icN (n := 1) c_206_586 rfl ?_
      refine v_iaddN c_206_587 ?_
      refine v_sld c_206_588 (hL) (by omega) ?_
      refine v_if_eq_t c_206_589 (h0) ?_
      refine v_icN (n := 0) c_206_592 rfl ?_
      refine v_cVI c_206_593 rfl (by decide) rfl rfl (xc_q (hc s hC)) ?_
      rintro x t ⟨rfl, c1, c2⟩
      have hRt := hR.fl (FL.of c2)
      refine v_al2 c_206_594 ?_
      refine v_aS0 c_206_595 ?_
      refine v_il4 c_206_596 ?_
      refine v_icN (n := 1) c_206_597 rfl ?_
      refine v_iaddN c_206_598 ?_
      refine v_sld c_206_599 (hL) (by omega) ?_
      refine v_if_eq_t c_206_600 (h0) ?_
      refine v_icN (n := 0) c_206_603 rfl ?_
      refine v_cVI c_206_604 rfl (by decide) rfl rfl (hm t hRt) ?_
      rintro y u ⟨m1, rfl, m2, m3⟩
      refine v_icmp_eq_t c_206_605 (rfl) ?_
      exact hn u q.2 _ _ hx (c1.f88 m3) m2 (by rw [m3.2, c2.2]; omega)
  · obtain ⟨r, hc, hm, hx⟩ := o_grp (sc := (L, xs)) (tx := tx) (len := len) hW true
    match r, hc, hm, hx with
    | .inl k, _, _, hx => exact absurd hx.1 (by have := hx.2; omega)
    | .inr q, hc, hm, hx =>
      refine v_al1 c_206_583 ?_
      refine v_aS0 c_206_584 ?_
      refine v_il4 c_206_585 ?_
      refine v_icN (n := 1) c_206_586 rfl ?_
      refine v_iaddN c_206_587 ?_
      refine v_sld c_206_588 (hL) (by omega) ?_
      refine v_if_eq_f c_206_589 (h0) ?_
      refine v_icN (n := 1) c_206_590 rfl ?_
      refine v_goto c_206_591 ?_
      refine v_cVI c_206_593 rfl (by decide) rfl rfl (xc_q (hc s hC)) ?_
      rintro x t ⟨rfl, c1, c2⟩
      have hRt := hR.fl (FL.of c2)
      refine v_al2 c_206_594 ?_
      refine v_aS0 c_206_595 ?_
      refine v_il4 c_206_596 ?_
      refine v_icN (n := 1) c_206_597 rfl ?_
      refine v_iaddN c_206_598 ?_
      refine v_sld c_206_599 (hL) (by omega) ?_
      refine v_if_eq_f c_206_600 (h0) ?_
      refine v_icN (n := 1) c_206_601 rfl ?_
      refine v_goto c_206_602 ?_
      refine v_cVI c_206_604 rfl (by decide) rfl rfl (hm t hRt) ?_
      rintro y u ⟨m1, rfl, m2, m3⟩
      refine v_icmp_eq_t c_206_605 (rfl) ?_
      exact hn u q.2 _ _ hx (c1.f88 m3) m2 (by rw [m3.2, c2.2]; omega)
theorem lc_19 (hL : L ≤ 2048) (hj : 4 * j + 4 ≤ L) (hW : WA M H S) (hC : RCw s (M, H, S, tx, len)) (hR : RMw s (M, H, S, tx, len)) (hn : LNX L xs j s Q) : VV (L, xs) 206 608 [some (.float 0), some (.ref 0), some (.ref 88), some (.ref 109), some (.int (nI (4 * j))), y5, y6] [] s Q := by
  by_cases h0 : xs (4 * j + 1) = 0
  · obtain ⟨r, hc, hm, hx⟩ := o_gms (sc := (L, xs)) (tx := tx) (len := len) hW false
    match r, hc, hm, hx with
    | .inl k, _, _, hx => exact absurd hx.1 (by have := hx.2; omega)
    | .inr q, hc, hm, hx =>
      refine v_al1 c_206_608 ?_
      refine v_aS0 c_206_609 ?_
      refine v_il4 c_206_610 ?_
      refine v_icN (n := 1) c_206_611 rfl ?_
      refine v_iaddN c_206_612 ?_
      refine v_sld c_206_613 (hL) (by omega) ?_
      refine v_if_eq_t c_206_614 (h0) ?_
      refine v_icN (n := 0) c_206_617 rfl ?_
      refine v_cVI c_206_618 rfl (by decide) rfl rfl (xc_q (hc s hC)) ?_
      rintro x t ⟨rfl, c1, c2⟩
      have hRt := hR.fl (FL.of c2)
      refine v_al2 c_206_619 ?_
      refine v_aS0 c_206_620 ?_
      refine v_il4 c_206_621 ?_
      refine v_icN (n := 1) c_206_622 rfl ?_
      refine v_iaddN c_206_623 ?_
      refine v_sld c_206_624 (hL) (by omega) ?_
      refine v_if_eq_t c_206_625 (h0) ?_
      refine v_icN (n := 0) c_206_628 rfl ?_
      refine v_cVI c_206_629 rfl (by decide) rfl rfl (hm t hRt) ?_
      rintro y u ⟨m1, rfl, m2, m3⟩
      refine v_icmp_eq_t c_206_630 (rfl) ?_
      exact hn u q.2 _ _ hx (c1.f88 m3) m2 (by rw [m3.2, c2.2]; omega)
  · obtain ⟨r, hc, hm, hx⟩ := o_gms (sc := (L, xs)) (tx := tx) (len := len) hW true
    match r, hc, hm, hx with
    | .inl k, _, _, hx => exact absurd hx.1 (by have := hx.2; omega)
    | .inr q, hc, hm, hx =>
      refine v_al1 c_206_608 ?_
      refine v_aS0 c_206_609 ?_
      refine v_il4 c_206_610 ?_
      refine v_icN (n := 1) c_206_611 rfl ?_
      refine v_iaddN c_206_612 ?_
      refine v_sld c_206_613 (hL) (by omega) ?_
      refine v_if_eq_f c_206_614 (h0) ?_
      refine v_icN (n := 1) c_206_615 rfl ?_
      refine v_goto c_206_616 ?_
      refine v_cVI c_206_618 rfl (by decide) rfl rfl (xc_q (hc s hC)) ?_
      rintro x t ⟨rfl, c1, c2⟩
      have hRt := hR.fl (FL.of c2)
      refine v_al2 c_206_619 ?_
      refine v_aS0 c_206_620 ?_
      refine v_il4 c_206_621 ?_
      refine v_icN (n := 1) c_206_622 rfl ?_
      refine v_iaddN c_206_623 ?_
      refine v_sld c_206_624 (hL) (by omega) ?_
      refine v_if_eq_f c_206_625 (h0) ?_
      refine v_icN (n := 1) c_206_626 rfl ?_
      refine v_goto c_206_627 ?_
      refine v_cVI c_206_629 rfl (by decide) rfl rfl (hm t hRt) ?_
      rintro y u ⟨m1, rfl, m2, m3⟩
      refine v_icmp_eq_t c_206_630 (rfl) ?_
      exact hn u q.2 _ _ hx (c1.f88 m3) m2 (by rw [m3.2, c2.2]; omega)
theorem lc_20 (hL : L ≤ 2048) (hj : 4 * j + 4 ≤ L) (hW : WA M H S) (hC : RCw s (M, H, S, tx, len)) (hR : RMw s (M, H, S, tx, len)) (hn : LNX L xs j s Q) : VV (L, xs) 206 633 [some (.float 0), some (.ref 0), some (.ref 88), some (.ref 109), some (.int (nI (4 * j))), y5, y6] [] s Q := by
  obtain ⟨r, hc, hm, hx⟩ := o_lst (sc := (L, xs)) (tx := tx) (len := len) hW
  match r, hc, hm, hx with
  | .inl k, _, _, hx => exact absurd hx.1 (by have := hx.2; omega)
  | .inr q, hc, hm, hx =>
    refine v_al1 c_206_633 ?_
    refine v_cVI c_206_634 rfl (by decide) rfl rfl (xc_q (hc s hC)) ?_
    rintro x t ⟨rfl, c1, c2⟩
    have hRt := hR.fl (FL.of c2)
    refine v_al2 c_206_635 ?_
    refine v_cVI c_206_636 rfl (by decide) rfl rfl (hm t hRt) ?_
    rintro y u ⟨m1, rfl, m2, m3⟩
    refine v_icmp_eq_t c_206_637 (rfl) ?_
    exact hn u q.2 _ _ hx (c1.f88 m3) m2 (by rw [m3.2, c2.2]; omega)
theorem lc_21 (hL : L ≤ 2048) (hj : 4 * j + 4 ≤ L) (hW : WA M H S) (hC : RCw s (M, H, S, tx, len)) (hR : RMw s (M, H, S, tx, len)) (hn : LNX L xs j s Q) : VV (L, xs) 206 640 [some (.float 0), some (.ref 0), some (.ref 88), some (.ref 109), some (.int (nI (4 * j))), y5, y6] [] s Q := by
  obtain ⟨r, hc, hm, hx⟩ := o_lof (sc := (L, xs)) (tx := tx) (len := len) hW (xs (4 * j + 1))
  refine v_al1 c_206_640 ?_
  refine v_aS0 c_206_641 ?_
  refine v_il4 c_206_642 ?_
  refine v_icN (n := 1) c_206_643 rfl ?_
  refine v_iaddN c_206_644 ?_
  refine v_sld c_206_645 (hL) (by omega) ?_
  refine v_al3 c_206_646 ?_
  refine v_cSI c_206_647 rfl rfl rfl (w_199 (hc s hC) hx) ?_
  rintro x t ht
  obtain ⟨e, hf⟩ := LX.fl ht
  have hRt := hR.fl hf
  refine v_is5 c_206_648 rfl ?_
  refine v_al2 c_206_649 ?_
  refine v_aS0 c_206_650 ?_
  refine v_il4 c_206_651 ?_
  refine v_icN (n := 1) c_206_652 rfl ?_
  refine v_iaddN c_206_653 ?_
  refine v_sld c_206_654 (hL) (by omega) ?_
  refine v_cVI c_206_655 rfl (by decide) rfl rfl (hm t hRt) ?_
  rintro y u hu
  cases r with
  | inl k =>
    obtain ⟨rfl, c1, c2⟩ := ht
    obtain ⟨m1, m2, m3⟩ := hu
    obtain ⟨k1, k2⟩ := hx
    refine v_is6 c_206_656 rfl ?_
    refine v_al2 c_206_657 ?_
    refine v_cVi c_206_658 rfl (by decide) rfl rfl (q_thr m1) ?_
    refine v_il5 c_206_659 ?_
    refine v_icmp_eq_T c_206_660 (by omega) (by omega) (by omega) ?_
    refine v_il5 c_206_663 ?_
    refine v_if_ne_T c_206_664 (by omega) (by omega) ?_
    refine v_goto c_206_674 ?_
    exact hn u (M, H, S, tx, len) _ _ hW (c1.f88 m3) m2 (by rw [m3.2, c2.2]; omega)
  | inr q =>
    obtain ⟨rfl, c0, c1, c2⟩ := ht
    obtain ⟨m1, rfl, m2, m3⟩ := hu
    have e9 : u.2.1 109 0 = q.1.toInt64 := by rw [m3.atL (by omega)]; exact c0
    refine v_is6 c_206_656 rfl ?_
    refine v_al2 c_206_657 ?_
    refine v_cVi c_206_658 rfl (by decide) rfl rfl (q_thr m1) ?_
    refine v_il5 c_206_659 ?_
    refine v_icmp_eq_T c_206_660 (by omega) (by omega) (by omega) ?_
    refine v_il5 c_206_663 ?_
    refine v_if_ne_F c_206_664 (by omega) (by omega) ?_
    refine v_al3 c_206_665 ?_
    refine v_icN (n := 0) c_206_666 rfl ?_
    refine v_aL c_206_667 rfl (by omega) (e9) ?_
    refine v_il6 c_206_668 ?_
    refine v_i2l c_206_669 ?_
    refine v_lcmp c_206_670 ?_
    refine v_if_eq_t c_206_671 (((lg_cmp_eq _ _).mpr rfl)) ?_
    refine v_goto c_206_674 ?_
    exact hn u q.2 _ _ hx (c1.f88 m3) m2 (by rw [m3.2, c2.2]; omega)
theorem lc_22 (hL : L ≤ 2048) (hj : 4 * j + 4 ≤ L) (hW : WA M H S) (hC : RCw s (M, H, S, tx, len)) (hR : RMw s (M, H, S, tx, len)) (hn : LNX L xs j s Q) : VV (L, xs) 206 675 [some (.float 0), some (.ref 0), some (.ref 88), some (.ref 109), some (.int (nI (4 * j))), y5, y6] [] s Q := by
  obtain ⟨r, hc, hm, hx⟩ := o_bet (sc := (L, xs)) (tx := tx) (len := len) hW
  match r, hc, hm, hx with
  | .inl k, _, _, hx => exact absurd hx.1 (by have := hx.2; omega)
  | .inr q, hc, hm, hx =>
    refine v_al1 c_206_675 ?_
    refine v_cVI c_206_676 rfl (by decide) rfl rfl (xc_q (hc s hC)) ?_
    rintro x t ⟨rfl, c1, c2⟩
    have hRt := hR.fl (FL.of c2)
    refine v_al2 c_206_677 ?_
    refine v_cVI c_206_678 rfl (by decide) rfl rfl (hm t hRt) ?_
    rintro y u ⟨m1, rfl, m2, m3⟩
    refine v_icmp_eq_t c_206_679 (rfl) ?_
    exact hn u q.2 _ _ hx (c1.f88 m3) m2 (by rw [m3.2, c2.2]; omega)
theorem lc_23 (hL : L ≤ 2048) (hj : 4 * j + 4 ≤ L) (hW : WA M H S) (hC : RCw s (M, H, S, tx, len)) (hR : RMw s (M, H, S, tx, len)) (hn : LNX L xs j s Q) : VV (L, xs) 206 682 [some (.float 0), some (.ref 0), some (.ref 88), some (.ref 109), some (.int (nI (4 * j))), y5, y6] [] s Q := by
  obtain ⟨r, hc, hm, hx⟩ := o_har (sc := (L, xs)) (tx := tx) (len := len) hW (xs (4 * j + 1))
  refine v_al1 c_206_682 ?_
  refine v_aS0 c_206_683 ?_
  refine v_il4 c_206_684 ?_
  refine v_icN (n := 1) c_206_685 rfl ?_
  refine v_iaddN c_206_686 ?_
  refine v_sld c_206_687 (hL) (by omega) ?_
  refine v_al3 c_206_688 ?_
  refine v_cSI c_206_689 rfl rfl rfl (w_200 (hc s hC) hx) ?_
  rintro x t ht
  obtain ⟨e, hf⟩ := LX.fl ht
  have hRt := hR.fl hf
  refine v_is5 c_206_690 rfl ?_
  refine v_al2 c_206_691 ?_
  refine v_aS0 c_206_692 ?_
  refine v_il4 c_206_693 ?_
  refine v_icN (n := 1) c_206_694 rfl ?_
  refine v_iaddN c_206_695 ?_
  refine v_sld c_206_696 (hL) (by omega) ?_
  refine v_cVI c_206_697 rfl (by decide) rfl rfl (hm t hRt) ?_
  rintro y u hu
  cases r with
  | inl k =>
    obtain ⟨rfl, c1, c2⟩ := ht
    obtain ⟨m1, m2, m3⟩ := hu
    obtain ⟨k1, k2⟩ := hx
    refine v_is6 c_206_698 rfl ?_
    refine v_al2 c_206_699 ?_
    refine v_cVi c_206_700 rfl (by decide) rfl rfl (q_thr m1) ?_
    refine v_il5 c_206_701 ?_
    refine v_icmp_eq_T c_206_702 (by omega) (by omega) (by omega) ?_
    refine v_il5 c_206_705 ?_
    refine v_if_ne_T c_206_706 (by omega) (by omega) ?_
    refine v_goto c_206_716 ?_
    exact hn u (M, H, S, tx, len) _ _ hW (c1.f88 m3) m2 (by rw [m3.2, c2.2]; omega)
  | inr q =>
    obtain ⟨rfl, c0, c1, c2⟩ := ht
    obtain ⟨m1, rfl, m2, m3⟩ := hu
    have e9 : u.2.1 109 0 = q.1.toInt64 := by rw [m3.atL (by omega)]; exact c0
    refine v_is6 c_206_698 rfl ?_
    refine v_al2 c_206_699 ?_
    refine v_cVi c_206_700 rfl (by decide) rfl rfl (q_thr m1) ?_
    refine v_il5 c_206_701 ?_
    refine v_icmp_eq_T c_206_702 (by omega) (by omega) (by omega) ?_
    refine v_il5 c_206_705 ?_
    refine v_if_ne_F c_206_706 (by omega) (by omega) ?_
    refine v_al3 c_206_707 ?_
    refine v_icN (n := 0) c_206_708 rfl ?_
    refine v_aL c_206_709 rfl (by omega) (e9) ?_
    refine v_il6 c_206_710 ?_
    refine v_i2l c_206_711 ?_
    refine v_lcmp c_206_712 ?_
    refine v_if_eq_t c_206_713 (((lg_cmp_eq _ _).mpr rfl)) ?_
    refine v_goto c_206_716 ?_
    exact hn u q.2 _ _ hx (c1.f88 m3) m2 (by rw [m3.2, c2.2]; omega)
theorem lc_24 (hL : L ≤ 2048) (hj : 4 * j + 4 ≤ L) (hW : WA M H S) (hC : RCw s (M, H, S, tx, len)) (hR : RMw s (M, H, S, tx, len)) (hn : LNX L xs j s Q) : VV (L, xs) 206 717 [some (.float 0), some (.ref 0), some (.ref 88), some (.ref 109), some (.int (nI (4 * j))), y5, y6] [] s Q := by
  obtain ⟨r, hc, hm, hx⟩ := o_few (sc := (L, xs)) (tx := tx) (len := len) hW (xs (4 * j + 1)) (xs (4 * j + 2))
  refine v_al1 c_206_717 ?_
  refine v_aS0 c_206_718 ?_
  refine v_il4 c_206_719 ?_
  refine v_icN (n := 1) c_206_720 rfl ?_
  refine v_iaddN c_206_721 ?_
  refine v_sld c_206_722 (hL) (by omega) ?_
  refine v_aS0 c_206_723 ?_
  refine v_il4 c_206_724 ?_
  refine v_icN (n := 2) c_206_725 rfl ?_
  refine v_iaddN c_206_726 ?_
  refine v_sld c_206_727 (hL) (by omega) ?_
  refine v_al3 c_206_728 ?_
  refine v_cSI c_206_729 rfl rfl rfl (w_201 (hc s hC) hx) ?_
  rintro x t ht
  obtain ⟨e, hf⟩ := LX.fl ht
  have hRt := hR.fl hf
  refine v_is5 c_206_730 rfl ?_
  refine v_al2 c_206_731 ?_
  refine v_aS0 c_206_732 ?_
  refine v_il4 c_206_733 ?_
  refine v_icN (n := 1) c_206_734 rfl ?_
  refine v_iaddN c_206_735 ?_
  refine v_sld c_206_736 (hL) (by omega) ?_
  refine v_aS0 c_206_737 ?_
  refine v_il4 c_206_738 ?_
  refine v_icN (n := 2) c_206_739 rfl ?_
  refine v_iaddN c_206_740 ?_
  refine v_sld c_206_741 (hL) (by omega) ?_
  refine v_cVI c_206_742 rfl (by decide) rfl rfl (hm t hRt) ?_
  rintro y u hu
  cases r with
  | inl k =>
    obtain ⟨rfl, c1, c2⟩ := ht
    obtain ⟨m1, m2, m3⟩ := hu
    obtain ⟨k1, k2⟩ := hx
    refine v_is6 c_206_743 rfl ?_
    refine v_al2 c_206_744 ?_
    refine v_cVi c_206_745 rfl (by decide) rfl rfl (q_thr m1) ?_
    refine v_il5 c_206_746 ?_
    refine v_icmp_eq_T c_206_747 (by omega) (by omega) (by omega) ?_
    refine v_il5 c_206_750 ?_
    refine v_if_ne_T c_206_751 (by omega) (by omega) ?_
    refine v_goto c_206_761 ?_
    exact hn u (M, H, S, tx, len) _ _ hW (c1.f88 m3) m2 (by rw [m3.2, c2.2]; omega)
  | inr q =>
    obtain ⟨rfl, c0, c1, c2⟩ := ht
    obtain ⟨m1, rfl, m2, m3⟩ := hu
    have e9 : u.2.1 109 0 = q.1.toInt64 := by rw [m3.atL (by omega)]; exact c0
    refine v_is6 c_206_743 rfl ?_
    refine v_al2 c_206_744 ?_
    refine v_cVi c_206_745 rfl (by decide) rfl rfl (q_thr m1) ?_
    refine v_il5 c_206_746 ?_
    refine v_icmp_eq_T c_206_747 (by omega) (by omega) (by omega) ?_
    refine v_il5 c_206_750 ?_
    refine v_if_ne_F c_206_751 (by omega) (by omega) ?_
    refine v_al3 c_206_752 ?_
    refine v_icN (n := 0) c_206_753 rfl ?_
    refine v_aL c_206_754 rfl (by omega) (e9) ?_
    refine v_il6 c_206_755 ?_
    refine v_i2l c_206_756 ?_
    refine v_lcmp c_206_757 ?_
    refine v_if_eq_t c_206_758 (((lg_cmp_eq _ _).mpr rfl)) ?_
    refine v_goto c_206_761 ?_
    exact hn u q.2 _ _ hx (c1.f88 m3) m2 (by rw [m3.2, c2.2]; omega)
theorem lc_25 (hL : L ≤ 2048) (hj : 4 * j + 4 ≤ L) (hW : WA M H S) (hC : RCw s (M, H, S, tx, len)) (hR : RMw s (M, H, S, tx, len)) (hn : LNX L xs j s Q) : VV (L, xs) 206 762 [some (.float 0), some (.ref 0), some (.ref 88), some (.ref 109), some (.int (nI (4 * j))), y5, y6] [] s Q := by
  obtain ⟨r, hc, hm, hx⟩ := o_run (sc := (L, xs)) (tx := tx) (len := len) hW (xs (4 * j + 1)) (((xs (4 * j + 2)).toInt64 <<< ((nI 32).toInt64 &&& 63)) ||| ((xs (4 * j + 3)).toInt64 &&& 4294967295))
  refine v_al1 c_206_762 ?_
  refine v_aS0 c_206_763 ?_
  refine v_il4 c_206_764 ?_
  refine v_icN (n := 1) c_206_765 rfl ?_
  refine v_iaddN c_206_766 ?_
  refine v_sld c_206_767 (hL) (by omega) ?_
  refine v_aS0 c_206_768 ?_
  refine v_il4 c_206_769 ?_
  refine v_icN (n := 2) c_206_770 rfl ?_
  refine v_iaddN c_206_771 ?_
  refine v_sld c_206_772 (hL) (by omega) ?_
  refine v_i2l c_206_773 ?_
  refine v_bpN (n := 32) c_206_774 rfl ?_
  refine v_lshl c_206_775 ?_
  refine v_aS0 c_206_776 ?_
  refine v_il4 c_206_777 ?_
  refine v_icN (n := 3) c_206_778 rfl ?_
  refine v_iaddN c_206_779 ?_
  refine v_sld c_206_780 (hL) (by omega) ?_
  refine v_i2l c_206_781 ?_
  refine v_l2 c_206_782 ?_
  refine v_land c_206_783 ?_
  refine v_lor c_206_784 ?_
  refine v_al3 c_206_785 ?_
  refine v_cSI c_206_786 rfl rfl rfl (w_202 (hc s hC) hx) ?_
  rintro x t ht
  obtain ⟨e, hf⟩ := LX.fl ht
  have hRt := hR.fl hf
  refine v_is5 c_206_787 rfl ?_
  refine v_al2 c_206_788 ?_
  refine v_aS0 c_206_789 ?_
  refine v_il4 c_206_790 ?_
  refine v_icN (n := 1) c_206_791 rfl ?_
  refine v_iaddN c_206_792 ?_
  refine v_sld c_206_793 (hL) (by omega) ?_
  refine v_aS0 c_206_794 ?_
  refine v_il4 c_206_795 ?_
  refine v_icN (n := 2) c_206_796 rfl ?_
  refine v_iaddN c_206_797 ?_
  refine v_sld c_206_798 (hL) (by omega) ?_
  refine v_i2l c_206_799 ?_
  refine v_bpN (n := 32) c_206_800 rfl ?_
  refine v_lshl c_206_801 ?_
  refine v_aS0 c_206_802 ?_
  refine v_il4 c_206_803 ?_
  refine v_icN (n := 3) c_206_804 rfl ?_
  refine v_iaddN c_206_805 ?_
  refine v_sld c_206_806 (hL) (by omega) ?_
  refine v_i2l c_206_807 ?_
  refine v_l2 c_206_808 ?_
  refine v_land c_206_809 ?_
  refine v_lor c_206_810 ?_
  refine v_cVI c_206_811 rfl (by decide) rfl rfl (hm t hRt) ?_
  rintro y u hu
  cases r with
  | inl k =>
    obtain ⟨rfl, c1, c2⟩ := ht
    obtain ⟨m1, m2, m3⟩ := hu
    obtain ⟨k1, k2⟩ := hx
    refine v_is6 c_206_812 rfl ?_
    refine v_al2 c_206_813 ?_
    refine v_cVi c_206_814 rfl (by decide) rfl rfl (q_thr m1) ?_
    refine v_il5 c_206_815 ?_
    refine v_icmp_eq_T c_206_816 (by omega) (by omega) (by omega) ?_
    refine v_il5 c_206_819 ?_
    refine v_if_ne_T c_206_820 (by omega) (by omega) ?_
    refine v_goto c_206_830 ?_
    exact hn u (M, H, S, tx, len) _ _ hW (c1.f88 m3) m2 (by rw [m3.2, c2.2]; omega)
  | inr q =>
    obtain ⟨rfl, c0, c1, c2⟩ := ht
    obtain ⟨m1, rfl, m2, m3⟩ := hu
    have e9 : u.2.1 109 0 = q.1.toInt64 := by rw [m3.atL (by omega)]; exact c0
    refine v_is6 c_206_812 rfl ?_
    refine v_al2 c_206_813 ?_
    refine v_cVi c_206_814 rfl (by decide) rfl rfl (q_thr m1) ?_
    refine v_il5 c_206_815 ?_
    refine v_icmp_eq_T c_206_816 (by omega) (by omega) (by omega) ?_
    refine v_il5 c_206_819 ?_
    refine v_if_ne_F c_206_820 (by omega) (by omega) ?_
    refine v_al3 c_206_821 ?_
    refine v_icN (n := 0) c_206_822 rfl ?_
    refine v_aL c_206_823 rfl (by omega) (e9) ?_
    refine v_il6 c_206_824 ?_
    refine v_i2l c_206_825 ?_
    refine v_lcmp c_206_826 ?_
    refine v_if_eq_t c_206_827 (((lg_cmp_eq _ _).mpr rfl)) ?_
    refine v_goto c_206_830 ?_
    exact hn u q.2 _ _ hx (c1.f88 m3) m2 (by rw [m3.2, c2.2]; omega)
theorem lc_26 (hL : L ≤ 2048) (hj : 4 * j + 4 ≤ L) (hW : WA M H S) (hC : RCw s (M, H, S, tx, len)) (hR : RMw s (M, H, S, tx, len)) (hn : LNX L xs j s Q) : VV (L, xs) 206 831 [some (.float 0), some (.ref 0), some (.ref 88), some (.ref 109), some (.int (nI (4 * j))), y5, y6] [] s Q := by
  obtain ⟨r, hc, hm, hx⟩ := o_sim (sc := (L, xs)) (tx := tx) (len := len) hW (((xs (4 * j + 1)).toInt64 <<< ((nI 32).toInt64 &&& 63)) ||| ((xs (4 * j + 2)).toInt64 &&& 4294967295)) (xs (4 * j + 3))
  refine v_al1 c_206_831 ?_
  refine v_aS0 c_206_832 ?_
  refine v_il4 c_206_833 ?_
  refine v_icN (n := 1) c_206_834 rfl ?_
  refine v_iaddN c_206_835 ?_
  refine v_sld c_206_836 (hL) (by omega) ?_
  refine v_i2l c_206_837 ?_
  refine v_bpN (n := 32) c_206_838 rfl ?_
  refine v_lshl c_206_839 ?_
  refine v_aS0 c_206_840 ?_
  refine v_il4 c_206_841 ?_
  refine v_icN (n := 2) c_206_842 rfl ?_
  refine v_iaddN c_206_843 ?_
  refine v_sld c_206_844 (hL) (by omega) ?_
  refine v_i2l c_206_845 ?_
  refine v_l2 c_206_846 ?_
  refine v_land c_206_847 ?_
  refine v_lor c_206_848 ?_
  refine v_aS0 c_206_849 ?_
  refine v_il4 c_206_850 ?_
  refine v_icN (n := 3) c_206_851 rfl ?_
  refine v_iaddN c_206_852 ?_
  refine v_sld c_206_853 (hL) (by omega) ?_
  refine v_al3 c_206_854 ?_
  refine v_cSI c_206_855 rfl rfl rfl (w_203 (hc s hC) hx) ?_
  rintro x t ht
  obtain ⟨e, hf⟩ := LX.fl ht
  have hRt := hR.fl hf
  refine v_is5 c_206_856 rfl ?_
  refine v_al2 c_206_857 ?_
  refine v_aS0 c_206_858 ?_
  refine v_il4 c_206_859 ?_
  refine v_icN (n := 1) c_206_860 rfl ?_
  refine v_iaddN c_206_861 ?_
  refine v_sld c_206_862 (hL) (by omega) ?_
  refine v_i2l c_206_863 ?_
  refine v_bpN (n := 32) c_206_864 rfl ?_
  refine v_lshl c_206_865 ?_
  refine v_aS0 c_206_866 ?_
  refine v_il4 c_206_867 ?_
  refine v_icN (n := 2) c_206_868 rfl ?_
  refine v_iaddN c_206_869 ?_
  refine v_sld c_206_870 (hL) (by omega) ?_
  refine v_i2l c_206_871 ?_
  refine v_l2 c_206_872 ?_
  refine v_land c_206_873 ?_
  refine v_lor c_206_874 ?_
  refine v_aS0 c_206_875 ?_
  refine v_il4 c_206_876 ?_
  refine v_icN (n := 3) c_206_877 rfl ?_
  refine v_iaddN c_206_878 ?_
  refine v_sld c_206_879 (hL) (by omega) ?_
  refine v_cVI c_206_880 rfl (by decide) rfl rfl (hm t hRt) ?_
  rintro y u hu
  cases r with
  | inl k =>
    obtain ⟨rfl, c1, c2⟩ := ht
    obtain ⟨m1, m2, m3⟩ := hu
    obtain ⟨k1, k2⟩ := hx
    refine v_is6 c_206_881 rfl ?_
    refine v_al2 c_206_882 ?_
    refine v_cVi c_206_883 rfl (by decide) rfl rfl (q_thr m1) ?_
    refine v_il5 c_206_884 ?_
    refine v_icmp_eq_T c_206_885 (by omega) (by omega) (by omega) ?_
    refine v_il5 c_206_888 ?_
    refine v_if_ne_T c_206_889 (by omega) (by omega) ?_
    refine v_goto c_206_899 ?_
    exact hn u (M, H, S, tx, len) _ _ hW (c1.f88 m3) m2 (by rw [m3.2, c2.2]; omega)
  | inr q =>
    obtain ⟨rfl, c0, c1, c2⟩ := ht
    obtain ⟨m1, rfl, m2, m3⟩ := hu
    have e9 : u.2.1 109 0 = q.1.toInt64 := by rw [m3.atL (by omega)]; exact c0
    refine v_is6 c_206_881 rfl ?_
    refine v_al2 c_206_882 ?_
    refine v_cVi c_206_883 rfl (by decide) rfl rfl (q_thr m1) ?_
    refine v_il5 c_206_884 ?_
    refine v_icmp_eq_T c_206_885 (by omega) (by omega) (by omega) ?_
    refine v_il5 c_206_888 ?_
    refine v_if_ne_F c_206_889 (by omega) (by omega) ?_
    refine v_al3 c_206_890 ?_
    refine v_icN (n := 0) c_206_891 rfl ?_
    refine v_aL c_206_892 rfl (by omega) (e9) ?_
    refine v_il6 c_206_893 ?_
    refine v_i2l c_206_894 ?_
    refine v_lcmp c_206_895 ?_
    refine v_if_eq_t c_206_896 (((lg_cmp_eq _ _).mpr rfl)) ?_
    refine v_goto c_206_899 ?_
    exact hn u q.2 _ _ hx (c1.f88 m3) m2 (by rw [m3.2, c2.2]; omega)
theorem lc_27 (hL : L ≤ 2048) (hj : 4 * j + 4 ≤ L) (hW : WA M H S) (hC : RCw s (M, H, S, tx, len)) (hR : RMw s (M, H, S, tx, len)) (hn : LNX L xs j s Q) : VV (L, xs) 206 900 [some (.float 0), some (.ref 0), some (.ref 88), some (.ref 109), some (.int (nI (4 * j))), y5, y6] [] s Q := by
  obtain ⟨r, hc, hm, hx⟩ := o_sav (sc := (L, xs)) (tx := tx) (len := len) hW (xs (4 * j + 1))
  refine v_al1 c_206_900 ?_
  refine v_aS0 c_206_901 ?_
  refine v_il4 c_206_902 ?_
  refine v_icN (n := 1) c_206_903 rfl ?_
  refine v_iaddN c_206_904 ?_
  refine v_sld c_206_905 (hL) (by omega) ?_
  refine v_al3 c_206_906 ?_
  refine v_cSI c_206_907 rfl rfl rfl (w_204 (hc s hC) hx) ?_
  rintro x t ht
  obtain ⟨e, hf⟩ := LX.fl ht
  have hRt := hR.fl hf
  refine v_is5 c_206_908 rfl ?_
  refine v_al2 c_206_909 ?_
  refine v_aS0 c_206_910 ?_
  refine v_il4 c_206_911 ?_
  refine v_icN (n := 1) c_206_912 rfl ?_
  refine v_iaddN c_206_913 ?_
  refine v_sld c_206_914 (hL) (by omega) ?_
  refine v_cVI c_206_915 rfl (by decide) rfl rfl (hm t hRt) ?_
  rintro y u hu
  cases r with
  | inl k =>
    obtain ⟨rfl, c1, c2⟩ := ht
    obtain ⟨m1, m2, m3⟩ := hu
    obtain ⟨k1, k2⟩ := hx
    refine v_is6 c_206_916 rfl ?_
    refine v_al2 c_206_917 ?_
    refine v_cVi c_206_918 rfl (by decide) rfl rfl (q_thr m1) ?_
    refine v_il5 c_206_919 ?_
    refine v_icmp_eq_T c_206_920 (by omega) (by omega) (by omega) ?_
    refine v_il5 c_206_923 ?_
    refine v_if_ne_T c_206_924 (by omega) (by omega) ?_
    refine v_goto c_206_934 ?_
    exact hn u (M, H, S, tx, len) _ _ hW (c1.f88 m3) m2 (by rw [m3.2, c2.2]; omega)
  | inr q =>
    obtain ⟨rfl, c0, c1, c2⟩ := ht
    obtain ⟨m1, rfl, m2, m3⟩ := hu
    have e9 : u.2.1 109 0 = q.1.toInt64 := by rw [m3.atL (by omega)]; exact c0
    refine v_is6 c_206_916 rfl ?_
    refine v_al2 c_206_917 ?_
    refine v_cVi c_206_918 rfl (by decide) rfl rfl (q_thr m1) ?_
    refine v_il5 c_206_919 ?_
    refine v_icmp_eq_T c_206_920 (by omega) (by omega) (by omega) ?_
    refine v_il5 c_206_923 ?_
    refine v_if_ne_F c_206_924 (by omega) (by omega) ?_
    refine v_al3 c_206_925 ?_
    refine v_icN (n := 0) c_206_926 rfl ?_
    refine v_aL c_206_927 rfl (by omega) (e9) ?_
    refine v_il6 c_206_928 ?_
    refine v_i2l c_206_929 ?_
    refine v_lcmp c_206_930 ?_
    refine v_if_eq_t c_206_931 (((lg_cmp_eq _ _).mpr rfl)) ?_
    refine v_goto c_206_934 ?_
    exact hn u q.2 _ _ hx (c1.f88 m3) m2 (by rw [m3.2, c2.2]; omega)
theorem lc_28 (hL : L ≤ 2048) (hj : 4 * j + 4 ≤ L) (hW : WA M H S) (hC : RCw s (M, H, S, tx, len)) (hR : RMw s (M, H, S, tx, len)) (hn : LNX L xs j s Q) : VV (L, xs) 206 935 [some (.float 0), some (.ref 0), some (.ref 88), some (.ref 109), some (.int (nI (4 * j))), y5, y6] [] s Q := by
  obtain ⟨r, hc, hm, hx⟩ := o_res (sc := (L, xs)) (tx := tx) (len := len) hW (xs (4 * j + 1))
  refine v_al1 c_206_935 ?_
  refine v_aS0 c_206_936 ?_
  refine v_il4 c_206_937 ?_
  refine v_icN (n := 1) c_206_938 rfl ?_
  refine v_iaddN c_206_939 ?_
  refine v_sld c_206_940 (hL) (by omega) ?_
  refine v_al3 c_206_941 ?_
  refine v_cSI c_206_942 rfl rfl rfl (w_205 (hc s hC) hx) ?_
  rintro x t ht
  obtain ⟨e, hf⟩ := LX.fl ht
  have hRt := hR.fl hf
  refine v_is5 c_206_943 rfl ?_
  refine v_al2 c_206_944 ?_
  refine v_aS0 c_206_945 ?_
  refine v_il4 c_206_946 ?_
  refine v_icN (n := 1) c_206_947 rfl ?_
  refine v_iaddN c_206_948 ?_
  refine v_sld c_206_949 (hL) (by omega) ?_
  refine v_cVI c_206_950 rfl (by decide) rfl rfl (hm t hRt) ?_
  rintro y u hu
  cases r with
  | inl k =>
    obtain ⟨rfl, c1, c2⟩ := ht
    obtain ⟨m1, m2, m3⟩ := hu
    obtain ⟨k1, k2⟩ := hx
    refine v_is6 c_206_951 rfl ?_
    refine v_al2 c_206_952 ?_
    refine v_cVi c_206_953 rfl (by decide) rfl rfl (q_thr m1) ?_
    refine v_il5 c_206_954 ?_
    refine v_icmp_eq_T c_206_955 (by omega) (by omega) (by omega) ?_
    refine v_il5 c_206_958 ?_
    refine v_if_ne_T c_206_959 (by omega) (by omega) ?_
    refine v_goto c_206_969 ?_
    exact hn u (M, H, S, tx, len) _ _ hW (c1.f88 m3) m2 (by rw [m3.2, c2.2]; omega)
  | inr q =>
    obtain ⟨rfl, c0, c1, c2⟩ := ht
    obtain ⟨m1, rfl, m2, m3⟩ := hu
    have e9 : u.2.1 109 0 = q.1.toInt64 := by rw [m3.atL (by omega)]; exact c0
    refine v_is6 c_206_951 rfl ?_
    refine v_al2 c_206_952 ?_
    refine v_cVi c_206_953 rfl (by decide) rfl rfl (q_thr m1) ?_
    refine v_il5 c_206_954 ?_
    refine v_icmp_eq_T c_206_955 (by omega) (by omega) (by omega) ?_
    refine v_il5 c_206_958 ?_
    refine v_if_ne_F c_206_959 (by omega) (by omega) ?_
    refine v_al3 c_206_960 ?_
    refine v_icN (n := 0) c_206_961 rfl ?_
    refine v_aL c_206_962 rfl (by omega) (e9) ?_
    refine v_il6 c_206_963 ?_
    refine v_i2l c_206_964 ?_
    refine v_lcmp c_206_965 ?_
    refine v_if_eq_t c_206_966 (((lg_cmp_eq _ _).mpr rfl)) ?_
    refine v_goto c_206_969 ?_
    exact hn u q.2 _ _ hx (c1.f88 m3) m2 (by rw [m3.2, c2.2]; omega)
end LCS
