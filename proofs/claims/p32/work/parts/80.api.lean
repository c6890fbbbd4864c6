/-! THE CLASS'S FACE, as the law calls it -/
section API
variable {sc : Nat × (Nat → Int32)} {s : zv_S} {M : zM} {L : List zM} {S : Nat → Option zM} {tx : Nat → Nat} {len : Nat}
/-- the class holds W, and nothing has been thrown -/
def RZ (s : zv_S) (W : zW) : Prop := RCw s W ∧ s.2.2 = 0
/-- it answers v and leaves W -/
abbrev AP (v : Int32) (W : zW) : zm_O → zv_S → Prop := QI fun x t => x = v ∧ RZ t W
theorem ap_0 {x v : Int32} {W : zW} (h : RCw s W) (hz : s.2.2 = 0) (hv : x = v) : AP v W (.inl (some (.int x))) s := ⟨_, rfl, hv, h, hz⟩
theorem ap_r {x v : Int32} {W : zW} {t : zv_S} {lo hi : Nat} (h : RCw s W) (hz : s.2.2 = 0) (hf : FR lo hi s t) (h1 : 58 ≤ lo ∧ hi ≤ 88) (hv : x = v) : AP v W (.inl (some (.int x))) t := ⟨_, rfl, hv, h.fr hf (by omega), hf.2.trans hz⟩
theorem inN_7 {n i : Nat} (h7 : n ≤ 7) (hi : i < n) : inN n (nI i) = true := inN_no h7 hi
theorem a_ab0 (hw : MW M) (h : RZ s (M, L, S, tx, len)) : CC sc 5 [.ref 0, .int (nI 0)] s (AP (nI (mN M)) (M, L, S, tx, len)) := by
  obtain ⟨h, hz⟩ := h
  refine cc_of ml_5 rfl rfl ?_
  refine v_il1 c_5_0 ?_
  refine v_sw (n := 2) c_5_1 (by decide +kernel) ?_
  refine v_al0 c_5_2 ?_
  refine v_gR (n0 := 3) c_5_3 rfl ?_
  refine v_gI c_5_4 rfl (h.kM.1) ?_
  refine v_ri c_5_5 ?_
  exact ap_0 h hz rfl
theorem a_ab1 (hw : MW M) (h : RZ s (M, L, S, tx, len)) : CC sc 5 [.ref 0, .int (nI 1)] s (AP (nI (pc (mP M))) (M, L, S, tx, len)) := by
  obtain ⟨h, hz⟩ := h
  refine cc_of ml_5 rfl rfl ?_
  refine v_il1 c_5_0 ?_
  refine v_sw (n := 6) c_5_1 (by decide +kernel) ?_
  refine v_al0 c_5_6 ?_
  refine v_gR (n0 := 3) c_5_7 rfl ?_
  refine v_cVi c_5_8 rfl (by decide) rfl rfl (k_pct m3 h.kM hw) ?_
  refine v_ri c_5_9 ?_
  exact ap_0 h hz rfl
theorem a_ab2 (hw : MW M) (h : RZ s (M, L, S, tx, len)) : CC sc 5 [.ref 0, .int (nI 2)] s (AP (nI (mOwn M)) (M, L, S, tx, len)) := by
  obtain ⟨h, hz⟩ := h
  refine cc_of ml_5 rfl rfl ?_
  refine v_il1 c_5_0 ?_
  refine v_sw (n := 10) c_5_1 (by decide +kernel) ?_
  refine v_al0 c_5_10 ?_
  refine v_gR (n0 := 3) c_5_11 rfl ?_
  refine v_cVi c_5_12 rfl (by decide) rfl rfl (k_own m3 h.kM hw) ?_
  refine v_ri c_5_13 ?_
  exact ap_0 h hz rfl
theorem a_ab3 (hw : MW M) (h : RZ s (M, L, S, tx, len)) : CC sc 5 [.ref 0, .int (nI 3)] s (AP (nI (mSum M)) (M, L, S, tx, len)) := by
  obtain ⟨h, hz⟩ := h
  refine cc_of ml_5 rfl rfl ?_
  refine v_il1 c_5_0 ?_
  refine v_sw (n := 14) c_5_1 (by decide +kernel) ?_
  refine v_al0 c_5_14 ?_
  refine v_gR (n0 := 3) c_5_15 rfl ?_
  refine v_cVi c_5_16 rfl (by decide) rfl rfl (k_sum m3 h.kM hw) ?_
  refine v_ri c_5_17 ?_
  exact ap_0 h hz rfl
theorem a_ab4 (hw : MW M) (h : RZ s (M, L, S, tx, len)) : CC sc 5 [.ref 0, .int (nI 4)] s (AP (nI (mRn M)) (M, L, S, tx, len)) := by
  obtain ⟨h, hz⟩ := h
  refine cc_of ml_5 rfl rfl ?_
  refine v_il1 c_5_0 ?_
  refine v_sw (n := 18) c_5_1 (by decide +kernel) ?_
  refine v_al0 c_5_18 ?_
  refine v_cVR c_5_19 rfl (by decide) rfl rfl (n_pt h.kM hw) ?_
  rintro _ t ⟨rfl, T, F⟩
  refine v_gI c_5_20 rfl (T.1) ?_
  refine v_ri c_5_21 ?_
  exact ap_r h hz F (by omega) rfl
theorem a_ab5 (hw : MW M) (h : RZ s (M, L, S, tx, len)) : CC sc 5 [.ref 0, .int (nI 5)] s (AP (nI (tRo (mT M (mP M)))) (M, L, S, tx, len)) := by
  obtain ⟨h, hz⟩ := h
  refine cc_of ml_5 rfl rfl ?_
  refine v_il1 c_5_0 ?_
  refine v_sw (n := 22) c_5_1 (by decide +kernel) ?_
  refine v_al0 c_5_22 ?_
  refine v_cVR c_5_23 rfl (by decide) rfl rfl (n_pt h.kM hw) ?_
  rintro _ t ⟨rfl, T, F⟩
  refine v_gI c_5_24 rfl (T.2.1) ?_
  refine v_ri c_5_25 ?_
  exact ap_r h hz F (by omega) rfl
theorem a_ab6 (hw : MW M) (h : RZ s (M, L, S, tx, len)) : CC sc 5 [.ref 0, .int (nI 6)] s (AP (nI (mMov M)) (M, L, S, tx, len)) := by
  obtain ⟨h, hz⟩ := h
  refine cc_of ml_5 rfl rfl ?_
  refine v_il1 c_5_0 ?_
  refine v_sw (n := 26) c_5_1 (by decide +kernel) ?_
  refine v_al0 c_5_26 ?_
  refine v_cVR c_5_27 rfl (by decide) rfl rfl (n_pt h.kM hw) ?_
  rintro _ t ⟨rfl, T, F⟩
  refine v_al0 c_5_28 ?_
  refine v_gR (n0 := 3) c_5_29 rfl ?_
  refine v_cVi c_5_30 rfl (by decide) rfl rfl (c_mov m3 t55 (h.fr F (by omega)).kM hw T) ?_
  refine v_ri c_5_31 ?_
  exact ap_r h hz F (by omega) rfl
theorem a_ab7 (hw : MW M) (h : RZ s (M, L, S, tx, len)) : CC sc 5 [.ref 0, .int (nI 7)] s (AP (nI (mEnv M)) (M, L, S, tx, len)) := by
  obtain ⟨h, hz⟩ := h
  refine cc_of ml_5 rfl rfl ?_
  refine v_il1 c_5_0 ?_
  refine v_sw (n := 32) c_5_1 (by decide +kernel) ?_
  refine v_al0 c_5_32 ?_
  refine v_gR (n0 := 3) c_5_33 rfl ?_
  refine v_cVi c_5_34 rfl (by decide) rfl rfl (k_env m3 h.kM hw) ?_
  refine v_ri c_5_35 ?_
  exact ap_0 h hz rfl
theorem a_tr0 (hw : MW M) (h : RZ s (M, L, S, tx, len)) {i : Nat} (hi : i < mN M) : CC sc 6 [.ref 0, .int (nI i), .int (nI 0)] s (AP (nI (mH M i)) (M, L, S, tx, len)) := by
  obtain ⟨h, hz⟩ := h
  refine cc_of ml_6 rfl rfl ?_
  have h7 := hw.1
  refine v_al0 c_6_0 ?_
  refine v_il1 c_6_1 ?_
  refine v_cVv c_6_2 rfl (by decide) rfl rfl (n_tr h.kM hw (inN_7 hw.1 hi)) ?_
  refine v_il2 c_6_3 ?_
  refine v_sw (n := 5) c_6_4 (by decide +kernel) ?_
  refine v_al0 c_6_5 ?_
  refine v_gR (n0 := 3) c_6_6 rfl ?_
  refine v_gR (n0 := 5) c_6_7 rfl ?_
  refine v_il1 c_6_8 ?_
  refine v_at c_6_9 rfl (by omega) (h.kM.2.2.2 i hi) rfl ?_
  refine v_ri c_6_10 ?_
  exact ap_0 h hz rfl
theorem a_tr1 (hw : MW M) (h : RZ s (M, L, S, tx, len)) {i : Nat} (hi : i < mN M) : CC sc 6 [.ref 0, .int (nI i), .int (nI 1)] s (AP (nI (mR M i (mH M i))) (M, L, S, tx, len)) := by
  obtain ⟨h, hz⟩ := h
  refine cc_of ml_6 rfl rfl ?_
  refine v_al0 c_6_0 ?_
  refine v_il1 c_6_1 ?_
  refine v_cVv c_6_2 rfl (by decide) rfl rfl (n_tr h.kM hw (inN_7 hw.1 hi)) ?_
  refine v_il2 c_6_3 ?_
  refine v_sw (n := 11) c_6_4 (by decide +kernel) ?_
  refine v_al0 c_6_11 ?_
  refine v_gR (n0 := 3) c_6_12 rfl ?_
  refine v_il1 c_6_13 ?_
  refine v_cVi c_6_14 rfl (by decide) rfl rfl (k_rkH m3 h.kM hw hi) ?_
  refine v_ri c_6_15 ?_
  exact ap_0 h hz rfl
/-- present, as a number -/
def pI (M : zM) (i : Nat) : Int32 := bI (!(mL M).testBit i)
theorem a_tr2 (hw : MW M) (h : RZ s (M, L, S, tx, len)) {i : Nat} (hi : i < mN M) : CC sc 6 [.ref 0, .int (nI i), .int (nI 2)] s (AP (pI M i) (M, L, S, tx, len)) := by
  obtain ⟨h, hz⟩ := h
  refine cc_of ml_6 rfl rfl ?_
  have h7 := hw.1
  cases hl : (mL M).testBit i
  · refine v_al0 c_6_0 ?_
    refine v_il1 c_6_1 ?_
    refine v_cVv c_6_2 rfl (by decide) rfl rfl (n_tr h.kM hw (inN_7 hw.1 hi)) ?_
    refine v_il2 c_6_3 ?_
    refine v_sw (n := 16) c_6_4 (by decide +kernel) ?_
    refine v_al0 c_6_16 ?_
    refine v_gR (n0 := 3) c_6_17 rfl ?_
    refine v_il1 c_6_18 ?_
    refine v_cVi c_6_19 rfl (by decide) rfl rfl (k_isP m3 h.kM hw (by omega)) ?_
    refine v_if_eq_fb c_6_20 (by rw [hl]; rfl) ?_
    refine v_icN (n := 1) c_6_21 rfl ?_
    refine v_goto c_6_22 ?_
    refine v_ri c_6_24 ?_
    exact ap_0 h hz (by unfold pI; rw [hl]; rfl)
  · refine v_al0 c_6_0 ?_
    refine v_il1 c_6_1 ?_
    refine v_cVv c_6_2 rfl (by decide) rfl rfl (n_tr h.kM hw (inN_7 hw.1 hi)) ?_
    refine v_il2 c_6_3 ?_
    refine v_sw (n := 16) c_6_4 (by decide +kernel) ?_
    refine v_al0 c_6_16 ?_
    refine v_gR (n0 := 3) c_6_17 rfl ?_
    refine v_il1 c_6_18 ?_
    refine v_cVi c_6_19 rfl (by decide) rfl rfl (k_isP m3 h.kM hw (by omega)) ?_
    refine v_if_eq_tb c_6_20 (by rw [hl]; rfl) ?_
    refine v_icN (n := 0) c_6_23 rfl ?_
    refine v_ri c_6_24 ?_
    exact ap_0 h hz (by unfold pI; rw [hl]; rfl)
theorem a_tr3 (hw : MW M) (h : RZ s (M, L, S, tx, len)) {i : Nat} (hi : i < mN M) : CC sc 6 [.ref 0, .int (nI i), .int (nI 3)] s (AP (tGe (mT M (mP M)) i) (M, L, S, tx, len)) := by
  obtain ⟨h, hz⟩ := h
  refine cc_of ml_6 rfl rfl ?_
  have h7 := hw.1
  refine v_al0 c_6_0 ?_
  refine v_il1 c_6_1 ?_
  refine v_cVv c_6_2 rfl (by decide) rfl rfl (n_tr h.kM hw (inN_7 hw.1 hi)) ?_
  refine v_il2 c_6_3 ?_
  refine v_sw (n := 25) c_6_4 (by decide +kernel) ?_
  refine v_al0 c_6_25 ?_
  refine v_cVR c_6_26 rfl (by decide) rfl rfl (n_pt h.kM hw) ?_
  rintro _ t ⟨rfl, T, F⟩
  refine v_gR (n0 := 62) c_6_27 rfl ?_
  refine v_il1 c_6_28 ?_
  refine v_at c_6_29 rfl (by omega) ((T.2.2.1 i hi).1) rfl ?_
  refine v_ri c_6_30 ?_
  exact ap_r h hz F (by omega) rfl
theorem a_tr4 (hw : MW M) (h : RZ s (M, L, S, tx, len)) {i : Nat} (hi : i < mN M) : CC sc 6 [.ref 0, .int (nI i), .int (nI 4)] s (AP (tRf (mT M (mP M)) i) (M, L, S, tx, len)) := by
  obtain ⟨h, hz⟩ := h
  refine cc_of ml_6 rfl rfl ?_
  have h7 := hw.1
  refine v_al0 c_6_0 ?_
  refine v_il1 c_6_1 ?_
  refine v_cVv c_6_2 rfl (by decide) rfl rfl (n_tr h.kM hw (inN_7 hw.1 hi)) ?_
  refine v_il2 c_6_3 ?_
  refine v_sw (n := 31) c_6_4 (by decide +kernel) ?_
  refine v_al0 c_6_31 ?_
  refine v_cVR c_6_32 rfl (by decide) rfl rfl (n_pt h.kM hw) ?_
  rintro _ t ⟨rfl, T, F⟩
  refine v_gR (n0 := 63) c_6_33 rfl ?_
  refine v_il1 c_6_34 ?_
  refine v_at c_6_35 rfl (by omega) ((T.2.2.1 i hi).2.1) rfl ?_
  refine v_ri c_6_36 ?_
  exact ap_r h hz F (by omega) rfl
theorem a_tr5 (hw : MW M) (h : RZ s (M, L, S, tx, len)) {i : Nat} (hi : i < mN M) : CC sc 6 [.ref 0, .int (nI i), .int (nI 5)] s (AP (tGf (mT M (mP M)) i) (M, L, S, tx, len)) := by
  obtain ⟨h, hz⟩ := h
  refine cc_of ml_6 rfl rfl ?_
  have h7 := hw.1
  refine v_al0 c_6_0 ?_
  refine v_il1 c_6_1 ?_
  refine v_cVv c_6_2 rfl (by decide) rfl rfl (n_tr h.kM hw (inN_7 hw.1 hi)) ?_
  refine v_il2 c_6_3 ?_
  refine v_sw (n := 37) c_6_4 (by decide +kernel) ?_
  refine v_al0 c_6_37 ?_
  refine v_cVR c_6_38 rfl (by decide) rfl rfl (n_pt h.kM hw) ?_
  rintro _ t ⟨rfl, T, F⟩
  refine v_gR (n0 := 64) c_6_39 rfl ?_
  refine v_il1 c_6_40 ?_
  refine v_at c_6_41 rfl (by omega) ((T.2.2.1 i hi).2.2.1) rfl ?_
  refine v_ri c_6_42 ?_
  exact ap_r h hz F (by omega) rfl
theorem a_tr6 (hw : MW M) (h : RZ s (M, L, S, tx, len)) {i : Nat} (hi : i < mN M) : CC sc 6 [.ref 0, .int (nI i), .int (nI 6)] s (AP (tFi (mT M (mP M)) i) (M, L, S, tx, len)) := by
  obtain ⟨h, hz⟩ := h
  refine cc_of ml_6 rfl rfl ?_
  have h7 := hw.1
  refine v_al0 c_6_0 ?_
  refine v_il1 c_6_1 ?_
  refine v_cVv c_6_2 rfl (by decide) rfl rfl (n_tr h.kM hw (inN_7 hw.1 hi)) ?_
  refine v_il2 c_6_3 ?_
  refine v_sw (n := 43) c_6_4 (by decide +kernel) ?_
  refine v_al0 c_6_43 ?_
  refine v_cVR c_6_44 rfl (by decide) rfl rfl (n_pt h.kM hw) ?_
  rintro _ t ⟨rfl, T, F⟩
  refine v_gR (n0 := 65) c_6_45 rfl ?_
  refine v_il1 c_6_46 ?_
  refine v_at c_6_47 rfl (by omega) ((T.2.2.1 i hi).2.2.2) rfl ?_
  refine v_ri c_6_48 ?_
  exact ap_r h hz F (by omega) rfl
theorem a_rnk (hw : MW M) (h : RZ s (M, L, S, tx, len)) {i j : Nat} (hi : i < mN M) (hj : j < mN M) : CC sc 7 [.ref 0, .int (nI i), .int (nI j)] s (AP (nI (mR M i j)) (M, L, S, tx, len)) := by
  obtain ⟨h, hz⟩ := h
  refine cc_of ml_7 rfl rfl ?_
  refine v_al0 c_7_0 ?_
  refine v_il1 c_7_1 ?_
  refine v_cVv c_7_2 rfl (by decide) rfl rfl (n_tr h.kM hw (inN_7 hw.1 hi)) ?_
  refine v_al0 c_7_3 ?_
  refine v_il2 c_7_4 ?_
  refine v_cVv c_7_5 rfl (by decide) rfl rfl (n_th h.kM hw (inN_7 hw.1 hj)) ?_
  refine v_al0 c_7_6 ?_
  refine v_gR (n0 := 3) c_7_7 rfl ?_
  refine v_il1 c_7_8 ?_
  refine v_il2 c_7_9 ?_
  refine v_cVi c_7_10 rfl (by decide) rfl rfl (k_rkB m3 h.kM hw hi hj) ?_
  refine v_ri c_7_11 ?_
  exact ap_0 h hz rfl
theorem a_hld (hw : MW M) (h : RZ s (M, L, S, tx, len)) {i : Nat} (hi : i < mN M) : CC sc 8 [.ref 0, .int (nI (mH M i))] s (AP (nI i) (M, L, S, tx, len)) := by
  obtain ⟨h, hz⟩ := h
  refine cc_of ml_8 rfl rfl ?_
  have bi := hw.2.2.2.1 i hi
  refine v_al0 c_8_0 ?_
  refine v_il1 c_8_1 ?_
  refine v_cVv c_8_2 rfl (by decide) rfl rfl (n_th h.kM hw (inN_7 hw.1 bi)) ?_
  refine v_al0 c_8_3 ?_
  refine v_gR (n0 := 3) c_8_4 rfl ?_
  refine v_il1 c_8_5 ?_
  refine v_cVi c_8_6 rfl (by decide) rfl rfl (k_hdr m3 h.kM hw hi) ?_
  refine v_ri c_8_7 ?_
  exact ap_0 h hz rfl
theorem a_rg0 (hw : MW M) (h : RZ s (M, L, S, tx, len)) {r : Nat} (hr : r < mRn M) : CC sc 9 [.ref 0, .int (nI r), .int (nI 0)] s (AP (nI (rSet M r)) (M, L, S, tx, len)) := by
  obtain ⟨h, hz⟩ := h
  have hr7 := mRn_7 hw
  obtain ⟨r1, r2, r3, r4⟩ := rSet_ok hw hr
  refine cc_of ml_9 rfl rfl ?_
  refine v_al0 c_9_0 ?_
  refine v_cVR c_9_1 rfl (by decide) rfl rfl (n_pt h.kM hw) ?_
  rintro _ t ⟨rfl, T, F⟩
  have hR : t.1 (61 + 5) r = tTo (mT M (mP M)) r := (T.2.2.2 r hr).1
  refine v_as3 c_9_2 rfl ?_
  refine v_al3 c_9_3 ?_
  refine v_il1 c_9_4 ?_
  refine v_cSv c_9_5 rfl rfl rfl (n_rg T hr7 (inN_7 hr7 hr)) ?_
  refine v_il2 c_9_6 ?_
  refine v_sw (n := 8) c_9_7 (by decide +kernel) ?_
  refine v_al3 c_9_8 ?_
  refine v_gR (n0 := 66) c_9_9 rfl ?_
  refine v_il1 c_9_10 ?_
  refine v_at c_9_11 rfl (by omega) (hR.trans r1) rfl ?_
  refine v_ri c_9_12 ?_
  exact ap_r h hz F (by omega) rfl
theorem a_rg1 (hw : MW M) (h : RZ s (M, L, S, tx, len)) {r : Nat} (hr : r < mRn M) : CC sc 9 [.ref 0, .int (nI r), .int (nI 1)] s (AP (nI (pc (rSet M r))) (M, L, S, tx, len)) := by
  obtain ⟨h, hz⟩ := h
  have hr7 := mRn_7 hw
  obtain ⟨r1, r2, r3, r4⟩ := rSet_ok hw hr
  refine cc_of ml_9 rfl rfl ?_
  refine v_al0 c_9_0 ?_
  refine v_cVR c_9_1 rfl (by decide) rfl rfl (n_pt h.kM hw) ?_
  rintro _ t ⟨rfl, T, F⟩
  have hR : t.1 (61 + 5) r = tTo (mT M (mP M)) r := (T.2.2.2 r hr).1
  refine v_as3 c_9_2 rfl ?_
  refine v_al3 c_9_3 ?_
  refine v_il1 c_9_4 ?_
  refine v_cSv c_9_5 rfl rfl rfl (n_rg T hr7 (inN_7 hr7 hr)) ?_
  refine v_il2 c_9_6 ?_
  refine v_sw (n := 13) c_9_7 (by decide +kernel) ?_
  refine v_al3 c_9_13 ?_
  refine v_gR (n0 := 66) c_9_14 rfl ?_
  refine v_il1 c_9_15 ?_
  refine v_at c_9_16 rfl (by omega) (hR.trans r1) rfl ?_
  refine v_cSi c_9_17 rfl rfl rfl (k_bc r4) ?_
  refine v_ri c_9_18 ?_
  exact ap_r h hz F (by omega) rfl
theorem a_rg2 (hw : MW M) (h : RZ s (M, L, S, tx, len)) {r : Nat} (hr : r < mRn M) : CC sc 9 [.ref 0, .int (nI r), .int (nI 2)] s (AP (tRr (mT M (mP M)) r) (M, L, S, tx, len)) := by
  obtain ⟨h, hz⟩ := h
  have hr7 := mRn_7 hw
  refine cc_of ml_9 rfl rfl ?_
  refine v_al0 c_9_0 ?_
  refine v_cVR c_9_1 rfl (by decide) rfl rfl (n_pt h.kM hw) ?_
  rintro _ t ⟨rfl, T, F⟩
  refine v_as3 c_9_2 rfl ?_
  refine v_al3 c_9_3 ?_
  refine v_il1 c_9_4 ?_
  refine v_cSv c_9_5 rfl rfl rfl (n_rg T hr7 (inN_7 hr7 hr)) ?_
  refine v_il2 c_9_6 ?_
  refine v_sw (n := 19) c_9_7 (by decide +kernel) ?_
  refine v_al3 c_9_19 ?_
  refine v_gR (n0 := 67) c_9_20 rfl ?_
  refine v_il1 c_9_21 ?_
  refine v_at c_9_22 rfl (by omega) ((T.2.2.2 r hr).2) rfl ?_
  refine v_ri c_9_23 ?_
  exact ap_r h hz F (by omega) rfl
theorem a_rg3 (hw : MW M) (h : RZ s (M, L, S, tx, len)) {r : Nat} (hr : r < mRn M) : CC sc 9 [.ref 0, .int (nI r), .int (nI 3)] s (AP (gS M (rSet M r) (mN M)) (M, L, S, tx, len)) := by
  obtain ⟨h, hz⟩ := h
  have hr7 := mRn_7 hw
  obtain ⟨r1, r2, r3, r4⟩ := rSet_ok hw hr
  refine cc_of ml_9 rfl rfl ?_
  refine v_al0 c_9_0 ?_
  refine v_cVR c_9_1 rfl (by decide) rfl rfl (n_pt h.kM hw) ?_
  rintro _ t ⟨rfl, T, F⟩
  have hR : t.1 (61 + 5) r = tTo (mT M (mP M)) r := (T.2.2.2 r hr).1
  refine v_as3 c_9_2 rfl ?_
  refine v_al3 c_9_3 ?_
  refine v_il1 c_9_4 ?_
  refine v_cSv c_9_5 rfl rfl rfl (n_rg T hr7 (inN_7 hr7 hr)) ?_
  refine v_il2 c_9_6 ?_
  refine v_sw (n := 24) c_9_7 (by decide +kernel) ?_
  refine v_al3 c_9_24 ?_
  refine v_al0 c_9_25 ?_
  refine v_gR (n0 := 3) c_9_26 rfl ?_
  refine v_il1 c_9_27 ?_
  refine v_cVi c_9_28 rfl (by decide) rfl rfl (c_gai m3 t55 (h.fr F (by omega)).kM hw T (by omega) (hR.trans r1) r2 r4) ?_
  refine v_ri c_9_29 ?_
  exact ap_r h hz F (by omega) rfl
theorem a_why (hw : MW M) (h : RZ s (M, L, S, tx, len)) {i j : Nat} (hi : i < mN M) (hj : j < mN M) : CC sc 10 [.ref 0, .int (nI i), .int (nI j)] s (AP (nI (mAg M i j)) (M, L, S, tx, len)) := by
  obtain ⟨h, hz⟩ := h
  refine cc_of ml_10 rfl rfl ?_
  refine v_al0 c_10_0 ?_
  refine v_il1 c_10_1 ?_
  refine v_cVv c_10_2 rfl (by decide) rfl rfl (n_tr h.kM hw (inN_7 hw.1 hi)) ?_
  refine v_al0 c_10_3 ?_
  refine v_il2 c_10_4 ?_
  refine v_cVv c_10_5 rfl (by decide) rfl rfl (n_tr h.kM hw (inN_7 hw.1 hj)) ?_
  refine v_al0 c_10_6 ?_
  refine v_gR (n0 := 3) c_10_7 rfl ?_
  refine v_il1 c_10_8 ?_
  refine v_il2 c_10_9 ?_
  refine v_cVi c_10_10 rfl (by decide) rfl rfl (k_rsn m3 h.kM hw hi hj) ?_
  refine v_ri c_10_11 ?_
  exact ap_0 h hz rfl
theorem a_add (hw : MW M) (h : RZ s (M, L, S, tx, len)) (h6 : mN M < 7) : CC sc 11 [.ref 0] s (AP (nI (mN M)) (mAd M, (M :: L).take 14, S, tx, len)) := by
  obtain ⟨h, hz⟩ := h
  refine cc_of ml_11 rfl rfl ?_
  refine v_al0 c_11_0 ?_
  refine v_gR (n0 := 3) c_11_1 rfl ?_
  refine v_gI c_11_2 rfl (h.kM.1) ?_
  refine v_bpN (n := 7) c_11_3 rfl ?_
  refine v_icmp_lt_T c_11_4 (by omega) (by omega) (by omega) ?_
  refine v_al0 c_11_10 ?_
  refine v_gR (n0 := 6) c_11_11 rfl ?_
  refine v_al0 c_11_12 ?_
  refine v_gR (n0 := 3) c_11_13 rfl ?_
  refine v_cVV c_11_14 rfl (by decide) rfl rfl (h_rem h.2.1 h.1 hw) ?_
  rintro t ⟨hH, F⟩
  have hMt : MK t 3 M := h.1.fr F (by omega)
  refine v_al0 c_11_15 ?_
  refine v_gR (n0 := 3) c_11_16 rfl ?_
  refine v_cVI c_11_17 rfl (by decide) rfl rfl (k_add m3 hMt hw (by omega)) ?_
  rintro x u ⟨rfl, hMu, F3⟩
  refine v_ri c_11_18 ?_
  exact ⟨_, rfl, rfl, (h.act2 F hH F3 hMu).1, F3.2.trans (F.2.trans hz)⟩
theorem a_srk (hw : MW M) (h : RZ s (M, L, S, tx, len)) {i j r : Nat} (hi : i < mN M) (hj : j < mN M) (hr : r ≤ 9) : CC sc 12 [.ref 0, .int (nI i), .int (nI j), .int (nI r)] s (AP (nI (mR M i j)) (mRk M i j r, (M :: L).take 14, S, tx, len)) := by
  obtain ⟨h, hz⟩ := h
  have h7 := hw.1
  refine cc_of ml_12 rfl rfl ?_
  refine v_al0 c_12_0 ?_
  refine v_il1 c_12_1 ?_
  refine v_cVv c_12_2 rfl (by decide) rfl rfl (n_tr h.kM hw (inN_7 hw.1 hi)) ?_
  refine v_al0 c_12_3 ?_
  refine v_il2 c_12_4 ?_
  refine v_cVv c_12_5 rfl (by decide) rfl rfl (n_th h.kM hw (inN_7 hw.1 hj)) ?_
  refine v_il3 c_12_6 ?_
  refine v_if_lt_F c_12_7 (by omega) ?_
  refine v_il3 c_12_8 ?_
  refine v_bpN (n := 9) c_12_9 rfl ?_
  refine v_icmp_le_T c_12_10 (by omega) (by omega) (by omega) ?_
  refine v_al0 c_12_16 ?_
  refine v_gR (n0 := 6) c_12_17 rfl ?_
  refine v_al0 c_12_18 ?_
  refine v_gR (n0 := 3) c_12_19 rfl ?_
  refine v_cVV c_12_20 rfl (by decide) rfl rfl (h_rem h.2.1 h.1 hw) ?_
  rintro t ⟨hH, F⟩
  have hMt : MK t 3 M := h.1.fr F (by omega)
  refine v_al0 c_12_21 ?_
  refine v_gR (n0 := 3) c_12_22 rfl ?_
  refine v_il1 c_12_23 ?_
  refine v_il2 c_12_24 ?_
  refine v_cVi c_12_25 rfl (by decide) rfl rfl (k_rkB m3 hMt hw hi hj) ?_
  refine v_is4 c_12_26 rfl ?_
  refine v_al0 c_12_27 ?_
  refine v_gR (n0 := 3) c_12_28 rfl ?_
  refine v_il1 c_12_29 ?_
  refine v_il2 c_12_30 ?_
  refine v_il3 c_12_31 ?_
  refine v_cVv c_12_32 rfl (by decide) rfl rfl (k_put m3 (by omega) (by omega)) ?_
  refine v_il4 c_12_33 ?_
  refine v_ri c_12_34 ?_
  exact ⟨_, rfl, rfl, (h.act2 F hH (FR.sI (by omega) (by omega)) (MK.put hMt hw hi hj)).1, F.2.trans hz⟩
theorem a_exc (hw : MW M) (h : RZ s (M, L, S, tx, len)) {i j : Nat} (hi : i < mN M) (hj : j < mN M) (ha : mAg M i j = 0) : CC sc 13 [.ref 0, .int (nI i), .int (nI j)] s (AP (nI (mH (mSw M i j) i)) (mSw M i j, (M :: L).take 14, S, tx, len)) := by
  obtain ⟨h, hz⟩ := h
  have h7 := hw.1
  refine cc_of ml_13 rfl rfl ?_
  refine v_al0 c_13_0 ?_
  refine v_il1 c_13_1 ?_
  refine v_cVv c_13_2 rfl (by decide) rfl rfl (n_tr h.kM hw (inN_7 hw.1 hi)) ?_
  refine v_al0 c_13_3 ?_
  refine v_il2 c_13_4 ?_
  refine v_cVv c_13_5 rfl (by decide) rfl rfl (n_tr h.kM hw (inN_7 hw.1 hj)) ?_
  refine v_al0 c_13_6 ?_
  refine v_gR (n0 := 3) c_13_7 rfl ?_
  refine v_il1 c_13_8 ?_
  refine v_il2 c_13_9 ?_
  refine v_cVi c_13_10 rfl (by decide) rfl rfl (k_rsn m3 h.kM hw hi hj) ?_
  refine v_if_eq_T c_13_11 (ha) (by omega) ?_
  refine v_al0 c_13_17 ?_
  refine v_gR (n0 := 6) c_13_18 rfl ?_
  refine v_al0 c_13_19 ?_
  refine v_gR (n0 := 3) c_13_20 rfl ?_
  refine v_cVV c_13_21 rfl (by decide) rfl rfl (h_rem h.2.1 h.1 hw) ?_
  rintro t ⟨hH, F⟩
  have hMt : MK t 3 M := h.1.fr F (by omega)
  have hMu := MK.sw hMt hi hj
  refine v_al0 c_13_22 ?_
  refine v_gR (n0 := 3) c_13_23 rfl ?_
  refine v_il1 c_13_24 ?_
  refine v_il2 c_13_25 ?_
  refine v_cVv c_13_26 rfl (by decide) rfl rfl (k_swp m3 (by omega) (by omega)) ?_
  refine v_al0 c_13_27 ?_
  refine v_gR (n0 := 3) c_13_28 rfl ?_
  refine v_gR (n0 := 5) c_13_29 rfl ?_
  refine v_il1 c_13_30 ?_
  refine v_at c_13_31 rfl (by omega) (hMu.2.2.2 i hi) rfl ?_
  refine v_ri c_13_32 ?_
  exact ⟨_, rfl, rfl, (h.act2 F hH ((FR.sI (by omega) (by omega)).tr (FR.sI (by omega) (by omega))) hMu).1, F.2.trans hz⟩
theorem a_drg (hw : MW M) (h : RZ s (M, L, S, tx, len)) {r : Nat} (hr : r < mRn M) : CC sc 14 [.ref 0, .int (nI r)] s (AP (nI (cnt (fun i => (rSet M r).testBit i && !decide (mH M i = gT M (mP M) i)) (mN M))) (mTk M (rSet M r) (gT M (mP M)), (M :: L).take 14, S, tx, len)) := by
  obtain ⟨h, hz⟩ := h
  have h7 := hw.1
  have hr7 := mRn_7 hw
  obtain ⟨r1, r2, r3, r4⟩ := rSet_ok hw hr
  have hg0 : ∀ i, (rSet M r).testBit i = true → tGe (mT M (mP M)) i = nI (gT M (mP M) i) ∧ gT M (mP M) i < 7 := fun i hb => by
    obtain ⟨g1, g2⟩ := gT_ok hw mP_n (r2 i hb)
    exact ⟨g1, by omega⟩
  refine cc_of ml_14 rfl rfl ?_
  refine v_al0 c_14_0 ?_
  refine v_cVR c_14_1 rfl (by decide) rfl rfl (n_pt h.kM hw) ?_
  rintro _ t ⟨rfl, T, F⟩
  have h1 := h.fr F (by omega)
  refine v_as2 c_14_2 rfl ?_
  refine v_al2 c_14_3 ?_
  refine v_il1 c_14_4 ?_
  refine v_cSv c_14_5 rfl rfl rfl (n_rg T hr7 (inN_7 hr7 hr)) ?_
  refine v_al0 c_14_6 ?_
  refine v_gR (n0 := 6) c_14_7 rfl ?_
  refine v_al0 c_14_8 ?_
  refine v_gR (n0 := 3) c_14_9 rfl ?_
  refine v_cVV c_14_10 rfl (by decide) rfl rfl (h_rem h1.2.1 h1.1 hw) ?_
  rintro u ⟨hH, Fu⟩
  have T2 := T.fr Fu (by omega)
  have hMu : MK u 3 M := h1.1.fr Fu (by omega)
  refine v_al0 c_14_11 ?_
  refine v_gR (n0 := 3) c_14_12 rfl ?_
  refine v_al2 c_14_13 ?_
  refine v_al2 c_14_14 ?_
  refine v_gR (n0 := 66) c_14_15 rfl ?_
  refine v_il1 c_14_16 ?_
  refine v_at c_14_17 rfl (by omega) ((T2.2.2.2 r hr).1.trans r1) rfl ?_
  refine v_cVI c_14_18 rfl (by decide) rfl rfl (k_tak m3 t55 hMu hw (by omega) (fun i hi hb => ⟨(T2.2.2.1 i hi).1.trans (hg0 i hb).1, (hg0 i hb).2⟩)) ?_
  rintro x v ⟨rfl, hMv, Fv⟩
  refine v_ri c_14_19 ?_
  exact ⟨_, rfl, rfl, (h1.act2 Fu hH Fv hMv).1, Fv.2.trans (Fu.2.trans (F.2.trans hz))⟩
theorem a_trd (hw : MW M) (h : RZ s (M, L, S, tx, len)) : CC sc 15 [.ref 0] s (AP (nI (cnt (fun i => (mP M).testBit i && !decide (mH M i = gT M (mP M) i)) (mN M))) (mTk M (mP M) (gT M (mP M)), (M :: L).take 14, S, tx, len)) := by
  obtain ⟨h, hz⟩ := h
  have h7 := hw.1
  have hP := mP_128 hw
  have hg0 : ∀ i, (mP M).testBit i = true → tGe (mT M (mP M)) i = nI (gT M (mP M) i) ∧ gT M (mP M) i < 7 := fun i hb => by
    obtain ⟨g1, g2⟩ := gT_ok hw mP_n hb
    exact ⟨g1, by omega⟩
  refine cc_of ml_15 rfl rfl ?_
  refine v_al0 c_15_0 ?_
  refine v_gR (n0 := 6) c_15_1 rfl ?_
  refine v_al0 c_15_2 ?_
  refine v_gR (n0 := 3) c_15_3 rfl ?_
  refine v_cVV c_15_4 rfl (by decide) rfl rfl (h_rem h.2.1 h.1 hw) ?_
  rintro t ⟨hH, F⟩
  have hMt : MK t 3 M := h.1.fr F (by omega)
  refine v_al0 c_15_5 ?_
  refine v_gR (n0 := 3) c_15_6 rfl ?_
  refine v_al0 c_15_7 ?_
  refine v_cVR c_15_8 rfl (by decide) rfl rfl (n_pt hMt hw) ?_
  rintro _ u ⟨rfl, T, Fu⟩
  have hMu : MK u 3 M := hMt.fr Fu (by omega)
  refine v_al0 c_15_9 ?_
  refine v_gR (n0 := 3) c_15_10 rfl ?_
  refine v_cVi c_15_11 rfl (by decide) rfl rfl (k_pre m3 hMu hw) ?_
  refine v_cVI c_15_12 rfl (by decide) rfl rfl (k_tak m3 t55 hMu hw (by omega) (fun i hi hb => ⟨(T.2.2.1 i hi).1.trans (hg0 i hb).1, (hg0 i hb).2⟩)) ?_
  rintro x v ⟨rfl, hMv, Fv⟩
  refine v_ri c_15_13 ?_
  have h1 : RCw t (M, (M :: L).take 14, S, tx, len) := h.act F (by omega) hMt hH
  have h2 := h1.fr Fu (by omega)
  exact ⟨_, rfl, rfl, h2.act Fv (by omega) hMv (h2.2.1.fr Fv (by omega)), Fv.2.trans (Fu.2.trans (F.2.trans hz))⟩
theorem a_lea (hw : MW M) (h : RZ s (M, L, S, tx, len)) {i : Nat} (hi : i < mN M) (hl : (mL M).testBit i = false) : CC sc 16 [.ref 0, .int (nI i)] s (AP (nI (pc (mP (mLv M i)))) (mLv M i, (M :: L).take 14, S, tx, len)) := by
  obtain ⟨h, hz⟩ := h
  have h7 := hw.1
  refine cc_of ml_16 rfl rfl ?_
  refine v_al0 c_16_0 ?_
  refine v_il1 c_16_1 ?_
  refine v_cVv c_16_2 rfl (by decide) rfl rfl (n_tr h.kM hw (inN_7 hw.1 hi)) ?_
  refine v_al0 c_16_3 ?_
  refine v_gR (n0 := 3) c_16_4 rfl ?_
  refine v_il1 c_16_5 ?_
  refine v_cVi c_16_6 rfl (by decide) rfl rfl (k_isP m3 h.kM hw (by omega)) ?_
  refine v_if_ne_tb c_16_7 (by rw [hl]; rfl) ?_
  refine v_al0 c_16_13 ?_
  refine v_gR (n0 := 6) c_16_14 rfl ?_
  refine v_al0 c_16_15 ?_
  refine v_gR (n0 := 3) c_16_16 rfl ?_
  refine v_cVV c_16_17 rfl (by decide) rfl rfl (h_rem h.2.1 h.1 hw) ?_
  rintro t ⟨hH, F⟩
  have hMt : MK t 3 M := h.1.fr F (by omega)
  have hMu := MK.snd (i := i) hMt
  refine v_al0 c_16_18 ?_
  refine v_gR (n0 := 3) c_16_19 rfl ?_
  refine v_il1 c_16_20 ?_
  refine v_cVv c_16_21 rfl (by decide) rfl rfl (k_snd m3 hMt hw (by omega)) ?_
  refine v_al0 c_16_22 ?_
  refine v_gR (n0 := 3) c_16_23 rfl ?_
  refine v_cVi c_16_24 rfl (by decide) rfl rfl (k_pct m3 hMu (hw.lv hi)) ?_
  refine v_ri c_16_25 ?_
  exact ⟨_, rfl, rfl, (h.act2 F hH (FR.sI (by omega) (by omega)) hMu).1, F.2.trans hz⟩
theorem a_hom (hw : MW M) (h : RZ s (M, L, S, tx, len)) : CC sc 17 [.ref 0] s (AP (nI (mHc M)) (mHo M, (M :: L).take 14, S, tx, len)) := by
  obtain ⟨h, hz⟩ := h
  refine cc_of ml_17 rfl rfl ?_
  refine v_al0 c_17_0 ?_
  refine v_gR (n0 := 6) c_17_1 rfl ?_
  refine v_al0 c_17_2 ?_
  refine v_gR (n0 := 3) c_17_3 rfl ?_
  refine v_cVV c_17_4 rfl (by decide) rfl rfl (h_rem h.2.1 h.1 hw) ?_
  rintro t ⟨hH, F⟩
  have hMt : MK t 3 M := h.1.fr F (by omega)
  refine v_al0 c_17_5 ?_
  refine v_gR (n0 := 3) c_17_6 rfl ?_
  refine v_cVI c_17_7 rfl (by decide) rfl rfl (k_hom m3 hMt hw) ?_
  rintro x u ⟨rfl, hMu, F3⟩
  refine v_ri c_17_8 ?_
  exact ⟨_, rfl, rfl, (h.act2 F hH F3 hMu).1, F3.2.trans (F.2.trans hz)⟩
theorem a_und {N : zM} (hN : MW N) (h : RZ s (M, N :: L, S, tx, len)) : CC sc 18 [.ref 0] s (AP (nI L.length) (N, L, S, tx, len)) := by
  obtain ⟨h, hz⟩ := h
  obtain ⟨hl14, nx, -, a2, -⟩ := h.2.1
  have hl14 : L.length + 1 ≤ 14 := hl14
  refine cc_of ml_18 rfl rfl ?_
  refine v_al0 c_18_0 ?_
  refine v_gR (n0 := 6) c_18_1 rfl ?_
  refine v_cVi c_18_2 rfl (by decide) rfl rfl ((show RI sc 212 [.ref 6] s (nI (L.length + 1)) s from h_siz h.2.1)) ?_
  refine v_if_ne_T c_18_3 (by omega) (by omega) ?_
  refine v_al0 c_18_9 ?_
  refine v_gR (n0 := 6) c_18_10 rfl ?_
  refine v_al0 c_18_11 ?_
  refine v_gR (n0 := 3) c_18_12 rfl ?_
  refine v_cVV c_18_13 rfl (by decide) rfl rfl (h_tkb h.2.1 hN.1) ?_
  rintro t ⟨hH, hMt, F⟩
  refine v_al0 c_18_14 ?_
  refine v_gR (n0 := 6) c_18_15 rfl ?_
  refine v_cVi c_18_16 rfl (by decide) rfl rfl (h_siz hH) ?_
  refine v_ri c_18_17 ?_
  exact ⟨_, rfl, rfl, h.act F (by omega) hMt hH, F.2.trans hz⟩
theorem a_grp (hw : MW M) (h : RZ s (M, L, S, tx, len)) (much : Bool) : CC sc 19 [.ref 0, .int (bI much)] s (AP (oI (bgF M much (2 ^ mN M - 1))) (M, L, S, tx, len)) := by
  obtain ⟨h, hz⟩ := h
  refine cc_of ml_19 rfl rfl ?_
  refine v_al0 c_19_0 ?_
  refine v_gR (n0 := 77) c_19_1 rfl ?_
  refine v_al0 c_19_2 ?_
  refine v_gR (n0 := 3) c_19_3 rfl ?_
  refine v_il1 c_19_4 ?_
  refine v_cVI c_19_5 rfl (by decide) rfl rfl (s_grp m3 (by omega) h.kM hw much) ?_
  rintro x t ⟨hx, F⟩
  refine v_ri c_19_6 ?_
  exact ap_r h hz F (by omega) hx
theorem a_gms (hw : MW M) (h : RZ s (M, L, S, tx, len)) (much : Bool) : CC sc 20 [.ref 0, .int (bI much)] s (AP (nI (mGr M much)) (M, L, S, tx, len)) := by
  obtain ⟨h, hz⟩ := h
  refine cc_of ml_20 rfl rfl ?_
  refine v_al0 c_20_0 ?_
  refine v_gR (n0 := 77) c_20_1 rfl ?_
  refine v_al0 c_20_2 ?_
  refine v_gR (n0 := 3) c_20_3 rfl ?_
  refine v_il1 c_20_4 ?_
  refine v_cVI c_20_5 rfl (by decide) rfl rfl (s_grs m3 (by omega) h.kM hw much) ?_
  rintro x t ⟨hx, F⟩
  refine v_ri c_20_6 ?_
  exact ap_r h hz F (by omega) hx
theorem a_lst (hw : MW M) (h : RZ s (M, L, S, tx, len)) : CC sc 21 [.ref 0] s (AP (nI (mLS M (mK M) 0)) (M, L, S, tx, len)) := by
  obtain ⟨h, hz⟩ := h
  refine cc_of ml_21 rfl rfl ?_
  refine v_al0 c_21_0 ?_
  refine v_gR (n0 := 77) c_21_1 rfl ?_
  refine v_al0 c_21_2 ?_
  refine v_gR (n0 := 3) c_21_3 rfl ?_
  refine v_cVI c_21_4 rfl (by decide) rfl rfl (s_lsm m3 (by omega) h.kM hw) ?_
  rintro x t ⟨hx, -, -, F⟩
  refine v_ri c_21_5 ?_
  exact ap_r h hz F (by omega) hx
theorem a_lof (hw : MW M) (h : RZ s (M, L, S, tx, len)) {i : Nat} (hi : i < mN M) : CC sc 22 [.ref 0, .int (nI i)] s (AP (lOf M i) (M, L, S, tx, len)) := by
  obtain ⟨h, hz⟩ := h
  refine cc_of ml_22 rfl rfl ?_
  refine v_al0 c_22_0 ?_
  refine v_il1 c_22_1 ?_
  refine v_cVv c_22_2 rfl (by decide) rfl rfl (n_tr h.kM hw (inN_7 hw.1 hi)) ?_
  refine v_al0 c_22_3 ?_
  refine v_gR (n0 := 77) c_22_4 rfl ?_
  refine v_al0 c_22_5 ?_
  refine v_gR (n0 := 3) c_22_6 rfl ?_
  refine v_il1 c_22_7 ?_
  refine v_cVI c_22_8 rfl (by decide) rfl rfl (s_tal m3 (by omega) h.kM hw hi) ?_
  rintro x t ⟨hx, F⟩
  refine v_ri c_22_9 ?_
  exact ap_r h hz F (by omega) hx
theorem a_bet (hw : MW M) (h : RZ s (M, L, S, tx, len)) : CC sc 23 [.ref 0] s (AP (mBw M) (M, L, S, tx, len)) := by
  obtain ⟨h, hz⟩ := h
  refine cc_of ml_23 rfl rfl ?_
  refine v_al0 c_23_0 ?_
  refine v_gR (n0 := 77) c_23_1 rfl ?_
  refine v_al0 c_23_2 ?_
  refine v_gR (n0 := 3) c_23_3 rfl ?_
  refine v_cVI c_23_4 rfl (by decide) rfl rfl (s_bet m3 (by omega) h.kM hw) ?_
  rintro x t ⟨hx, F⟩
  refine v_ri c_23_5 ?_
  exact ap_r h hz F (by omega) hx
theorem a_harX (hw : MW M) (h : RZ s (M, L, S, tx, len)) {i : Nat} (hi : i < mN M) (hl : (mL M).testBit i = true) : CC sc 24 [.ref 0, .int (nI i)] s (AP (nI 0) (M, L, S, tx, len)) := by
  obtain ⟨h, hz⟩ := h
  have h7 := hw.1
  refine cc_of ml_24 rfl rfl ?_
  refine v_al0 c_24_0 ?_
  refine v_il1 c_24_1 ?_
  refine v_cVv c_24_2 rfl (by decide) rfl rfl (n_tr h.kM hw (inN_7 hw.1 hi)) ?_
  refine v_al0 c_24_3 ?_
  refine v_gR (n0 := 3) c_24_4 rfl ?_
  refine v_il1 c_24_5 ?_
  refine v_cVi c_24_6 rfl (by decide) rfl rfl (k_isP m3 h.kM hw (by omega)) ?_
  refine v_if_ne_fb c_24_7 (by rw [hl]; rfl) ?_
  refine v_icN (n := 0) c_24_8 rfl ?_
  refine v_ri c_24_9 ?_
  exact ap_0 h hz rfl
theorem a_few (hw : MW M) (h : RZ s (M, L, S, tx, len)) {i j : Nat} (hi : i < mN M) (hj : j < mN M) : CC sc 25 [.ref 0, .int (nI i), .int (nI j)] s (AP (fewS M i j) (M, L, S, tx, len)) := by
  obtain ⟨h, hz⟩ := h
  refine cc_of ml_25 rfl rfl ?_
  refine v_al0 c_25_0 ?_
  refine v_il1 c_25_1 ?_
  refine v_cVv c_25_2 rfl (by decide) rfl rfl (n_tr h.kM hw (inN_7 hw.1 hi)) ?_
  refine v_al0 c_25_3 ?_
  refine v_il2 c_25_4 ?_
  refine v_cVv c_25_5 rfl (by decide) rfl rfl (n_th h.kM hw (inN_7 hw.1 hj)) ?_
  refine v_al0 c_25_6 ?_
  refine v_gR (n0 := 58) c_25_7 rfl ?_
  refine v_al0 c_25_8 ?_
  refine v_gR (n0 := 3) c_25_9 rfl ?_
  refine v_cVV c_25_10 rfl (by decide) rfl rfl (k_bec m52 m3 (by omega)) ?_
  rintro t ht
  have F := ht.2.2.2.2
  have hMt : MK t 58 M := MK.bec h.kM hw.1 ht
  refine v_al0 c_25_11 ?_
  refine v_gR (n0 := 83) c_25_12 rfl ?_
  refine v_al0 c_25_13 ?_
  refine v_gR (n0 := 58) c_25_14 rfl ?_
  refine v_il1 c_25_15 ?_
  refine v_il2 c_25_16 ?_
  refine v_cVI c_25_17 rfl (by decide) rfl rfl (s_few hMt hw hi hj) ?_
  rintro x u ⟨hx, F2⟩
  refine v_ri c_25_18 ?_
  exact ap_r h hz ((F.up (lo' := 58) (hi' := 86) (by omega) (by omega)).tr F2) (by omega) hx
theorem a_sav (hw : MW M) (h : RZ s (M, L, S, tx, len)) : CC sc 28 [.ref 0, .int (nI 0)] s (AP (nI (mN M)) (M, L, (fun j => if j = 0 then some M else S j), tx, len)) := by
  obtain ⟨h, hz⟩ := h
  have h7 := hw.1
  refine cc_of ml_28 rfl rfl ?_
  refine v_al0 c_28_0 ?_
  refine v_il1 c_28_1 ?_
  refine v_cVR c_28_2 rfl (by decide) rfl rfl (n_sl (by omega)) ?_
  rintro x t ⟨e, rfl⟩
  have e : x = 50 := e
  subst e
  refine v_as2 c_28_3 rfl ?_
  refine v_al2 c_28_4 ?_
  refine v_gR (n0 := 51) c_28_5 rfl ?_
  refine v_al0 c_28_6 ?_
  refine v_gR (n0 := 3) c_28_7 rfl ?_
  refine v_cVV c_28_8 rfl (by decide) rfl rfl (k_bec (show isM 51 = true from rfl) m3 (by omega)) ?_
  rintro t' ht
  have F := ht.2.2.2.2
  have hMt : MK t' 51 M := MK.bec h.kM h7 ht
  have F5 : FR 50 51 t' (sI t' 50 1 (bI true)) := FR.sI (by omega) (by omega)
  have hM9 : MK (sI t' 50 1 (bI true)) 3 M := (h.kM.fr F (by omega)).fr F5 (by omega)
  refine v_al2 c_28_9 ?_
  refine v_icN (n := 1) c_28_10 rfl ?_
  refine v_pZ (B := true) c_28_11 rfl rfl ?_
  refine v_al0 c_28_12 ?_
  refine v_gR (n0 := 3) c_28_13 rfl ?_
  refine v_gI c_28_14 rfl (hM9.1) ?_
  refine v_ri c_28_15 ?_
  refine ⟨_, rfl, rfl, ⟨hM9, (h.2.1.fr F (by omega)).fr F5 (by omega), fun j hj => ?_, (h.T.fr F (by omega) (by omega)).fr F5 (by omega) (by omega)⟩, F.2.trans hz⟩
  show match (if j = 0 then some M else S j) with
    | none => _
    | some N => _
  by_cases e : j = 0
  · subst e
    rw [if_pos rfl]
    exact ⟨sI_s, hMt.fr F5 (by omega)⟩
  · rw [if_neg e]
    have h9 := h.2.2.1 j hj
    have h9 : match S j with
      | none => t.1 (50 + 4 * j) 1 = bI false
      | some N => t.1 (50 + 4 * j) 1 = bI true ∧ MK t (51 + 4 * j) N := h9
    revert h9
    cases S j with
    | none => exact fun h9 => by rw [sI_o (by omega), F.at (by omega)]; exact h9
    | some N => exact fun h9 => ⟨by rw [sI_o (by omega), F.at (by omega)]; exact h9.1, (h9.2.fr F (by omega)).fr F5 (by omega)⟩
theorem a_res {N : zM} (hN : MW N) (h : RZ s (M, L, S, tx, len)) (hS : S 0 = some N) : CC sc 29 [.ref 0, .int (nI 0)] s (AP (nI (mN N)) (N, [], S, tx, len)) := by
  obtain ⟨h, hz⟩ := h
  have h9 := h.2.2.1 0 (by omega)
  have h9 : match S 0 with
    | none => s.1 (50 + 4 * 0) 1 = bI false
    | some N => s.1 (50 + 4 * 0) 1 = bI true ∧ MK s (51 + 4 * 0) N := h9
  rw [hS] at h9
  obtain ⟨c1, c2⟩ := h9
  refine cc_of ml_29 rfl rfl ?_
  refine v_al0 c_29_0 ?_
  refine v_il1 c_29_1 ?_
  refine v_cVR c_29_2 rfl (by decide) rfl rfl (n_sl (by omega)) ?_
  rintro x t ⟨e, rfl⟩
  have e : x = 50 := e
  subst e
  refine v_as2 c_29_3 rfl ?_
  refine v_al2 c_29_4 ?_
  refine v_gZ c_29_5 rfl (c1) ?_
  refine v_if_ne_tb c_29_6 (rfl) ?_
  refine v_al0 c_29_12 ?_
  refine v_gR (n0 := 3) c_29_13 rfl ?_
  refine v_al2 c_29_14 ?_
  refine v_gR (n0 := 51) c_29_15 rfl ?_
  refine v_cVV c_29_16 rfl (by decide) rfl rfl (k_bec m3 (show isM 51 = true from rfl) (by omega)) ?_
  rintro t' ht
  have F := ht.2.2.2.2
  have hMt : MK t' 3 N := MK.bec c2 hN.1 ht
  have F6 : FR 6 7 t' (sI t' 6 1 (nI 0)) := FR.sI (by omega) (by omega)
  have hM9 := hMt.fr F6 (by omega)
  refine v_al0 c_29_17 ?_
  refine v_gR (n0 := 6) c_29_18 rfl ?_
  refine v_cVv c_29_19 rfl (by decide) rfl rfl (h_frg) ?_
  refine v_al0 c_29_20 ?_
  refine v_gR (n0 := 3) c_29_21 rfl ?_
  refine v_gI c_29_22 rfl (hM9.1) ?_
  refine v_ri c_29_23 ?_
  exact ⟨_, rfl, rfl, ⟨hM9, HK.nil (h.2.1.fr F (by omega)), (h.2.2.1.fr F (by omega)).fr F6 (by omega), (h.T.fr F (by omega) (by omega)).fr F6 (by omega) (by omega)⟩, F.2.trans hz⟩
end API
