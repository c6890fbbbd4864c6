/-! THE MARKET, its loops and its changes -/
theorem orS_s {f : Nat → Nat} {i : Nat} : orS f (i + 1) = orS f i ||| f i := rfl
theorem cnt_s {p : Nat → Bool} {i : Nat} : cnt p (i + 1) = cnt p i + (p i).toNat := rfl
theorem smm_s {f : Nat → Nat} {i : Nat} : smm f (i + 1) = smm f i + f i := rfl
theorem cnt_t {p : Nat → Bool} {i : Nat} (h : p i = true) : cnt p (i + 1) = cnt p i + 1 := by rw [cnt_s, h]; rfl
theorem cnt_f {p : Nat → Bool} {i : Nat} (h : p i = false) : cnt p (i + 1) = cnt p i := by rw [cnt_s, h]; rfl
theorem kMT_dj0 : ((List.range 88).all fun o => !isM o || (decide (o + 2 < 61 ∨ 68 < o) && decide (o + 2 < 69 ∨ 76 < o))) = true := by decide +kernel
theorem kMT_dj {o p : Nat} (h : isM o = true) (h' : isT p = true) : o + 2 < p ∨ p + 7 < o := by
  have h1 := List.all_eq_true.mp kMT_dj0 o (List.mem_range.mpr (kM_lt h))
  rw [h] at h1
  simp only [Bool.not_true, Bool.false_or, Bool.and_eq_true, decide_eq_true_eq] at h1
  rcases kT_or h' with rfl | rfl <;> omega
def mOwn (M : zM) : Nat := cnt (fun i => decide (mH M i = i)) (mN M)
def mEnv (M : zM) : Nat := smm (fun i => cnt (fun j => mEn M i j) (mN M)) (mN M)
section KM2
variable {sc : Nat × (Nat → Int32)} {s : zv_S} {o : Nat} {M : zM}
theorem k_thg (ho : isM o = true) (hM : MK s o M) (hw : MW M) {S : Nat} (hS : S < 2147483648) : RI sc 126 [.ref o, .int (nI S)] s (nI (mTh M S)) s := by
  refine cc_of ml_126 rfl rfl ?_
  have := hw.1
  refine v_icN (n := 0) c_126_0 rfl ?_
  refine v_is2 c_126_1 rfl ?_
  refine v_icN (n := 0) c_126_2 rfl ?_
  refine v_is3 c_126_3 rfl ?_
  refine vv_for (mN M) (fun i => [some (.ref o), some (.int (nI S)), some (.int (nI (orS (fun i => if S.testBit i then 2 ^ mH M i else 0) i))), some (.int (nI i))]) ?_ ?_
  · intro i hi hk
    have := hw.2.2.2.1 i hi
    cases h : S.testBit i
    · rw [orS_s, h] at hk
      simp only [Bool.false_eq_true, if_false, Nat.or_zero] at hk
      refine v_il3 c_126_4 ?_
      refine v_al0 c_126_5 ?_
      refine v_gI c_126_6 (kM_f0 ho) (hM.1) ?_
      refine v_icmp_ge_F c_126_7 (by omega) (by omega) (by omega) ?_
      refine v_il1 c_126_8 ?_
      refine v_il3 c_126_9 ?_
      refine v_cSi c_126_10 rfl rfl rfl (k_con hS (by omega)) ?_
      refine v_if_eq_tb c_126_11 (h) ?_
      refine v_incN3 c_126_20 rfl rfl ?_
      refine v_goto c_126_21 ?_
      exact hk
    · rw [orS_s, h] at hk
      simp only [if_true] at hk
      refine v_il3 c_126_4 ?_
      refine v_al0 c_126_5 ?_
      refine v_gI c_126_6 (kM_f0 ho) (hM.1) ?_
      refine v_icmp_ge_F c_126_7 (by omega) (by omega) (by omega) ?_
      refine v_il1 c_126_8 ?_
      refine v_il3 c_126_9 ?_
      refine v_cSi c_126_10 rfl rfl rfl (k_con hS (by omega)) ?_
      refine v_if_eq_fb c_126_11 (h) ?_
      refine v_il2 c_126_12 ?_
      refine v_al0 c_126_13 ?_
      refine v_gR c_126_14 (kM_r3 ho) ?_
      refine v_il3 c_126_15 ?_
      refine v_at c_126_16 (kM_a2 ho) (by omega) (hM.2.2.2 i hi) rfl ?_
      refine v_cSi c_126_17 rfl rfl rfl (k_bit (by omega)) ?_
      refine v_iorN c_126_18 ?_
      refine v_is2 c_126_19 rfl ?_
      refine v_incN3 c_126_20 rfl rfl ?_
      refine v_goto c_126_21 ?_
      exact hk
  · refine v_il3 c_126_4 ?_
    refine v_al0 c_126_5 ?_
    refine v_gI c_126_6 (kM_f0 ho) (hM.1) ?_
    refine v_icmp_ge_T c_126_7 (by omega) (by omega) (by omega) ?_
    refine v_il2 c_126_22 ?_
    exact v_ri c_126_23 ⟨_, rfl, rfl, rfl⟩
theorem k_own (ho : isM o = true) (hM : MK s o M) (hw : MW M) : RI sc 127 [.ref o] s (nI (mOwn M)) s := by
  refine cc_of ml_127 rfl rfl ?_
  have := hw.1
  refine v_icN (n := 0) c_127_0 rfl ?_
  refine v_is1 c_127_1 rfl ?_
  refine v_icN (n := 0) c_127_2 rfl ?_
  refine v_is2 c_127_3 rfl ?_
  refine vv_for (mN M) (fun i => [some (.ref o), some (.int (nI (cnt (fun i => decide (mH M i = i)) i))), some (.int (nI i))]) ?_ ?_
  · intro i hi hk
    have := hw.2.2.2.1 i hi
    by_cases h : mH M i = i
    · rw [cnt_t (by simpa using h)] at hk
      refine v_il2 c_127_4 ?_
      refine v_al0 c_127_5 ?_
      refine v_gI c_127_6 (kM_f0 ho) (hM.1) ?_
      refine v_icmp_ge_F c_127_7 (by omega) (by omega) (by omega) ?_
      refine v_al0 c_127_8 ?_
      refine v_gR c_127_9 (kM_r3 ho) ?_
      refine v_il2 c_127_10 ?_
      refine v_at c_127_11 (kM_a2 ho) (by omega) (hM.2.2.2 i hi) rfl ?_
      refine v_il2 c_127_12 ?_
      refine v_icmp_ne_F c_127_13 (h) (by omega) (by omega) ?_
      refine v_incN1 c_127_14 rfl rfl ?_
      refine v_incN2 c_127_15 rfl rfl ?_
      refine v_goto c_127_16 ?_
      exact hk
    · rw [cnt_f (by simpa using h)] at hk
      refine v_il2 c_127_4 ?_
      refine v_al0 c_127_5 ?_
      refine v_gI c_127_6 (kM_f0 ho) (hM.1) ?_
      refine v_icmp_ge_F c_127_7 (by omega) (by omega) (by omega) ?_
      refine v_al0 c_127_8 ?_
      refine v_gR c_127_9 (kM_r3 ho) ?_
      refine v_il2 c_127_10 ?_
      refine v_at c_127_11 (kM_a2 ho) (by omega) (hM.2.2.2 i hi) rfl ?_
      refine v_il2 c_127_12 ?_
      refine v_icmp_ne_T c_127_13 (h) (by omega) (by omega) ?_
      refine v_incN2 c_127_15 rfl rfl ?_
      refine v_goto c_127_16 ?_
      exact hk
  · refine v_il2 c_127_4 ?_
    refine v_al0 c_127_5 ?_
    refine v_gI c_127_6 (kM_f0 ho) (hM.1) ?_
    refine v_icmp_ge_T c_127_7 (by omega) (by omega) (by omega) ?_
    refine v_il1 c_127_17 ?_
    exact v_ri c_127_18 ⟨_, rfl, rfl, rfl⟩
theorem k_sum (ho : isM o = true) (hM : MK s o M) (hw : MW M) : RI sc 128 [.ref o] s (nI (mSum M)) s := by
  refine cc_of ml_128 rfl rfl ?_
  have := hw.1
  refine v_icN (n := 0) c_128_0 rfl ?_
  refine v_is1 c_128_1 rfl ?_
  refine v_icN (n := 0) c_128_2 rfl ?_
  refine v_is2 c_128_3 rfl ?_
  refine vv_for (mN M) (fun i => [some (.ref o), some (.int (nI (smm (fun i => mR M i (mH M i)) i))), some (.int (nI i))]) ?_ ?_
  · intro i hi hk
    rw [smm_s] at hk
    refine v_il2 c_128_4 ?_
    refine v_al0 c_128_5 ?_
    refine v_gI c_128_6 (kM_f0 ho) (hM.1) ?_
    refine v_icmp_ge_F c_128_7 (by omega) (by omega) (by omega) ?_
    refine v_il1 c_128_8 ?_
    refine v_al0 c_128_9 ?_
    refine v_il2 c_128_10 ?_
    refine v_cVi c_128_11 rfl (kM_lt ho) (kM_is ho) rfl (k_rkH ho hM hw hi) ?_
    refine v_iaddN c_128_12 ?_
    refine v_is1 c_128_13 rfl ?_
    refine v_incN2 c_128_14 rfl rfl ?_
    refine v_goto c_128_15 ?_
    exact hk
  · refine v_il2 c_128_4 ?_
    refine v_al0 c_128_5 ?_
    refine v_gI c_128_6 (kM_f0 ho) (hM.1) ?_
    refine v_icmp_ge_T c_128_7 (by omega) (by omega) (by omega) ?_
    refine v_il1 c_128_16 ?_
    exact v_ri c_128_17 ⟨_, rfl, rfl, rfl⟩
theorem k_env (ho : isM o = true) (hM : MK s o M) (hw : MW M) : RI sc 129 [.ref o] s (nI (mEnv M)) s := by
  refine cc_of ml_129 rfl rfl ?_
  have h7 := hw.1
  refine v_icN (n := 0) c_129_0 rfl ?_
  refine v_is1 c_129_1 rfl ?_
  refine v_icN (n := 0) c_129_2 rfl ?_
  refine v_is2 c_129_3 rfl ?_
  refine vv_forS (mN M) (fun i ls s' => (∃ y, ls = [some (.ref o), some (.int (nI (smm (fun i => cnt (fun j => mEn M i j) (mN M)) i))), some (.int (nI i)), y]) ∧ s' = s) ?_ ?_ _ _ ⟨⟨_, rfl⟩, rfl⟩
  · rintro i ls s' hi ⟨⟨y, rfl⟩, rfl⟩ hk
    have := hw.2.2.2.1 i hi
    refine v_il2 c_129_4 ?_
    refine v_al0 c_129_5 ?_
    refine v_gI c_129_6 (kM_f0 ho) (hM.1) ?_
    refine v_icmp_ge_F c_129_7 (by omega) (by omega) (by omega) ?_
    refine v_icN (n := 0) c_129_8 rfl ?_
    refine v_is3 c_129_9 rfl ?_
    refine vv_for (mN M) (fun j => [some (.ref o), some (.int (nI (smm (fun i => cnt (fun j => mEn M i j) (mN M)) i + cnt (fun j => mEn M i j) j))), some (.int (nI i)), some (.int (nI j))]) ?_ ?_
    · intro j hj hk
      have := hw.2.2.2.1 j hj
      have e1 := hw.2.2.1 i _ hi (hw.2.2.2.1 i hi)
      have e2 := hw.2.2.1 i _ hi (hw.2.2.2.1 j hj)
      cases h1 : (mL M).testBit i
      · cases h2 : (mL M).testBit j
        · by_cases h3 : mR M i (mH M j) < mR M i (mH M i)
          · rw [cnt_t (by simp [mEn, h1, h2, h3])] at hk
            refine v_il3 c_129_10 ?_
            refine v_al0 c_129_11 ?_
            refine v_gI c_129_12 (kM_f0 ho) (hM.1) ?_
            refine v_icmp_ge_F c_129_13 (by omega) (by omega) (by omega) ?_
            refine v_al0 c_129_14 ?_
            refine v_il2 c_129_15 ?_
            refine v_cVi c_129_16 rfl (kM_lt ho) (kM_is ho) rfl (k_isP ho hM hw (by omega)) ?_
            refine v_if_eq_fb c_129_17 (by rw [h1]; rfl) ?_
            refine v_al0 c_129_18 ?_
            refine v_il3 c_129_19 ?_
            refine v_cVi c_129_20 rfl (kM_lt ho) (kM_is ho) rfl (k_isP ho hM hw (by omega)) ?_
            refine v_if_eq_fb c_129_21 (by rw [h2]; rfl) ?_
            refine v_al0 c_129_22 ?_
            refine v_il2 c_129_23 ?_
            refine v_al0 c_129_24 ?_
            refine v_gR c_129_25 (kM_r3 ho) ?_
            refine v_il3 c_129_26 ?_
            refine v_at c_129_27 (kM_a2 ho) (by omega) (hM.2.2.2 j hj) rfl ?_
            refine v_cVi c_129_28 rfl (kM_lt ho) (kM_is ho) rfl (k_lss ho hM hw hi (hw.2.2.2.1 j hj)) ?_
            refine v_if_ge_f c_129_29 ((fun h => absurd ((ls_ge e2 e1).mp h) (by omega))) ?_
            refine v_incN1 c_129_30 rfl rfl ?_
            refine v_incN3 c_129_31 rfl rfl ?_
            refine v_goto c_129_32 ?_
            exact hk
          · rw [cnt_f (by simp [mEn, h1, h2, h3])] at hk
            refine v_il3 c_129_10 ?_
            refine v_al0 c_129_11 ?_
            refine v_gI c_129_12 (kM_f0 ho) (hM.1) ?_
            refine v_icmp_ge_F c_129_13 (by omega) (by omega) (by omega) ?_
            refine v_al0 c_129_14 ?_
            refine v_il2 c_129_15 ?_
            refine v_cVi c_129_16 rfl (kM_lt ho) (kM_is ho) rfl (k_isP ho hM hw (by omega)) ?_
            refine v_if_eq_fb c_129_17 (by rw [h1]; rfl) ?_
            refine v_al0 c_129_18 ?_
            refine v_il3 c_129_19 ?_
            refine v_cVi c_129_20 rfl (kM_lt ho) (kM_is ho) rfl (k_isP ho hM hw (by omega)) ?_
            refine v_if_eq_fb c_129_21 (by rw [h2]; rfl) ?_
            refine v_al0 c_129_22 ?_
            refine v_il2 c_129_23 ?_
            refine v_al0 c_129_24 ?_
            refine v_gR c_129_25 (kM_r3 ho) ?_
            refine v_il3 c_129_26 ?_
            refine v_at c_129_27 (kM_a2 ho) (by omega) (hM.2.2.2 j hj) rfl ?_
            refine v_cVi c_129_28 rfl (kM_lt ho) (kM_is ho) rfl (k_lss ho hM hw hi (hw.2.2.2.1 j hj)) ?_
            refine v_if_ge_t c_129_29 (((ls_ge e2 e1).mpr (by omega))) ?_
            refine v_incN3 c_129_31 rfl rfl ?_
            refine v_goto c_129_32 ?_
            exact hk
        · rw [cnt_f (by simp [mEn, h1, h2])] at hk
          refine v_il3 c_129_10 ?_
          refine v_al0 c_129_11 ?_
          refine v_gI c_129_12 (kM_f0 ho) (hM.1) ?_
          refine v_icmp_ge_F c_129_13 (by omega) (by omega) (by omega) ?_
          refine v_al0 c_129_14 ?_
          refine v_il2 c_129_15 ?_
          refine v_cVi c_129_16 rfl (kM_lt ho) (kM_is ho) rfl (k_isP ho hM hw (by omega)) ?_
          refine v_if_eq_fb c_129_17 (by rw [h1]; rfl) ?_
          refine v_al0 c_129_18 ?_
          refine v_il3 c_129_19 ?_
          refine v_cVi c_129_20 rfl (kM_lt ho) (kM_is ho) rfl (k_isP ho hM hw (by omega)) ?_
          refine v_if_eq_tb c_129_21 (by rw [h2]; rfl) ?_
          refine v_incN3 c_129_31 rfl rfl ?_
          refine v_goto c_129_32 ?_
          exact hk
      · rw [cnt_f (by simp [mEn, h1])] at hk
        refine v_il3 c_129_10 ?_
        refine v_al0 c_129_11 ?_
        refine v_gI c_129_12 (kM_f0 ho) (hM.1) ?_
        refine v_icmp_ge_F c_129_13 (by omega) (by omega) (by omega) ?_
        refine v_al0 c_129_14 ?_
        refine v_il2 c_129_15 ?_
        refine v_cVi c_129_16 rfl (kM_lt ho) (kM_is ho) rfl (k_isP ho hM hw (by omega)) ?_
        refine v_if_eq_tb c_129_17 (by rw [h1]; rfl) ?_
        refine v_incN3 c_129_31 rfl rfl ?_
        refine v_goto c_129_32 ?_
        exact hk
    · refine v_il3 c_129_10 ?_
      refine v_al0 c_129_11 ?_
      refine v_gI c_129_12 (kM_f0 ho) (hM.1) ?_
      refine v_icmp_ge_T c_129_13 (by omega) (by omega) (by omega) ?_
      refine v_incN2 c_129_33 rfl rfl ?_
      refine v_goto c_129_34 ?_
      exact hk _ _ ⟨⟨_, rfl⟩, rfl⟩
  · rintro ls s' ⟨⟨y, rfl⟩, rfl⟩
    refine v_il2 c_129_4 ?_
    refine v_al0 c_129_5 ?_
    refine v_gI c_129_6 (kM_f0 ho) (hM.1) ?_
    refine v_icmp_ge_T c_129_7 (by omega) (by omega) (by omega) ?_
    refine v_il1 c_129_35 ?_
    exact v_ri c_129_36 ⟨_, rfl, rfl, rfl⟩
theorem k_rsn (ho : isM o = true) (hM : MK s o M) (hw : MW M) {i j : Nat} (hi : i < mN M) (hj : j < mN M) : RI sc 130 [.ref o, .int (nI i), .int (nI j)] s (nI (mAg M i j)) s := by
  refine cc_of ml_130 rfl rfl ?_
  have h7 := hw.1
  have bi := hw.2.2.2.1 i hi
  have bj := hw.2.2.2.1 j hj
  have e1 := hw.2.2.1 i _ hi bi
  have e2 := hw.2.2.1 i _ hi bj
  have e3 := hw.2.2.1 j _ hj bi
  have e4 := hw.2.2.1 j _ hj bj
  unfold mAg
  by_cases h0 : i = j
  · rw [if_pos h0]
    refine v_il1 c_130_0 ?_
    refine v_il2 c_130_1 ?_
    refine v_icmp_ne_F c_130_2 (by omega) (by omega) (by omega) ?_
    refine v_icN (n := 1) c_130_3 rfl ?_
    exact v_ri c_130_4 ⟨_, rfl, rfl, rfl⟩
  rw [if_neg h0]
  cases h1 : (mL M).testBit i
  · rw [if_neg (by decide)]
    cases h2 : (mL M).testBit j
    · rw [if_neg (by decide)]
      by_cases h3 : mR M i (mH M i) < mR M i (mH M j)
      · rw [if_pos h3]
        refine v_il1 c_130_0 ?_
        refine v_il2 c_130_1 ?_
        refine v_icmp_ne_T c_130_2 (by omega) (by omega) (by omega) ?_
        refine v_al0 c_130_5 ?_
        refine v_il1 c_130_6 ?_
        refine v_cVi c_130_7 rfl (kM_lt ho) (kM_is ho) rfl (k_isP ho hM hw (by omega)) ?_
        refine v_if_ne_tb c_130_8 (by rw [h1]; rfl) ?_
        refine v_al0 c_130_11 ?_
        refine v_il2 c_130_12 ?_
        refine v_cVi c_130_13 rfl (kM_lt ho) (kM_is ho) rfl (k_isP ho hM hw (by omega)) ?_
        refine v_if_ne_tb c_130_14 (by rw [h2]; rfl) ?_
        refine v_al0 c_130_17 ?_
        refine v_il1 c_130_18 ?_
        refine v_al0 c_130_19 ?_
        refine v_gR c_130_20 (kM_r3 ho) ?_
        refine v_il2 c_130_21 ?_
        refine v_at c_130_22 (kM_a2 ho) (by omega) (hM.2.2.2 j hj) rfl ?_
        refine v_cVi c_130_23 rfl (kM_lt ho) (kM_is ho) rfl (k_lss ho hM hw hi bj) ?_
        refine v_is3 c_130_24 rfl ?_
        refine v_il3 c_130_25 ?_
        refine v_if_le_f c_130_26 ((fun h => absurd ((ls_le e2 e1).mp h) (by omega))) ?_
        refine v_icN (n := 4) c_130_27 rfl ?_
        exact v_ri c_130_28 ⟨_, rfl, rfl, rfl⟩
      rw [if_neg h3]
      by_cases h4 : mR M j (mH M j) < mR M j (mH M i)
      · rw [if_pos h4]
        refine v_il1 c_130_0 ?_
        refine v_il2 c_130_1 ?_
        refine v_icmp_ne_T c_130_2 (by omega) (by omega) (by omega) ?_
        refine v_al0 c_130_5 ?_
        refine v_il1 c_130_6 ?_
        refine v_cVi c_130_7 rfl (kM_lt ho) (kM_is ho) rfl (k_isP ho hM hw (by omega)) ?_
        refine v_if_ne_tb c_130_8 (by rw [h1]; rfl) ?_
        refine v_al0 c_130_11 ?_
        refine v_il2 c_130_12 ?_
        refine v_cVi c_130_13 rfl (kM_lt ho) (kM_is ho) rfl (k_isP ho hM hw (by omega)) ?_
        refine v_if_ne_tb c_130_14 (by rw [h2]; rfl) ?_
        refine v_al0 c_130_17 ?_
        refine v_il1 c_130_18 ?_
        refine v_al0 c_130_19 ?_
        refine v_gR c_130_20 (kM_r3 ho) ?_
        refine v_il2 c_130_21 ?_
        refine v_at c_130_22 (kM_a2 ho) (by omega) (hM.2.2.2 j hj) rfl ?_
        refine v_cVi c_130_23 rfl (kM_lt ho) (kM_is ho) rfl (k_lss ho hM hw hi bj) ?_
        refine v_is3 c_130_24 rfl ?_
        refine v_il3 c_130_25 ?_
        refine v_if_le_t c_130_26 (((ls_le e2 e1).mpr (by omega))) ?_
        refine v_al0 c_130_29 ?_
        refine v_il2 c_130_30 ?_
        refine v_al0 c_130_31 ?_
        refine v_gR c_130_32 (kM_r3 ho) ?_
        refine v_il1 c_130_33 ?_
        refine v_at c_130_34 (kM_a2 ho) (by omega) (hM.2.2.2 i hi) rfl ?_
        refine v_cVi c_130_35 rfl (kM_lt ho) (kM_is ho) rfl (k_lss ho hM hw hj bi) ?_
        refine v_is4 c_130_36 rfl ?_
        refine v_il4 c_130_37 ?_
        refine v_if_le_f c_130_38 ((fun h => absurd ((ls_le e3 e4).mp h) (by omega))) ?_
        refine v_icN (n := 5) c_130_39 rfl ?_
        exact v_ri c_130_40 ⟨_, rfl, rfl, rfl⟩
      rw [if_neg h4]
      by_cases h5 : mR M i (mH M j) = mR M i (mH M i)
      · by_cases h6 : mR M j (mH M i) = mR M j (mH M j)
        · rw [if_pos ⟨h5, h6⟩]
          refine v_il1 c_130_0 ?_
          refine v_il2 c_130_1 ?_
          refine v_icmp_ne_T c_130_2 (by omega) (by omega) (by omega) ?_
          refine v_al0 c_130_5 ?_
          refine v_il1 c_130_6 ?_
          refine v_cVi c_130_7 rfl (kM_lt ho) (kM_is ho) rfl (k_isP ho hM hw (by omega)) ?_
          refine v_if_ne_tb c_130_8 (by rw [h1]; rfl) ?_
          refine v_al0 c_130_11 ?_
          refine v_il2 c_130_12 ?_
          refine v_cVi c_130_13 rfl (kM_lt ho) (kM_is ho) rfl (k_isP ho hM hw (by omega)) ?_
          refine v_if_ne_tb c_130_14 (by rw [h2]; rfl) ?_
          refine v_al0 c_130_17 ?_
          refine v_il1 c_130_18 ?_
          refine v_al0 c_130_19 ?_
          refine v_gR c_130_20 (kM_r3 ho) ?_
          refine v_il2 c_130_21 ?_
          refine v_at c_130_22 (kM_a2 ho) (by omega) (hM.2.2.2 j hj) rfl ?_
          refine v_cVi c_130_23 rfl (kM_lt ho) (kM_is ho) rfl (k_lss ho hM hw hi bj) ?_
          refine v_is3 c_130_24 rfl ?_
          refine v_il3 c_130_25 ?_
          refine v_if_le_t c_130_26 (((ls_le e2 e1).mpr (by omega))) ?_
          refine v_al0 c_130_29 ?_
          refine v_il2 c_130_30 ?_
          refine v_al0 c_130_31 ?_
          refine v_gR c_130_32 (kM_r3 ho) ?_
          refine v_il1 c_130_33 ?_
          refine v_at c_130_34 (kM_a2 ho) (by omega) (hM.2.2.2 i hi) rfl ?_
          refine v_cVi c_130_35 rfl (kM_lt ho) (kM_is ho) rfl (k_lss ho hM hw hj bi) ?_
          refine v_is4 c_130_36 rfl ?_
          refine v_il4 c_130_37 ?_
          refine v_if_le_t c_130_38 (((ls_le e3 e4).mpr (by omega))) ?_
          refine v_il3 c_130_41 ?_
          refine v_if_ne_f c_130_42 (((ls_eq e2 e1).mpr h5)) ?_
          refine v_il4 c_130_43 ?_
          refine v_if_ne_f c_130_44 (((ls_eq e3 e4).mpr h6)) ?_
          refine v_bpN (n := 6) c_130_45 rfl ?_
          refine v_goto c_130_46 ?_
          exact v_ri c_130_48 ⟨_, rfl, rfl, rfl⟩
        · rw [if_neg (fun h => h6 h.2)]
          refine v_il1 c_130_0 ?_
          refine v_il2 c_130_1 ?_
          refine v_icmp_ne_T c_130_2 (by omega) (by omega) (by omega) ?_
          refine v_al0 c_130_5 ?_
          refine v_il1 c_130_6 ?_
          refine v_cVi c_130_7 rfl (kM_lt ho) (kM_is ho) rfl (k_isP ho hM hw (by omega)) ?_
          refine v_if_ne_tb c_130_8 (by rw [h1]; rfl) ?_
          refine v_al0 c_130_11 ?_
          refine v_il2 c_130_12 ?_
          refine v_cVi c_130_13 rfl (kM_lt ho) (kM_is ho) rfl (k_isP ho hM hw (by omega)) ?_
          refine v_if_ne_tb c_130_14 (by rw [h2]; rfl) ?_
          refine v_al0 c_130_17 ?_
          refine v_il1 c_130_18 ?_
          refine v_al0 c_130_19 ?_
          refine v_gR c_130_20 (kM_r3 ho) ?_
          refine v_il2 c_130_21 ?_
          refine v_at c_130_22 (kM_a2 ho) (by omega) (hM.2.2.2 j hj) rfl ?_
          refine v_cVi c_130_23 rfl (kM_lt ho) (kM_is ho) rfl (k_lss ho hM hw hi bj) ?_
          refine v_is3 c_130_24 rfl ?_
          refine v_il3 c_130_25 ?_
          refine v_if_le_t c_130_26 (((ls_le e2 e1).mpr (by omega))) ?_
          refine v_al0 c_130_29 ?_
          refine v_il2 c_130_30 ?_
          refine v_al0 c_130_31 ?_
          refine v_gR c_130_32 (kM_r3 ho) ?_
          refine v_il1 c_130_33 ?_
          refine v_at c_130_34 (kM_a2 ho) (by omega) (hM.2.2.2 i hi) rfl ?_
          refine v_cVi c_130_35 rfl (kM_lt ho) (kM_is ho) rfl (k_lss ho hM hw hj bi) ?_
          refine v_is4 c_130_36 rfl ?_
          refine v_il4 c_130_37 ?_
          refine v_if_le_t c_130_38 (((ls_le e3 e4).mpr (by omega))) ?_
          refine v_il3 c_130_41 ?_
          refine v_if_ne_f c_130_42 (((ls_eq e2 e1).mpr h5)) ?_
          refine v_il4 c_130_43 ?_
          refine v_if_ne_t c_130_44 ((fun h => h6 ((ls_eq e3 e4).mp h))) ?_
          refine v_icN (n := 0) c_130_47 rfl ?_
          exact v_ri c_130_48 ⟨_, rfl, rfl, rfl⟩
      · rw [if_neg (fun h => h5 h.1)]
        refine v_il1 c_130_0 ?_
        refine v_il2 c_130_1 ?_
        refine v_icmp_ne_T c_130_2 (by omega) (by omega) (by omega) ?_
        refine v_al0 c_130_5 ?_
        refine v_il1 c_130_6 ?_
        refine v_cVi c_130_7 rfl (kM_lt ho) (kM_is ho) rfl (k_isP ho hM hw (by omega)) ?_
        refine v_if_ne_tb c_130_8 (by rw [h1]; rfl) ?_
        refine v_al0 c_130_11 ?_
        refine v_il2 c_130_12 ?_
        refine v_cVi c_130_13 rfl (kM_lt ho) (kM_is ho) rfl (k_isP ho hM hw (by omega)) ?_
        refine v_if_ne_tb c_130_14 (by rw [h2]; rfl) ?_
        refine v_al0 c_130_17 ?_
        refine v_il1 c_130_18 ?_
        refine v_al0 c_130_19 ?_
        refine v_gR c_130_20 (kM_r3 ho) ?_
        refine v_il2 c_130_21 ?_
        refine v_at c_130_22 (kM_a2 ho) (by omega) (hM.2.2.2 j hj) rfl ?_
        refine v_cVi c_130_23 rfl (kM_lt ho) (kM_is ho) rfl (k_lss ho hM hw hi bj) ?_
        refine v_is3 c_130_24 rfl ?_
        refine v_il3 c_130_25 ?_
        refine v_if_le_t c_130_26 (((ls_le e2 e1).mpr (by omega))) ?_
        refine v_al0 c_130_29 ?_
        refine v_il2 c_130_30 ?_
        refine v_al0 c_130_31 ?_
        refine v_gR c_130_32 (kM_r3 ho) ?_
        refine v_il1 c_130_33 ?_
        refine v_at c_130_34 (kM_a2 ho) (by omega) (hM.2.2.2 i hi) rfl ?_
        refine v_cVi c_130_35 rfl (kM_lt ho) (kM_is ho) rfl (k_lss ho hM hw hj bi) ?_
        refine v_is4 c_130_36 rfl ?_
        refine v_il4 c_130_37 ?_
        refine v_if_le_t c_130_38 (((ls_le e3 e4).mpr (by omega))) ?_
        refine v_il3 c_130_41 ?_
        refine v_if_ne_t c_130_42 ((fun h => h5 ((ls_eq e2 e1).mp h))) ?_
        refine v_icN (n := 0) c_130_47 rfl ?_
        exact v_ri c_130_48 ⟨_, rfl, rfl, rfl⟩
    · rw [if_pos rfl]
      refine v_il1 c_130_0 ?_
      refine v_il2 c_130_1 ?_
      refine v_icmp_ne_T c_130_2 (by omega) (by omega) (by omega) ?_
      refine v_al0 c_130_5 ?_
      refine v_il1 c_130_6 ?_
      refine v_cVi c_130_7 rfl (kM_lt ho) (kM_is ho) rfl (k_isP ho hM hw (by omega)) ?_
      refine v_if_ne_tb c_130_8 (by rw [h1]; rfl) ?_
      refine v_al0 c_130_11 ?_
      refine v_il2 c_130_12 ?_
      refine v_cVi c_130_13 rfl (kM_lt ho) (kM_is ho) rfl (k_isP ho hM hw (by omega)) ?_
      refine v_if_ne_fb c_130_14 (by rw [h2]; rfl) ?_
      refine v_icN (n := 3) c_130_15 rfl ?_
      exact v_ri c_130_16 ⟨_, rfl, rfl, rfl⟩
  · rw [if_pos rfl]
    refine v_il1 c_130_0 ?_
    refine v_il2 c_130_1 ?_
    refine v_icmp_ne_T c_130_2 (by omega) (by omega) (by omega) ?_
    refine v_al0 c_130_5 ?_
    refine v_il1 c_130_6 ?_
    refine v_cVi c_130_7 rfl (kM_lt ho) (kM_is ho) rfl (k_isP ho hM hw (by omega)) ?_
    refine v_if_ne_fb c_130_8 (by rw [h1]; rfl) ?_
    refine v_icN (n := 2) c_130_9 rfl ?_
    exact v_ri c_130_10 ⟨_, rfl, rfl, rfl⟩
theorem k_hdr (ho : isM o = true) (hM : MK s o M) (hw : MW M) {i : Nat} (hi : i < mN M) : RI sc 125 [.ref o, .int (nI (mH M i))] s (nI i) s := by
  refine cc_of ml_125 rfl rfl ?_
  have h7 := hw.1
  have bi := hw.2.2.2.1 i hi
  refine v_icN (n := 0) c_125_0 rfl ?_
  refine v_is2 c_125_1 rfl ?_
  refine vv_for i (fun k => [some (.ref o), some (.int (nI (mH M i))), some (.int (nI k))]) ?_ ?_
  · intro k hk hkk
    have bk := hw.2.2.2.1 k (by omega)
    have : mH M k ≠ mH M i := fun e => absurd (hw.2.2.2.2 k i (by omega) hi e) (by omega)
    refine v_il2 c_125_2 ?_
    refine v_al0 c_125_3 ?_
    refine v_gI c_125_4 (kM_f0 ho) (hM.1) ?_
    refine v_icmp_ge_F c_125_5 (by omega) (by omega) (by omega) ?_
    refine v_al0 c_125_6 ?_
    refine v_gR c_125_7 (kM_r3 ho) ?_
    refine v_il2 c_125_8 ?_
    refine v_at c_125_9 (kM_a2 ho) (by omega) (hM.2.2.2 k (by omega)) rfl ?_
    refine v_il1 c_125_10 ?_
    refine v_icmp_ne_T c_125_11 (by omega) (by omega) (by omega) ?_
    refine v_incN2 c_125_14 rfl rfl ?_
    refine v_goto c_125_15 ?_
    exact hkk
  · refine v_il2 c_125_2 ?_
    refine v_al0 c_125_3 ?_
    refine v_gI c_125_4 (kM_f0 ho) (hM.1) ?_
    refine v_icmp_ge_F c_125_5 (by omega) (by omega) (by omega) ?_
    refine v_al0 c_125_6 ?_
    refine v_gR c_125_7 (kM_r3 ho) ?_
    refine v_il2 c_125_8 ?_
    refine v_at c_125_9 (kM_a2 ho) (by omega) (hM.2.2.2 i hi) rfl ?_
    refine v_il1 c_125_10 ?_
    refine v_icmp_ne_F c_125_11 (by omega) (by omega) (by omega) ?_
    refine v_il2 c_125_12 ?_
    exact v_ri c_125_13 ⟨_, rfl, rfl, rfl⟩
theorem k_put (ho : isM o = true) {i t r : Nat} (hi : i < 7) (ht : t < 7) : RV sc 123 [.ref o, .int (nI i), .int (nI t), .int (nI r)] s (sI s (o + 1) (i * 7 + t) (nI r)) := by
  refine cc_of ml_123 rfl rfl ?_
  refine v_al0 c_123_0 ?_
  refine v_gR c_123_1 (kM_r2 ho) ?_
  refine v_il1 c_123_2 ?_
  refine v_bpN (n := 7) c_123_3 rfl ?_
  refine v_imulN c_123_4 ?_
  refine v_il2 c_123_5 ?_
  refine v_iaddN c_123_6 ?_
  refine v_il3 c_123_7 ?_
  refine v_put c_123_8 (kM_a1 ho) (by omega) rfl ?_
  exact v_rv c_123_9 ⟨rfl, rfl⟩
theorem MK.put {i t r : Nat} (hM : MK s o M) (hw : MW M) (hi : i < mN M) (ht : t < mN M) : MK (sI s (o + 1) (i * 7 + t) (nI r)) o (mRk M i t r) := by
  have h7 := hw.1
  refine ⟨?_, ?_, fun a b ha hb => ?_, fun a ha => ?_⟩
  · rw [sI_o (by omega)]; exact hM.1
  · rw [sI_o (by omega)]; exact hM.2.1
  · have ha : a < mN M := ha
    have hb : b < mN M := hb
    show _ = nI (if a = i ∧ b = t then r else mR M a b)
    by_cases e : a = i ∧ b = t
    · rw [if_pos e, e.1, e.2, sI_s]
    · rw [if_neg e, sI_k (by omega)]
      exact hM.2.2.1 a b ha hb
  · rw [sI_o (by omega)]; exact hM.2.2.2 a ha
theorem k_swp (ho : isM o = true) {i j : Nat} (hi : i < 7) (hj : j < 7) : RV sc 131 [.ref o, .int (nI i), .int (nI j)] s (sI (sI s (o + 2) i (s.1 (o + 2) j)) (o + 2) j (s.1 (o + 2) i)) := by
  refine cc_of ml_131 rfl rfl ?_
  refine v_al0 c_131_0 ?_
  refine v_gR c_131_1 (kM_r3 ho) ?_
  refine v_il1 c_131_2 ?_
  refine v_at c_131_3 (kM_a2 ho) (by omega) rfl rfl ?_
  refine v_is3 c_131_4 rfl ?_
  refine v_al0 c_131_5 ?_
  refine v_gR c_131_6 (kM_r3 ho) ?_
  refine v_il1 c_131_7 ?_
  refine v_al0 c_131_8 ?_
  refine v_gR c_131_9 (kM_r3 ho) ?_
  refine v_il2 c_131_10 ?_
  refine v_at c_131_11 (kM_a2 ho) (by omega) rfl rfl ?_
  refine v_put c_131_12 (kM_a2 ho) (by omega) rfl ?_
  refine v_al0 c_131_13 ?_
  refine v_gR c_131_14 (kM_r3 ho) ?_
  refine v_il2 c_131_15 ?_
  refine v_il3 c_131_16 ?_
  refine v_put c_131_17 (kM_a2 ho) (by omega) rfl ?_
  exact v_rv c_131_18 ⟨rfl, rfl⟩
theorem MK.sw {i j : Nat} (hM : MK s o M) (hi : i < mN M) (hj : j < mN M) : MK (sI (sI s (o + 2) i (s.1 (o + 2) j)) (o + 2) j (s.1 (o + 2) i)) o (mSw M i j) := by
  refine ⟨?_, ?_, fun a b ha hb => ?_, fun a ha => ?_⟩
  · rw [sI_o (by omega), sI_o (by omega)]; exact hM.1
  · rw [sI_o (by omega), sI_o (by omega)]; exact hM.2.1
  · rw [sI_o (by omega), sI_o (by omega)]; exact hM.2.2.1 a b ha hb
  · have ha : a < mN M := ha
    show _ = nI (if a = j then mH M i else if a = i then mH M j else mH M a)
    by_cases e : a = j
    · rw [if_pos e, e, sI_s]; exact hM.2.2.2 i hi
    · rw [if_neg e, sI_k e]
      by_cases e2 : a = i
      · rw [if_pos e2, e2, sI_s]; exact hM.2.2.2 j hj
      · rw [if_neg e2, sI_k e2]; exact hM.2.2.2 a ha
theorem MW.sw {i j : Nat} (hw : MW M) (hi : i < mN M) (hj : j < mN M) : MW (mSw M i j) := by
  refine ⟨hw.1, hw.2.1, hw.2.2.1, fun a ha => ?_, fun a b ha hb h => ?_⟩
  · have ha : a < mN M := ha
    show (if a = j then mH M i else if a = i then mH M j else mH M a) < mN M
    split
    · exact hw.2.2.2.1 i hi
    · split
      · exact hw.2.2.2.1 j hj
      · exact hw.2.2.2.1 a ha
  · have ha : a < mN M := ha
    have hb : b < mN M := hb
    have h : (if a = j then mH M i else if a = i then mH M j else mH M a) = (if b = j then mH M i else if b = i then mH M j else mH M b) := h
    have I := hw.2.2.2.2
    by_cases a1 : a = j
    · rw [if_pos a1] at h
      by_cases b1 : b = j
      · omega
      · rw [if_neg b1] at h
        by_cases b2 : b = i
        · rw [if_pos b2] at h
          have := I i j hi hj h
          omega
        · rw [if_neg b2] at h
          exact absurd (I i b hi hb h).symm b2
    · rw [if_neg a1] at h
      by_cases a2 : a = i
      · rw [if_pos a2] at h
        by_cases b1 : b = j
        · rw [if_pos b1] at h
          have := I j i hj hi h
          omega
        · rw [if_neg b1] at h
          by_cases b2 : b = i
          · omega
          · rw [if_neg b2] at h
            exact absurd (I j b hj hb h).symm b1
      · rw [if_neg a2] at h
        by_cases b1 : b = j
        · rw [if_pos b1] at h
          exact absurd (I a i ha hi h) a2
        · rw [if_neg b1] at h
          by_cases b2 : b = i
          · rw [if_pos b2] at h
            exact absurd (I a j ha hj h) a1
          · rw [if_neg b2] at h
            exact I a b ha hb h
end KM2
