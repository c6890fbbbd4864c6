/-! THE MODEL: its small methods -/
def QM (g : Nat → Int32) (M : zM) : Prop := g 0 = nI (mN M) ∧ g 1 = nI (mL M) ∧ (∀ i, i < mN M → g (2 + i) = nI (mH M i)) ∧ ∀ i t, i < mN M → t < mN M → g (9 + 7 * i + t) = nI (mR M i t)
theorem QM.cp {f g : Nat → Int32} {M : zM} (h : QM f M) (h7 : mN M ≤ 7) (e : ∀ j, j < 58 → g j = f j) : QM g M := ⟨by rw [e 0 (by decide)]; exact h.1, by rw [e 1 (by decide)]; exact h.2.1, fun i hi => by rw [e _ (by omega)]; exact h.2.2.1 i hi, fun i t hi ht => by rw [e _ (by omega)]; exact h.2.2.2 i t hi ht⟩
theorem pc_pre : ∀ n, n ≤ 7 → ∀ l, l < 128 → l < 2 ^ n → pc l ≤ n ∧ pc (zdf (2 ^ n - 1) l) = n - pc l := by decide +kernel
theorem pc_red : ∀ x, x < 128 → 0 < x → x &&& (x - 1) < x ∧ pc x = pc (x &&& (x - 1)) + 1 := by decide +kernel
theorem i64_le (x y : Int32) : x.toInt64 ≤ y.toInt64 ↔ x ≤ y := by rw [Int64.le_iff_toInt_le, Int32.le_iff_toInt_le, Int32.toInt_toInt64, Int32.toInt_toInt64]
theorem i64_lt (x y : Int32) : x.toInt64 < y.toInt64 ↔ x < y := by rw [Int64.lt_iff_toInt_lt, Int32.lt_iff_toInt_lt, Int32.toInt_toInt64, Int32.toInt_toInt64]
theorem nI_pm : ∀ n, n ≤ 7 → ∀ x : Int32, (x ≤ nI n - 1 ↔ x < nI n) := by
  intro n hn x
  have h1 : (nI n - 1).toInt = (n : Int) - 1 := by
    have h : ∀ n, n ≤ 7 → (nI n - 1).toInt = (n : Int) - 1 := by decide +kernel
    exact h n hn
  rw [Int32.le_iff_toInt_le, Int32.lt_iff_toInt_lt, h1, nI_toInt (by omega)]
  omega
section MO
variable {sc : Nat × (Nat → Int32)} {s : zv_S} {M : zM}
theorem q_in (X A B : Int64) : RI sc 40 [.long X, .long A, .long B] s (bI (decide (A ≤ X) && decide (X ≤ B))) s := by
  refine cc_of ml_40 rfl rfl ?_
  by_cases h1 : A ≤ X
  · by_cases h2 : X ≤ B
    · refine v_ll0 c_40_0 ?_
      refine v_ll2 c_40_1 ?_
      refine v_lcmp c_40_2 ?_
      refine v_if_lt_f c_40_3 ((fun h => by have := (lg_cmp_lt _ _).mp h; rw [Int64.lt_iff_toInt_lt] at this; rw [Int64.le_iff_toInt_le] at h1; omega)) ?_
      refine v_ll0 c_40_4 ?_
      refine v_ll4 c_40_5 ?_
      refine v_lcmp c_40_6 ?_
      refine v_if_gt_f c_40_7 ((fun h => by have := (lg_cmp_gt _ _).mp h; rw [Int64.lt_iff_toInt_lt] at this; rw [Int64.le_iff_toInt_le] at h2; omega)) ?_
      refine v_icN (n := 1) c_40_8 rfl ?_
      refine v_goto c_40_9 ?_
      exact v_rb (B := true) c_40_11 rfl ⟨_, rfl, by simp [h1, h2], rfl⟩
    · refine v_ll0 c_40_0 ?_
      refine v_ll2 c_40_1 ?_
      refine v_lcmp c_40_2 ?_
      refine v_if_lt_f c_40_3 ((fun h => by have := (lg_cmp_lt _ _).mp h; rw [Int64.lt_iff_toInt_lt] at this; rw [Int64.le_iff_toInt_le] at h1; omega)) ?_
      refine v_ll0 c_40_4 ?_
      refine v_ll4 c_40_5 ?_
      refine v_lcmp c_40_6 ?_
      refine v_if_gt_t c_40_7 (((lg_cmp_gt _ _).mpr (by rw [Int64.lt_iff_toInt_lt]; rw [Int64.le_iff_toInt_le] at h2; omega))) ?_
      refine v_icN (n := 0) c_40_10 rfl ?_
      exact v_rb (B := false) c_40_11 rfl ⟨_, rfl, by simp [h2], rfl⟩
  · refine v_ll0 c_40_0 ?_
    refine v_ll2 c_40_1 ?_
    refine v_lcmp c_40_2 ?_
    refine v_if_lt_t c_40_3 (((lg_cmp_lt _ _).mpr (by rw [Int64.lt_iff_toInt_lt]; rw [Int64.le_iff_toInt_le] at h1; omega))) ?_
    refine v_icN (n := 0) c_40_10 rfl ?_
    exact v_rb (B := false) c_40_11 rfl ⟨_, rfl, by simp [h1], rfl⟩
theorem q_has {b k : Nat} (hb : b < 2147483648) (hk : k < 32) : RI sc 41 [.int (nI b), .int (nI k)] s (bI (b.testBit k)) s := by
  refine cc_of ml_41 rfl rfl ?_
  cases h : b.testBit k
  · refine v_il0 c_41_0 ?_
    refine v_il1 c_41_1 ?_
    refine v_ishrN c_41_2 (by omega) (by omega) ?_
    refine v_icN (n := 1) c_41_3 rfl ?_
    refine v_iandN c_41_4 ?_
    refine v_icN (n := 1) c_41_5 rfl ?_
    refine v_icmp_ne_t c_41_6 (by rw [tb_and, h]; decide) ?_
    refine v_icN (n := 0) c_41_9 rfl ?_
    exact v_rb (B := false) c_41_10 rfl ⟨_, rfl, rfl, rfl⟩
  · refine v_il0 c_41_0 ?_
    refine v_il1 c_41_1 ?_
    refine v_ishrN c_41_2 (by omega) (by omega) ?_
    refine v_icN (n := 1) c_41_3 rfl ?_
    refine v_iandN c_41_4 ?_
    refine v_icN (n := 1) c_41_5 rfl ?_
    refine v_icmp_ne_f c_41_6 (by rw [tb_and, h]; rfl) ?_
    refine v_icN (n := 1) c_41_7 rfl ?_
    refine v_goto c_41_8 ?_
    exact v_rb (B := true) c_41_10 rfl ⟨_, rfl, rfl, rfl⟩
theorem q_ones {x : Nat} (hx : x < 128) : RI sc 42 [.int (nI x)] s (nI (pc x)) s := by
  refine cc_of ml_42 rfl rfl ?_
  refine v_icN (n := 0) c_42_0 rfl ?_
  refine v_is1 c_42_1 rfl ?_
  refine v_il0 c_42_2 ?_
  refine v_is2 c_42_3 rfl ?_
  refine vv_while (fun k ls t => (∃ y c, y < 128 ∧ k = y ∧ c + pc y = pc x ∧ ls = [some (.int (nI x)), some (.int (nI c)), some (.int (nI y))]) ∧ t = s) ?_ x _ _ ⟨⟨x, 0, hx, rfl, by omega, rfl⟩, rfl⟩
  rintro k ls t ⟨⟨y, c, hy, rfl, hc, rfl⟩, rfl⟩ hk
  by_cases h0 : k = 0
  · subst h0
    refine v_il2 c_42_4 ?_
    refine v_if_eq_T c_42_5 (by omega) (by omega) ?_
    refine v_il1 c_42_14 ?_
    exact v_ri c_42_15 ⟨_, rfl, by rw [← hc]; rfl, rfl⟩
  · obtain ⟨h1, h2⟩ := pc_red k hy (by omega)
    refine v_il2 c_42_4 ?_
    refine v_if_eq_F c_42_5 (by omega) (by omega) ?_
    refine v_incN1 c_42_6 rfl rfl ?_
    refine v_il2 c_42_7 ?_
    refine v_il2 c_42_8 ?_
    refine v_icN (n := 1) c_42_9 rfl ?_
    refine v_isubN c_42_10 (by omega) ?_
    refine v_iandN c_42_11 ?_
    refine v_is2 c_42_12 rfl ?_
    refine v_goto c_42_13 ?_
    exact hk _ _ _ h1 ⟨⟨_, c + 1, by omega, rfl, by omega, rfl⟩, rfl⟩
theorem q_fl {x : Int32} : RI sc 43 [.ref 88, .int x] s (nI 0) (sI s 88 8 x) := by
  refine cc_of ml_43 rfl rfl ?_
  refine v_al0 c_43_0 ?_
  refine v_il1 c_43_1 ?_
  refine v_pI c_43_2 rfl ?_
  refine v_icN (n := 0) c_43_3 rfl ?_
  exact v_ri c_43_4 ⟨_, rfl, rfl, rfl⟩
theorem q_keep : CC sc 44 [.ref 88] s (QV fun t => (∀ j, j < 58 → t.1 90 j = s.1 89 j) ∧ FR 90 91 s t) := by
  refine cc_of ml_44 rfl rfl ?_
  refine v_icN (n := 0) c_44_0 rfl ?_
  refine v_is1 c_44_1 rfl ?_
  refine vv_forS 58 (fun i ls t => ls = [some (.ref 88), some (.int (nI i))] ∧ (∀ j, j < i → t.1 90 j = s.1 89 j) ∧ FR 90 91 s t) ?_ ?_ _ _ ⟨rfl, fun j hj => absurd hj (by omega), FR.rf⟩
  · rintro i ls t hi ⟨rfl, h1, h2⟩ hk
    refine v_il1 c_44_2 ?_
    refine v_bpN (n := 58) c_44_3 rfl ?_
    refine v_icmp_ge_F c_44_4 (by omega) (by omega) (by omega) ?_
    refine v_al0 c_44_5 ?_
    refine v_gR (n0 := 90) c_44_6 rfl ?_
    refine v_il1 c_44_7 ?_
    refine v_al0 c_44_8 ?_
    refine v_gR (n0 := 89) c_44_9 rfl ?_
    refine v_il1 c_44_10 ?_
    refine v_aI c_44_11 rfl (by omega) rfl ?_
    refine v_sI c_44_12 rfl (by omega) ?_
    refine v_incN1 c_44_13 rfl rfl ?_
    refine v_goto c_44_14 ?_
    refine hk _ _ ⟨rfl, fun j hj => ?_, h2.tr (FR.sI (by omega) (by omega))⟩
    by_cases e : j = i
    · subst e
      rw [sI_s, h2.at (by omega)]
    · rw [sI_k e]
      exact h1 j (by omega)
  · rintro ls t ⟨rfl, h1, h2⟩
    refine v_il1 c_44_2 ?_
    refine v_bpN (n := 58) c_44_3 rfl ?_
    refine v_icmp_ge_T c_44_4 (by omega) (by omega) (by omega) ?_
    exact v_rv c_44_15 ⟨rfl, ⟨h1, h2⟩⟩
theorem q_back : CC sc 45 [.ref 88] s (QV fun t => (∀ j, j < 58 → t.1 89 j = s.1 90 j) ∧ FR 89 90 s t) := by
  refine cc_of ml_45 rfl rfl ?_
  refine v_icN (n := 0) c_45_0 rfl ?_
  refine v_is1 c_45_1 rfl ?_
  refine vv_forS 58 (fun i ls t => ls = [some (.ref 88), some (.int (nI i))] ∧ (∀ j, j < i → t.1 89 j = s.1 90 j) ∧ FR 89 90 s t) ?_ ?_ _ _ ⟨rfl, fun j hj => absurd hj (by omega), FR.rf⟩
  · rintro i ls t hi ⟨rfl, h1, h2⟩ hk
    refine v_il1 c_45_2 ?_
    refine v_bpN (n := 58) c_45_3 rfl ?_
    refine v_icmp_ge_F c_45_4 (by omega) (by omega) (by omega) ?_
    refine v_al0 c_45_5 ?_
    refine v_gR (n0 := 89) c_45_6 rfl ?_
    refine v_il1 c_45_7 ?_
    refine v_al0 c_45_8 ?_
    refine v_gR (n0 := 90) c_45_9 rfl ?_
    refine v_il1 c_45_10 ?_
    refine v_aI c_45_11 rfl (by omega) rfl ?_
    refine v_sI c_45_12 rfl (by omega) ?_
    refine v_incN1 c_45_13 rfl rfl ?_
    refine v_goto c_45_14 ?_
    refine hk _ _ ⟨rfl, fun j hj => ?_, h2.tr (FR.sI (by omega) (by omega))⟩
    by_cases e : j = i
    · subst e
      rw [sI_s, h2.at (by omega)]
    · rw [sI_k e]
      exact h1 j (by omega)
  · rintro ls t ⟨rfl, h1, h2⟩
    refine v_il1 c_45_2 ?_
    refine v_bpN (n := 58) c_45_3 rfl ?_
    refine v_icmp_ge_T c_45_4 (by omega) (by omega) (by omega) ?_
    exact v_rv c_45_15 ⟨rfl, ⟨h1, h2⟩⟩
theorem q_one (hM : QM (s.1 89) M) (hw : MW M) (x : Int32) : RI sc 47 [.ref 88, .int x] s (bI (decide (0 ≤ x) && decide (x < nI (mN M)))) s := by
  refine cc_of ml_47 rfl rfl ?_
  refine v_il1 c_47_0 ?_
  refine v_i2l c_47_1 ?_
  refine v_lc c_47_2 ?_
  refine v_al0 c_47_3 ?_
  refine v_gR (n0 := 89) c_47_4 rfl ?_
  refine v_icN (n := 0) c_47_5 rfl ?_
  refine v_aI c_47_6 rfl (by omega) (hM.1) ?_
  refine v_ic c_47_7 ?_
  refine v_isub c_47_8 ?_
  refine v_i2l c_47_9 ?_
  refine v_cSi c_47_10 rfl rfl rfl (q_in _ _ _) ?_
  have e : (decide ((0 : Int64) ≤ x.toInt64) && decide (x.toInt64 ≤ (nI (mN M) - 1).toInt64)) = (decide (0 ≤ x) && decide (x < nI (mN M))) := by
    have e1 : ((0 : Int64) ≤ x.toInt64) ↔ 0 ≤ x := i64_le 0 x
    have e2 : (x.toInt64 ≤ (nI (mN M) - 1).toInt64) ↔ x < nI (mN M) := (i64_le _ _).trans (nI_pm _ hw.1 x)
    rw [decide_eq_decide.mpr e1, decide_eq_decide.mpr e2]
  rw [e]
  exact v_rb c_47_11 rfl ⟨_, rfl, rfl, rfl⟩
theorem q_isP (hM : QM (s.1 89) M) (hw : MW M) {i : Nat} (hi : i < 7) : RI sc 48 [.ref 88, .int (nI i)] s (bI (!(mL M).testBit i)) s := by
  refine cc_of ml_48 rfl rfl ?_
  have := hw.l128
  cases h : (mL M).testBit i
  · refine v_al0 c_48_0 ?_
    refine v_gR (n0 := 89) c_48_1 rfl ?_
    refine v_icN (n := 1) c_48_2 rfl ?_
    refine v_aI c_48_3 rfl (by omega) (hM.2.1) ?_
    refine v_il1 c_48_4 ?_
    refine v_cSi c_48_5 rfl rfl rfl (q_has (by omega) (by omega)) ?_
    refine v_if_ne_fb c_48_6 (h) ?_
    refine v_icN (n := 1) c_48_7 rfl ?_
    refine v_goto c_48_8 ?_
    exact v_rb (B := true) c_48_10 rfl ⟨_, rfl, rfl, rfl⟩
  · refine v_al0 c_48_0 ?_
    refine v_gR (n0 := 89) c_48_1 rfl ?_
    refine v_icN (n := 1) c_48_2 rfl ?_
    refine v_aI c_48_3 rfl (by omega) (hM.2.1) ?_
    refine v_il1 c_48_4 ?_
    refine v_cSi c_48_5 rfl rfl rfl (q_has (by omega) (by omega)) ?_
    refine v_if_ne_tb c_48_6 (h) ?_
    refine v_icN (n := 0) c_48_9 rfl ?_
    exact v_rb (B := false) c_48_10 rfl ⟨_, rfl, rfl, rfl⟩
theorem q_rk (hM : QM (s.1 89) M) (hw : MW M) {i t : Nat} (hi : i < mN M) (ht : t < mN M) : RI sc 49 [.ref 88, .int (nI i), .int (nI t)] s (nI (mR M i t)) s := by
  refine cc_of ml_49 rfl rfl ?_
  have := hw.1
  refine v_al0 c_49_0 ?_
  refine v_gR (n0 := 89) c_49_1 rfl ?_
  refine v_bpN (n := 9) c_49_2 rfl ?_
  refine v_bpN (n := 7) c_49_3 rfl ?_
  refine v_il1 c_49_4 ?_
  refine v_imulN c_49_5 ?_
  refine v_iaddN c_49_6 ?_
  refine v_il2 c_49_7 ?_
  refine v_iaddN c_49_8 ?_
  refine v_aI c_49_9 rfl (by omega) (hM.2.2.2 i t hi ht) ?_
  exact v_ri c_49_10 ⟨_, rfl, rfl, rfl⟩
theorem q_hd (hM : QM (s.1 89) M) (h7 : mN M ≤ 7) {i : Nat} (hi : i < mN M) : RI sc 50 [.ref 88, .int (nI i)] s (nI (mH M i)) s := by
  refine cc_of ml_50 rfl rfl ?_
  refine v_al0 c_50_0 ?_
  refine v_gR (n0 := 89) c_50_1 rfl ?_
  refine v_icN (n := 2) c_50_2 rfl ?_
  refine v_il1 c_50_3 ?_
  refine v_iaddN c_50_4 ?_
  refine v_aI c_50_5 rfl (by omega) (hM.2.2.1 i hi) ?_
  exact v_ri c_50_6 ⟨_, rfl, rfl, rfl⟩
theorem q_pre (hM : QM (s.1 89) M) (hw : MW M) : RI sc 51 [.ref 88] s (nI (pc (mP M))) s := by
  refine cc_of ml_51 rfl rfl ?_
  obtain ⟨h1, h2⟩ := pc_pre _ hw.1 _ hw.l128 hw.2.1
  refine v_al0 c_51_0 ?_
  refine v_gR (n0 := 89) c_51_1 rfl ?_
  refine v_icN (n := 0) c_51_2 rfl ?_
  refine v_aI c_51_3 rfl (by omega) (hM.1) ?_
  refine v_al0 c_51_4 ?_
  refine v_gR (n0 := 89) c_51_5 rfl ?_
  refine v_icN (n := 1) c_51_6 rfl ?_
  refine v_aI c_51_7 rfl (by omega) (hM.2.1) ?_
  refine v_cSi c_51_8 rfl rfl rfl (q_ones hw.l128) ?_
  refine v_isubN c_51_9 (by omega) ?_
  exact v_ri c_51_10 ⟨_, rfl, by rw [← h2]; rfl, rfl⟩
theorem q_all (hM : QM (s.1 89) M) (hw : MW M) : RI sc 52 [.ref 88] s (nI (mSum M)) s := by
  refine cc_of ml_52 rfl rfl ?_
  have := hw.1
  refine v_icN (n := 0) c_52_0 rfl ?_
  refine v_is1 c_52_1 rfl ?_
  refine v_icN (n := 0) c_52_2 rfl ?_
  refine v_is2 c_52_3 rfl ?_
  refine vv_for (mN M) (fun i => [some (.ref 88), some (.int (nI (smm (fun i => mR M i (mH M i)) i))), some (.int (nI i))]) ?_ ?_
  · intro i hi hk
    rw [smm_s] at hk
    refine v_il2 c_52_4 ?_
    refine v_al0 c_52_5 ?_
    refine v_gR (n0 := 89) c_52_6 rfl ?_
    refine v_icN (n := 0) c_52_7 rfl ?_
    refine v_aI c_52_8 rfl (by omega) (hM.1) ?_
    refine v_icmp_ge_F c_52_9 (by omega) (by omega) (by omega) ?_
    refine v_il1 c_52_10 ?_
    refine v_al0 c_52_11 ?_
    refine v_il2 c_52_12 ?_
    refine v_al0 c_52_13 ?_
    refine v_il2 c_52_14 ?_
    refine v_cVi c_52_15 rfl (by decide) rfl rfl (q_hd hM hw.1 hi) ?_
    refine v_cVi c_52_16 rfl (by decide) rfl rfl (q_rk hM hw hi (hw.2.2.2.1 i hi)) ?_
    refine v_iaddN c_52_17 ?_
    refine v_is1 c_52_18 rfl ?_
    refine v_incN2 c_52_19 rfl rfl ?_
    refine v_goto c_52_20 ?_
    exact hk
  · refine v_il2 c_52_4 ?_
    refine v_al0 c_52_5 ?_
    refine v_gR (n0 := 89) c_52_6 rfl ?_
    refine v_icN (n := 0) c_52_7 rfl ?_
    refine v_aI c_52_8 rfl (by omega) (hM.1) ?_
    refine v_icmp_ge_T c_52_9 (by omega) (by omega) (by omega) ?_
    refine v_il1 c_52_21 ?_
    exact v_ri c_52_22 ⟨_, rfl, rfl, rfl⟩
theorem q_evy (hM : QM (s.1 89) M) (hw : MW M) {i j : Nat} (hi : i < mN M) (hj : j < mN M) : RI sc 65 [.ref 88, .int (nI i), .int (nI j)] s (bI (mEn M i j)) s := by
  refine cc_of ml_65 rfl rfl ?_
  have := hw.1
  have bi := hw.2.2.2.1 i hi
  have bj := hw.2.2.2.1 j hj
  have e1 := hw.2.2.1 i _ hi bi
  have e2 := hw.2.2.1 i _ hi bj
  unfold mEn
  cases h1 : (mL M).testBit i
  · cases h2 : (mL M).testBit j
    · by_cases h3 : mR M i (mH M j) < mR M i (mH M i)
      · refine v_al0 c_65_0 ?_
        refine v_il1 c_65_1 ?_
        refine v_cVi c_65_2 rfl (by decide) rfl rfl (q_isP hM hw (by omega)) ?_
        refine v_if_eq_fb c_65_3 (by rw [h1]; rfl) ?_
        refine v_al0 c_65_4 ?_
        refine v_il2 c_65_5 ?_
        refine v_cVi c_65_6 rfl (by decide) rfl rfl (q_isP hM hw (by omega)) ?_
        refine v_if_eq_fb c_65_7 (by rw [h2]; rfl) ?_
        refine v_al0 c_65_8 ?_
        refine v_il1 c_65_9 ?_
        refine v_al0 c_65_10 ?_
        refine v_il2 c_65_11 ?_
        refine v_cVi c_65_12 rfl (by decide) rfl rfl (q_hd hM hw.1 hj) ?_
        refine v_cVi c_65_13 rfl (by decide) rfl rfl (q_rk hM hw hi bj) ?_
        refine v_al0 c_65_14 ?_
        refine v_il1 c_65_15 ?_
        refine v_al0 c_65_16 ?_
        refine v_il1 c_65_17 ?_
        refine v_cVi c_65_18 rfl (by decide) rfl rfl (q_hd hM hw.1 hi) ?_
        refine v_cVi c_65_19 rfl (by decide) rfl rfl (q_rk hM hw hi bi) ?_
        refine v_icmp_ge_F c_65_20 (by omega) (by omega) (by omega) ?_
        refine v_icN (n := 1) c_65_21 rfl ?_
        refine v_goto c_65_22 ?_
        exact v_rb (B := true) c_65_24 rfl ⟨_, rfl, by simp [h3], rfl⟩
      · refine v_al0 c_65_0 ?_
        refine v_il1 c_65_1 ?_
        refine v_cVi c_65_2 rfl (by decide) rfl rfl (q_isP hM hw (by omega)) ?_
        refine v_if_eq_fb c_65_3 (by rw [h1]; rfl) ?_
        refine v_al0 c_65_4 ?_
        refine v_il2 c_65_5 ?_
        refine v_cVi c_65_6 rfl (by decide) rfl rfl (q_isP hM hw (by omega)) ?_
        refine v_if_eq_fb c_65_7 (by rw [h2]; rfl) ?_
        refine v_al0 c_65_8 ?_
        refine v_il1 c_65_9 ?_
        refine v_al0 c_65_10 ?_
        refine v_il2 c_65_11 ?_
        refine v_cVi c_65_12 rfl (by decide) rfl rfl (q_hd hM hw.1 hj) ?_
        refine v_cVi c_65_13 rfl (by decide) rfl rfl (q_rk hM hw hi bj) ?_
        refine v_al0 c_65_14 ?_
        refine v_il1 c_65_15 ?_
        refine v_al0 c_65_16 ?_
        refine v_il1 c_65_17 ?_
        refine v_cVi c_65_18 rfl (by decide) rfl rfl (q_hd hM hw.1 hi) ?_
        refine v_cVi c_65_19 rfl (by decide) rfl rfl (q_rk hM hw hi bi) ?_
        refine v_icmp_ge_T c_65_20 (by omega) (by omega) (by omega) ?_
        refine v_icN (n := 0) c_65_23 rfl ?_
        exact v_rb (B := false) c_65_24 rfl ⟨_, rfl, by simp [h3], rfl⟩
    · refine v_al0 c_65_0 ?_
      refine v_il1 c_65_1 ?_
      refine v_cVi c_65_2 rfl (by decide) rfl rfl (q_isP hM hw (by omega)) ?_
      refine v_if_eq_fb c_65_3 (by rw [h1]; rfl) ?_
      refine v_al0 c_65_4 ?_
      refine v_il2 c_65_5 ?_
      refine v_cVi c_65_6 rfl (by decide) rfl rfl (q_isP hM hw (by omega)) ?_
      refine v_if_eq_tb c_65_7 (by rw [h2]; rfl) ?_
      refine v_icN (n := 0) c_65_23 rfl ?_
      exact v_rb (B := false) c_65_24 rfl ⟨_, rfl, by simp, rfl⟩
  · refine v_al0 c_65_0 ?_
    refine v_il1 c_65_1 ?_
    refine v_cVi c_65_2 rfl (by decide) rfl rfl (q_isP hM hw (by omega)) ?_
    refine v_if_eq_tb c_65_3 (by rw [h1]; rfl) ?_
    refine v_icN (n := 0) c_65_23 rfl ?_
    exact v_rb (B := false) c_65_24 rfl ⟨_, rfl, by simp, rfl⟩
theorem q_ag (hM : QM (s.1 89) M) (hw : MW M) {i j : Nat} (hi : i < mN M) (hj : j < mN M) : RI sc 71 [.ref 88, .int (nI i), .int (nI j)] s (nI (mAg M i j)) s := by
  refine cc_of ml_71 rfl rfl ?_
  have h7 := hw.1
  have bi := hw.2.2.2.1 i hi
  have bj := hw.2.2.2.1 j hj
  have e1 := hw.2.2.1 i _ hi bi
  have e2 := hw.2.2.1 i _ hi bj
  have e3 := hw.2.2.1 j _ hj bi
  have e4 := hw.2.2.1 j _ hj bj
  unfold mAg
  by_cases h0 : i = j
  · rw [if_pos h0]
    refine v_il1 c_71_0 ?_
    refine v_il2 c_71_1 ?_
    refine v_icmp_eq_T c_71_2 (h0) (by omega) (by omega) ?_
    refine v_il1 c_71_7 ?_
    refine v_il2 c_71_8 ?_
    refine v_icmp_ne_F c_71_9 (h0) (by omega) (by omega) ?_
    refine v_icN (n := 1) c_71_10 rfl ?_
    refine v_goto c_71_11 ?_
    exact v_ri c_71_13 ⟨_, rfl, rfl, rfl⟩
  rw [if_neg h0]
  cases h1 : (mL M).testBit i
  · rw [if_neg (by decide)]
    cases h2 : (mL M).testBit j
    · rw [if_neg (by decide)]
      refine v_il1 c_71_0 ?_
      refine v_il2 c_71_1 ?_
      refine v_icmp_eq_F c_71_2 (by omega) (by omega) (by omega) ?_
      refine v_al0 c_71_3 ?_
      refine v_il1 c_71_4 ?_
      refine v_cVi c_71_5 rfl (by decide) rfl rfl (q_isP hM hw (by omega)) ?_
      refine v_if_ne_tb c_71_6 (by rw [h1]; rfl) ?_
      refine v_al0 c_71_14 ?_
      refine v_il2 c_71_15 ?_
      refine v_cVi c_71_16 rfl (by decide) rfl rfl (q_isP hM hw (by omega)) ?_
      refine v_if_ne_tb c_71_17 (by rw [h2]; rfl) ?_
      refine v_al0 c_71_20 ?_
      refine v_il1 c_71_21 ?_
      refine v_al0 c_71_22 ?_
      refine v_il2 c_71_23 ?_
      refine v_cVi c_71_24 rfl (by decide) rfl rfl (q_hd hM hw.1 hj) ?_
      refine v_cVi c_71_25 rfl (by decide) rfl rfl (q_rk hM hw hi bj) ?_
      refine v_al0 c_71_26 ?_
      refine v_il1 c_71_27 ?_
      refine v_al0 c_71_28 ?_
      refine v_il1 c_71_29 ?_
      refine v_cVi c_71_30 rfl (by decide) rfl rfl (q_hd hM hw.1 hi) ?_
      refine v_cVi c_71_31 rfl (by decide) rfl rfl (q_rk hM hw hi bi) ?_
      refine v_isub c_71_32 ?_
      refine v_is3 c_71_33 rfl ?_
      refine v_al0 c_71_34 ?_
      refine v_il2 c_71_35 ?_
      refine v_al0 c_71_36 ?_
      refine v_il1 c_71_37 ?_
      refine v_cVi c_71_38 rfl (by decide) rfl rfl (q_hd hM hw.1 hi) ?_
      refine v_cVi c_71_39 rfl (by decide) rfl rfl (q_rk hM hw hj bi) ?_
      refine v_al0 c_71_40 ?_
      refine v_il2 c_71_41 ?_
      refine v_al0 c_71_42 ?_
      refine v_il2 c_71_43 ?_
      refine v_cVi c_71_44 rfl (by decide) rfl rfl (q_hd hM hw.1 hj) ?_
      refine v_cVi c_71_45 rfl (by decide) rfl rfl (q_rk hM hw hj bj) ?_
      refine v_isub c_71_46 ?_
      refine v_is4 c_71_47 rfl ?_
      refine v_il3 c_71_48 ?_
      by_cases h3 : mR M i (mH M i) < mR M i (mH M j)
      · rw [if_pos h3]
        refine v_if_le_f c_71_49 ((fun h => absurd ((ls_le e2 e1).mp h) (by omega))) ?_
        refine v_icN (n := 4) c_71_50 rfl ?_
        refine v_goto c_71_51 ?_
        exact v_ri c_71_63 ⟨_, rfl, rfl, rfl⟩
      rw [if_neg h3]
      by_cases h4 : mR M j (mH M j) < mR M j (mH M i)
      · rw [if_pos h4]
        refine v_if_le_t c_71_49 (((ls_le e2 e1).mpr (by omega))) ?_
        refine v_il4 c_71_52 ?_
        refine v_if_le_f c_71_53 ((fun h => absurd ((ls_le e3 e4).mp h) (by omega))) ?_
        refine v_icN (n := 5) c_71_54 rfl ?_
        refine v_goto c_71_55 ?_
        exact v_ri c_71_63 ⟨_, rfl, rfl, rfl⟩
      rw [if_neg h4]
      by_cases h5 : mR M i (mH M j) = mR M i (mH M i)
      · by_cases h6 : mR M j (mH M i) = mR M j (mH M j)
        · rw [if_pos ⟨h5, h6⟩]
          refine v_if_le_t c_71_49 (((ls_le e2 e1).mpr (by omega))) ?_
          refine v_il4 c_71_52 ?_
          refine v_if_le_t c_71_53 (((ls_le e3 e4).mpr (by omega))) ?_
          refine v_il3 c_71_56 ?_
          refine v_if_ne_f c_71_57 (((ls_eq e2 e1).mpr h5)) ?_
          refine v_il4 c_71_58 ?_
          refine v_if_ne_f c_71_59 (((ls_eq e3 e4).mpr h6)) ?_
          refine v_bpN (n := 6) c_71_60 rfl ?_
          refine v_goto c_71_61 ?_
          exact v_ri c_71_63 ⟨_, rfl, rfl, rfl⟩
        · rw [if_neg (fun h => h6 h.2)]
          refine v_if_le_t c_71_49 (((ls_le e2 e1).mpr (by omega))) ?_
          refine v_il4 c_71_52 ?_
          refine v_if_le_t c_71_53 (((ls_le e3 e4).mpr (by omega))) ?_
          refine v_il3 c_71_56 ?_
          refine v_if_ne_f c_71_57 (((ls_eq e2 e1).mpr h5)) ?_
          refine v_il4 c_71_58 ?_
          refine v_if_ne_t c_71_59 ((fun h => h6 ((ls_eq e3 e4).mp h))) ?_
          refine v_icN (n := 0) c_71_62 rfl ?_
          exact v_ri c_71_63 ⟨_, rfl, rfl, rfl⟩
      · rw [if_neg (fun h => h5 h.1)]
        refine v_if_le_t c_71_49 (((ls_le e2 e1).mpr (by omega))) ?_
        refine v_il4 c_71_52 ?_
        refine v_if_le_t c_71_53 (((ls_le e3 e4).mpr (by omega))) ?_
        refine v_il3 c_71_56 ?_
        refine v_if_ne_t c_71_57 ((fun h => h5 ((ls_eq e2 e1).mp h))) ?_
        refine v_icN (n := 0) c_71_62 rfl ?_
        exact v_ri c_71_63 ⟨_, rfl, rfl, rfl⟩
    · rw [if_pos rfl]
      refine v_il1 c_71_0 ?_
      refine v_il2 c_71_1 ?_
      refine v_icmp_eq_F c_71_2 (by omega) (by omega) (by omega) ?_
      refine v_al0 c_71_3 ?_
      refine v_il1 c_71_4 ?_
      refine v_cVi c_71_5 rfl (by decide) rfl rfl (q_isP hM hw (by omega)) ?_
      refine v_if_ne_tb c_71_6 (by rw [h1]; rfl) ?_
      refine v_al0 c_71_14 ?_
      refine v_il2 c_71_15 ?_
      refine v_cVi c_71_16 rfl (by decide) rfl rfl (q_isP hM hw (by omega)) ?_
      refine v_if_ne_fb c_71_17 (by rw [h2]; rfl) ?_
      refine v_icN (n := 3) c_71_18 rfl ?_
      exact v_ri c_71_19 ⟨_, rfl, rfl, rfl⟩
  · rw [if_pos rfl]
    refine v_il1 c_71_0 ?_
    refine v_il2 c_71_1 ?_
    refine v_icmp_eq_F c_71_2 (by omega) (by omega) (by omega) ?_
    refine v_al0 c_71_3 ?_
    refine v_il1 c_71_4 ?_
    refine v_cVi c_71_5 rfl (by decide) rfl rfl (q_isP hM hw (by omega)) ?_
    refine v_if_ne_fb c_71_6 (by rw [h1]; rfl) ?_
    refine v_il1 c_71_7 ?_
    refine v_il2 c_71_8 ?_
    refine v_icmp_ne_T c_71_9 (by omega) (by omega) (by omega) ?_
    refine v_icN (n := 2) c_71_12 rfl ?_
    exact v_ri c_71_13 ⟨_, rfl, rfl, rfl⟩
theorem q_rks (hM : QM (s.1 89) M) (hw : MW M) {i t r : Nat} (hi : i < mN M) (ht : t < mN M) : RI sc 74 [.ref 88, .int (nI i), .int (nI t), .int (nI r)] s (nI (mR M i t)) (sI s 89 (9 + 7 * i + t) (nI r)) := by
  refine cc_of ml_74 rfl rfl ?_
  have := hw.1
  refine v_al0 c_74_0 ?_
  refine v_il1 c_74_1 ?_
  refine v_il2 c_74_2 ?_
  refine v_cVi c_74_3 rfl (by decide) rfl rfl (q_rk hM hw hi ht) ?_
  refine v_is4 c_74_4 rfl ?_
  refine v_al0 c_74_5 ?_
  refine v_gR (n0 := 89) c_74_6 rfl ?_
  refine v_bpN (n := 9) c_74_7 rfl ?_
  refine v_bpN (n := 7) c_74_8 rfl ?_
  refine v_il1 c_74_9 ?_
  refine v_imulN c_74_10 ?_
  refine v_iaddN c_74_11 ?_
  refine v_il2 c_74_12 ?_
  refine v_iaddN c_74_13 ?_
  refine v_il3 c_74_14 ?_
  refine v_sI c_74_15 rfl (by omega) ?_
  refine v_il4 c_74_16 ?_
  exact v_ri c_74_17 ⟨_, rfl, rfl, rfl⟩
theorem QM.rk {i t r : Nat} (hM : QM (s.1 89) M) (hw : MW M) (hi : i < mN M) (ht : t < mN M) : QM ((sI s 89 (9 + 7 * i + t) (nI r)).1 89) (mRk M i t r) := by
  have h7 := hw.1
  refine ⟨by rw [sI_k (by omega)]; exact hM.1, by rw [sI_k (by omega)]; exact hM.2.1, fun a ha => ?_, fun a b ha hb => ?_⟩
  · have ha : a < mN M := ha
    rw [sI_k (by omega)]; exact hM.2.2.1 a ha
  · have ha : a < mN M := ha
    have hb : b < mN M := hb
    show _ = nI (if a = i ∧ b = t then r else mR M a b)
    by_cases e : a = i ∧ b = t
    · rw [if_pos e, e.1, e.2, sI_s]
    · rw [if_neg e, sI_k (by omega)]
      exact hM.2.2.2 a b ha hb
theorem q_xch (hM : QM (s.1 89) M) (hw : MW M) {i j : Nat} (hi : i < mN M) (hj : j < mN M) : CC sc 76 [.ref 88, .int (nI i), .int (nI j)] s (QI fun x t => x = nI (mH (mSw M i j) i) ∧ QM (t.1 89) (mSw M i j) ∧ FR 89 90 s t) := by
  refine cc_of ml_76 rfl rfl ?_
  have h7 := hw.1
  refine v_al0 c_76_0 ?_
  refine v_il1 c_76_1 ?_
  refine v_cVi c_76_2 rfl (by decide) rfl rfl (q_hd hM hw.1 hi) ?_
  refine v_is3 c_76_3 rfl ?_
  refine v_al0 c_76_4 ?_
  refine v_gR (n0 := 89) c_76_5 rfl ?_
  refine v_icN (n := 2) c_76_6 rfl ?_
  refine v_il1 c_76_7 ?_
  refine v_iaddN c_76_8 ?_
  refine v_al0 c_76_9 ?_
  refine v_il2 c_76_10 ?_
  refine v_cVi c_76_11 rfl (by decide) rfl rfl (q_hd hM hw.1 hj) ?_
  refine v_sI c_76_12 rfl (by omega) ?_
  refine v_al0 c_76_13 ?_
  refine v_gR (n0 := 89) c_76_14 rfl ?_
  refine v_icN (n := 2) c_76_15 rfl ?_
  refine v_il2 c_76_16 ?_
  refine v_iaddN c_76_17 ?_
  refine v_il3 c_76_18 ?_
  refine v_sI c_76_19 rfl (by omega) ?_
  have hQ : QM ((sI (sI s 89 (2 + i) (nI (mH M j))) 89 (2 + j) (nI (mH M i))).1 89) (mSw M i j) := by
    refine ⟨by rw [sI_k (by omega), sI_k (by omega)]; exact hM.1, by rw [sI_k (by omega), sI_k (by omega)]; exact hM.2.1, fun a ha => ?_, fun a b ha hb => ?_⟩
    · have ha : a < mN M := ha
      show _ = nI (if a = j then mH M i else if a = i then mH M j else mH M a)
      by_cases e : a = j
      · rw [if_pos e, e, sI_s]
      · rw [if_neg e, sI_k (by omega)]
        by_cases e2 : a = i
        · rw [if_pos e2, e2, sI_s]
        · rw [if_neg e2, sI_k (by omega)]; exact hM.2.2.1 a ha
    · have ha : a < mN M := ha
      have hb : b < mN M := hb
      rw [sI_k (by omega), sI_k (by omega)]; exact hM.2.2.2 a b ha hb
  refine v_al0 c_76_20 ?_
  refine v_il1 c_76_21 ?_
  refine v_cVi c_76_22 rfl (by decide) rfl rfl (q_hd hQ h7 hi) ?_
  refine v_ri c_76_23 ?_
  exact ⟨_, rfl, rfl, hQ, (FR.sI (by omega) (by omega)).tr (FR.sI (by omega) (by omega))⟩
theorem q_hom (hM : QM (s.1 89) M) (hw : MW M) : CC sc 83 [.ref 88] s (QI fun x t => x = nI (mHc M) ∧ QM (t.1 89) (mHo M) ∧ FR 89 90 s t) := by
  refine cc_of ml_83 rfl rfl ?_
  have h7 := hw.1
  refine v_icN (n := 0) c_83_0 rfl ?_
  refine v_is1 c_83_1 rfl ?_
  refine v_icN (n := 0) c_83_2 rfl ?_
  refine v_is2 c_83_3 rfl ?_
  refine vv_forS (mN M) (fun i ls t => ls = [some (.ref 88), some (.int (nI (cnt (fun i => !decide (mH M i = i)) i))), some (.int (nI i))] ∧ QM (t.1 89) (mN M, mL M, mR M, fun k => if k < i then k else mH M k) ∧ FR 89 90 s t) ?_ ?_ _ _ ⟨rfl, hM, FR.rf⟩
  · rintro i ls t hi ⟨rfl, h1, h2⟩ hk
    have h0 : t.1 89 0 = nI (mN M) := h1.1
    have bi := hw.2.2.2.1 i hi
    have nxt : QM ((sI t 89 (2 + i) (nI i)).1 89) (mN M, mL M, mR M, fun k => if k < i + 1 then k else mH M k) := by
      refine ⟨by rw [sI_k (by omega)]; exact h1.1, by rw [sI_k (by omega)]; exact h1.2.1, fun a ha => ?_, fun a b ha hb => ?_⟩
      · have ha : a < mN M := ha
        show _ = nI (if a < i + 1 then a else mH M a)
        by_cases e : a = i
        · rw [if_pos (by omega), e, sI_s]
        · rw [sI_k (by omega)]
          refine (h1.2.2.1 a ha).trans ?_
          show nI (if a < i then a else mH M a) = _
          by_cases e2 : a < i
          · rw [if_pos e2, if_pos (by omega)]
          · rw [if_neg e2, if_neg (by omega)]
      · have ha : a < mN M := ha
        have hb : b < mN M := hb
        rw [sI_k (by omega)]
        exact h1.2.2.2 a b ha hb
    have hv : RI sc 50 [.ref 88, .int (nI i)] t (nI (mH M i)) t := by
      have h9 := q_hd (sc := sc) h1 h7 hi
      have e9 : mH ((mN M, mL M, mR M, fun k => if k < i then k else mH M k) : zM) i = mH M i := if_neg (by omega)
      rw [e9] at h9
      exact h9
    by_cases e : mH M i = i
    · refine v_il2 c_83_4 ?_
      refine v_al0 c_83_5 ?_
      refine v_gR (n0 := 89) c_83_6 rfl ?_
      refine v_icN (n := 0) c_83_7 rfl ?_
      refine v_aI c_83_8 rfl (by omega) (h0) ?_
      refine v_icmp_ge_F c_83_9 (by omega) (by omega) (by omega) ?_
      refine v_il1 c_83_10 ?_
      refine v_al0 c_83_11 ?_
      refine v_il2 c_83_12 ?_
      refine v_cVi c_83_13 rfl (by decide) rfl rfl (hv) ?_
      refine v_il2 c_83_14 ?_
      refine v_icmp_eq_T c_83_15 (e) (by omega) (by omega) ?_
      refine v_icN (n := 0) c_83_18 rfl ?_
      refine v_iaddN c_83_19 ?_
      refine v_is1 c_83_20 rfl ?_
      refine v_al0 c_83_21 ?_
      refine v_gR (n0 := 89) c_83_22 rfl ?_
      refine v_icN (n := 2) c_83_23 rfl ?_
      refine v_il2 c_83_24 ?_
      refine v_iaddN c_83_25 ?_
      refine v_il2 c_83_26 ?_
      refine v_sI c_83_27 rfl (by omega) ?_
      refine v_incN2 c_83_28 rfl rfl ?_
      refine v_goto c_83_29 ?_
      exact hk _ _ ⟨by rw [cnt_f (by simp [e])]; rfl, nxt, h2.tr (FR.sI (by omega) (by omega))⟩
    · refine v_il2 c_83_4 ?_
      refine v_al0 c_83_5 ?_
      refine v_gR (n0 := 89) c_83_6 rfl ?_
      refine v_icN (n := 0) c_83_7 rfl ?_
      refine v_aI c_83_8 rfl (by omega) (h0) ?_
      refine v_icmp_ge_F c_83_9 (by omega) (by omega) (by omega) ?_
      refine v_il1 c_83_10 ?_
      refine v_al0 c_83_11 ?_
      refine v_il2 c_83_12 ?_
      refine v_cVi c_83_13 rfl (by decide) rfl rfl (hv) ?_
      refine v_il2 c_83_14 ?_
      refine v_icmp_eq_F c_83_15 (e) (by omega) (by omega) ?_
      refine v_icN (n := 1) c_83_16 rfl ?_
      refine v_goto c_83_17 ?_
      refine v_iaddN c_83_19 ?_
      refine v_is1 c_83_20 rfl ?_
      refine v_al0 c_83_21 ?_
      refine v_gR (n0 := 89) c_83_22 rfl ?_
      refine v_icN (n := 2) c_83_23 rfl ?_
      refine v_il2 c_83_24 ?_
      refine v_iaddN c_83_25 ?_
      refine v_il2 c_83_26 ?_
      refine v_sI c_83_27 rfl (by omega) ?_
      refine v_incN2 c_83_28 rfl rfl ?_
      refine v_goto c_83_29 ?_
      exact hk _ _ ⟨by rw [cnt_t (by simp [e])], nxt, h2.tr (FR.sI (by omega) (by omega))⟩
  · rintro ls t ⟨rfl, h1, h2⟩
    have h0 : t.1 89 0 = nI (mN M) := h1.1
    refine v_il2 c_83_4 ?_
    refine v_al0 c_83_5 ?_
    refine v_gR (n0 := 89) c_83_6 rfl ?_
    refine v_icN (n := 0) c_83_7 rfl ?_
    refine v_aI c_83_8 rfl (by omega) (h0) ?_
    refine v_icmp_ge_T c_83_9 (by omega) (by omega) (by omega) ?_
    refine v_al0 c_83_30 ?_
    refine v_gR (n0 := 89) c_83_31 rfl ?_
    refine v_icN (n := 1) c_83_32 rfl ?_
    refine v_icN (n := 0) c_83_33 rfl ?_
    refine v_sI c_83_34 rfl (by omega) ?_
    refine v_il1 c_83_35 ?_
    refine v_ri c_83_36 ?_
    refine ⟨_, rfl, rfl, ⟨by rw [sI_k (by omega)]; exact h1.1, sI_s, fun a ha => ?_, fun a b ha hb => by rw [sI_k (by omega)]; exact h1.2.2.2 a b ha hb⟩, h2.tr (FR.sI (by omega) (by omega))⟩
    rw [sI_k (by omega)]
    refine (h1.2.2.1 a ha).trans ?_
    show nI (if a < mN M then a else mH M a) = nI a
    rw [if_pos (show a < mN M from ha)]
theorem q_tak (hM : QM (s.1 89) M) (hw : MW M) {S : Nat} (hS : S < 2147483648) {g : Nat → Nat} (hg : ∀ i, i < mN M → S.testBit i = true → s.1 95 i = nI (g i) ∧ g i < 7) :
    CC sc 78 [.ref 88, .int (nI S)] s (QI fun x t => x = nI (cnt (fun i => S.testBit i && !decide (mH M i = g i)) (mN M)) ∧ QM (t.1 89) (mTk M S g) ∧ FR 89 90 s t) := by
  refine cc_of ml_78 rfl rfl ?_
  have h7 := hw.1
  refine v_icN (n := 0) c_78_0 rfl ?_
  refine v_is2 c_78_1 rfl ?_
  refine v_icN (n := 0) c_78_2 rfl ?_
  refine v_is3 c_78_3 rfl ?_
  refine vv_forS (mN M) (fun i ls t => ls = [some (.ref 88), some (.int (nI S)), some (.int (nI (cnt (fun i => S.testBit i && !decide (mH M i = g i)) i))), some (.int (nI i))] ∧ QM (t.1 89) (mN M, mL M, mR M, fun k => if k < i then mH (mTk M S g) k else mH M k) ∧ FR 89 90 s t) ?_ ?_ _ _ ⟨rfl, hM, FR.rf⟩
  · rintro i ls t hi ⟨rfl, h1, h2⟩ hk
    have h0 : t.1 89 0 = nI (mN M) := h1.1
    have bi := hw.2.2.2.1 i hi
    have nxt : ∀ u : zv_S, (∀ j, j ≠ 2 + i → u.1 89 j = t.1 89 j) → u.1 89 (2 + i) = nI (mH (mTk M S g) i) → QM (u.1 89) (mN M, mL M, mR M, fun k => if k < i + 1 then mH (mTk M S g) k else mH M k) := by
      intro u hu1 hu2
      refine ⟨by rw [hu1 _ (by omega)]; exact h1.1, by rw [hu1 _ (by omega)]; exact h1.2.1, fun a ha => ?_, fun a b ha hb => ?_⟩
      · have ha : a < mN M := ha
        show _ = nI (if a < i + 1 then mH (mTk M S g) a else mH M a)
        by_cases e : a = i
        · rw [if_pos (by omega), e, hu2]
        · rw [hu1 _ (by omega)]
          refine (h1.2.2.1 a ha).trans ?_
          show nI (if a < i then mH (mTk M S g) a else mH M a) = _
          by_cases e2 : a < i
          · rw [if_pos e2, if_pos (by omega)]
          · rw [if_neg e2, if_neg (by omega)]
      · have ha : a < mN M := ha
        have hb : b < mN M := hb
        rw [hu1 _ (by omega)]
        exact h1.2.2.2 a b ha hb
    have e9 : mH ((mN M, mL M, mR M, fun k => if k < i then mH (mTk M S g) k else mH M k) : zM) i = mH M i := if_neg (by omega)
    have hv : RI sc 50 [.ref 88, .int (nI i)] t (nI (mH M i)) t := by
      have h9 := q_hd (sc := sc) h1 h7 hi
      rw [e9] at h9
      exact h9
    cases hb : S.testBit i
    · refine v_il3 c_78_4 ?_
      refine v_al0 c_78_5 ?_
      refine v_gR (n0 := 89) c_78_6 rfl ?_
      refine v_icN (n := 0) c_78_7 rfl ?_
      refine v_aI c_78_8 rfl (by omega) (h0) ?_
      refine v_icmp_ge_F c_78_9 (by omega) (by omega) (by omega) ?_
      refine v_il1 c_78_10 ?_
      refine v_il3 c_78_11 ?_
      refine v_cSi c_78_12 rfl rfl rfl (q_has hS (by omega)) ?_
      refine v_if_eq_tb c_78_13 (hb) ?_
      refine v_incN3 c_78_38 rfl rfl ?_
      refine v_goto c_78_39 ?_
      refine hk _ _ ⟨by rw [cnt_f (by simp [hb])], nxt _ (fun _ _ => rfl) ?_, h2⟩
      refine (h1.2.2.1 i hi).trans ?_
      rw [e9]
      show nI (mH M i) = nI (if S.testBit i then g i else mH M i)
      rw [hb]; rfl
    · obtain ⟨hg1, hg2⟩ := hg i hi hb
      have hg3 : t.1 95 i = nI (g i) := by rw [h2.at (by omega)]; exact hg1
      have hfin : nI (g i) = nI (mH (mTk M S g) i) := by
        show _ = nI (if S.testBit i then g i else mH M i)
        rw [hb]; rfl
      by_cases e : mH M i = g i
      · refine v_il3 c_78_4 ?_
        refine v_al0 c_78_5 ?_
        refine v_gR (n0 := 89) c_78_6 rfl ?_
        refine v_icN (n := 0) c_78_7 rfl ?_
        refine v_aI c_78_8 rfl (by omega) (h0) ?_
        refine v_icmp_ge_F c_78_9 (by omega) (by omega) (by omega) ?_
        refine v_il1 c_78_10 ?_
        refine v_il3 c_78_11 ?_
        refine v_cSi c_78_12 rfl rfl rfl (q_has hS (by omega)) ?_
        refine v_if_eq_fb c_78_13 (hb) ?_
        refine v_il2 c_78_14 ?_
        refine v_al0 c_78_15 ?_
        refine v_il3 c_78_16 ?_
        refine v_cVi c_78_17 rfl (by decide) rfl rfl (hv) ?_
        refine v_al0 c_78_18 ?_
        refine v_gR (n0 := 95) c_78_19 rfl ?_
        refine v_il3 c_78_20 ?_
        refine v_aI c_78_21 rfl (by omega) (hg3) ?_
        refine v_icmp_eq_T c_78_22 (e) (by omega) (by omega) ?_
        refine v_icN (n := 0) c_78_25 rfl ?_
        refine v_iaddN c_78_26 ?_
        refine v_is2 c_78_27 rfl ?_
        refine v_al0 c_78_28 ?_
        refine v_gR (n0 := 89) c_78_29 rfl ?_
        refine v_icN (n := 2) c_78_30 rfl ?_
        refine v_il3 c_78_31 ?_
        refine v_iaddN c_78_32 ?_
        refine v_al0 c_78_33 ?_
        refine v_gR (n0 := 95) c_78_34 rfl ?_
        refine v_il3 c_78_35 ?_
        refine v_aI c_78_36 rfl (by omega) (hg3) ?_
        refine v_sI c_78_37 rfl (by omega) ?_
        refine v_incN3 c_78_38 rfl rfl ?_
        refine v_goto c_78_39 ?_
        exact hk _ _ ⟨by rw [cnt_f (by simp [e])]; rfl, nxt _ (fun j hj => sI_k hj) (by rw [sI_s]; exact hfin), h2.tr (FR.sI (by omega) (by omega))⟩
      · refine v_il3 c_78_4 ?_
        refine v_al0 c_78_5 ?_
        refine v_gR (n0 := 89) c_78_6 rfl ?_
        refine v_icN (n := 0) c_78_7 rfl ?_
        refine v_aI c_78_8 rfl (by omega) (h0) ?_
        refine v_icmp_ge_F c_78_9 (by omega) (by omega) (by omega) ?_
        refine v_il1 c_78_10 ?_
        refine v_il3 c_78_11 ?_
        refine v_cSi c_78_12 rfl rfl rfl (q_has hS (by omega)) ?_
        refine v_if_eq_fb c_78_13 (hb) ?_
        refine v_il2 c_78_14 ?_
        refine v_al0 c_78_15 ?_
        refine v_il3 c_78_16 ?_
        refine v_cVi c_78_17 rfl (by decide) rfl rfl (hv) ?_
        refine v_al0 c_78_18 ?_
        refine v_gR (n0 := 95) c_78_19 rfl ?_
        refine v_il3 c_78_20 ?_
        refine v_aI c_78_21 rfl (by omega) (hg3) ?_
        refine v_icmp_eq_F c_78_22 (e) (by omega) (by omega) ?_
        refine v_icN (n := 1) c_78_23 rfl ?_
        refine v_goto c_78_24 ?_
        refine v_iaddN c_78_26 ?_
        refine v_is2 c_78_27 rfl ?_
        refine v_al0 c_78_28 ?_
        refine v_gR (n0 := 89) c_78_29 rfl ?_
        refine v_icN (n := 2) c_78_30 rfl ?_
        refine v_il3 c_78_31 ?_
        refine v_iaddN c_78_32 ?_
        refine v_al0 c_78_33 ?_
        refine v_gR (n0 := 95) c_78_34 rfl ?_
        refine v_il3 c_78_35 ?_
        refine v_aI c_78_36 rfl (by omega) (hg3) ?_
        refine v_sI c_78_37 rfl (by omega) ?_
        refine v_incN3 c_78_38 rfl rfl ?_
        refine v_goto c_78_39 ?_
        exact hk _ _ ⟨by rw [cnt_t (by simp [e, hb])], nxt _ (fun j hj => sI_k hj) (by rw [sI_s]; exact hfin), h2.tr (FR.sI (by omega) (by omega))⟩
  · rintro ls t ⟨rfl, h1, h2⟩
    have h0 : t.1 89 0 = nI (mN M) := h1.1
    refine v_il3 c_78_4 ?_
    refine v_al0 c_78_5 ?_
    refine v_gR (n0 := 89) c_78_6 rfl ?_
    refine v_icN (n := 0) c_78_7 rfl ?_
    refine v_aI c_78_8 rfl (by omega) (h0) ?_
    refine v_icmp_ge_T c_78_9 (by omega) (by omega) (by omega) ?_
    refine v_il2 c_78_40 ?_
    refine v_ri c_78_41 ?_
    refine ⟨_, rfl, rfl, ⟨h1.1, h1.2.1, fun a ha => ?_, h1.2.2.2⟩, h2⟩
    refine (h1.2.2.1 a ha).trans ?_
    show nI (if a < mN M then mH (mTk M S g) a else mH M a) = _
    rw [if_pos (show a < mN M from ha)]
end MO
