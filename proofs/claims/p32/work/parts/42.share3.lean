/-! SHARING: the class's groups -/
def cdo (M : zM) (S : Nat) (much : Bool) : Bool := if much then decide (0 < wyS M S S 2) else decide (wyS M S S 1 < wyS M S S 0)
def oI (o : Option Nat) : Int32 := match o with
  | none => -9
  | some b => nI b
def bgF (M : zM) (much : Bool) : Nat → Option Nat
  | 0 => none
  | k + 1 => match bgF M much k with
    | none => if cdo M (1 + k) much then some (1 + k) else none
    | some b => if decide (pc (1 + k) < pc b) && cdo M (1 + k) much then some (1 + k) else some b
def mGr (M : zM) (much : Bool) : Nat := cnt (fun k => cdo M (1 + k) much) (2 ^ mN M - 1)
theorem bgF_le {M : zM} {much : Bool} {b : Nat} : ∀ k, bgF M much k = some b → 1 ≤ b ∧ b ≤ k
  | 0, h => by cases h
  | k + 1, h => by
    have e : bgF M much (k + 1) = (match bgF M much k with
      | none => if cdo M (1 + k) much then some (1 + k) else none
      | some b => if decide (pc (1 + k) < pc b) && cdo M (1 + k) much then some (1 + k) else some b) := rfl
    rw [e] at h
    cases c : bgF M much k with
    | none =>
      rw [c] at h
      dsimp only at h
      split at h
      · cases h; omega
      · cases h
    | some d =>
      rw [c] at h
      dsimp only at h
      have := bgF_le (b := d) k c
      split at h
      · cases h; omega
      · cases h; omega
theorem LKS.fr {s t : zv_S} {M : zM} {lo hi : Nat} (h : LKS s M) (hf : FR lo hi s t) (h1 : 81 ≤ lo ∨ hi ≤ 78) : LKS t M := by
  unfold LKS
  rw [hf.at (a := 78) (by omega), hf.at (a := 79) (by omega), hf.at (a := 80) (by omega)]
  exact h
theorem LN.fr {s t : zv_S} {S n lo hi : Nat} (h : LN s S n) (hf : FR lo hi s t) (h1 : 82 ≤ lo ∨ hi ≤ 77) : LN t S n := by
  unfold LN
  rw [hf.at (a := 77) (by omega), hf.at (a := 81) (by omega)]
  exact h
theorem mT_lt {M : zM} (hw : MW M) {S : Nat} : ∀ x, (mTh M S).testBit x = true → x < mN M := by
  intro x hx
  obtain ⟨i, h1, h2⟩ := (orS_tb (mN M)).mp hx
  cases h3 : S.testBit i
  · rw [h3] at h2; simp at h2
  · rw [h3, if_pos rfl, Nat.testBit_two_pow] at h2
    rw [← of_decide_eq_true h2]
    exact hw.2.2.2.1 i h1
theorem lt_tb {S n : Nat} (h : S < 2 ^ n) : ∀ x, S.testBit x = true → x < n := by
  intro x hx
  rcases Nat.lt_or_ge x n with h1 | h1
  · exact h1
  · rw [Nat.testBit_lt_two_pow (Nat.lt_of_lt_of_le h (Nat.pow_le_pow_right (by omega) h1))] at hx
    cases hx
section SG
variable {sc : Nat × (Nat → Int32)} {s : zv_S} {m : Nat} {M : zM}
theorem s_cdo (hm : isM m = true) (hmr : m + 3 ≤ 77 ∨ 83 ≤ m) (hM : MK s m M) (hw : MW M) (hl : LKS s M) {S : Nat} (hS : S < 2 ^ mN M) (much : Bool) :
    CC sc 156 [.ref 77, .ref m, .int (nI S), .int (bI much)] s (QI fun x t => x = bI (cdo M S much) ∧ LKS t M ∧ FR 77 83 s t) := by
  refine cc_of ml_156 rfl rfl ?_
  have hS7 : S < 128 := Nat.lt_of_lt_of_le hS hw.p128
  have hSn := lt_tb hS
  refine v_al0 c_156_0 ?_
  refine v_al1 c_156_1 ?_
  refine v_il2 c_156_2 ?_
  refine v_cVV c_156_3 rfl (by decide) rfl rfl (s_lin hm hmr hM hw hS7) ?_
  rintro t ⟨l1, l2, l3⟩
  have hl1 : LKS t M := by
    unfold LKS
    rw [l2 78 (by omega) (by omega), l2 79 (by omega) (by omega), l2 80 (by omega) (by omega)]
    exact hl
  cases much
  · refine v_il3 c_156_4 ?_
    refine v_if_eq_tb c_156_5 (rfl) ?_
    refine v_al0 c_156_16 ?_
    refine v_il2 c_156_17 ?_
    refine v_al0 c_156_18 ?_
    refine v_gR (n0 := 80) c_156_19 rfl ?_
    refine v_cVI c_156_20 rfl (by decide) rfl rfl (s_cw (how := 0) rfl (by omega) hw hS7 hSn l1 (fun i hi => (hl1 i hi).2.2)) ?_
    rintro x t2 ⟨rfl, f2⟩
    have hl2 := hl1.fr f2 (by omega)
    refine v_al0 c_156_21 ?_
    refine v_il2 c_156_22 ?_
    refine v_al0 c_156_23 ?_
    refine v_gR (n0 := 79) c_156_24 rfl ?_
    refine v_cVI c_156_25 rfl (by decide) rfl rfl (s_cw (how := 1) rfl (by omega) hw hS7 hSn (l1.fr f2 (by omega)) (fun i hi => (hl2 i hi).2.1)) ?_
    rintro x t3 ⟨rfl, f3⟩
    have ff : FR 77 83 s t3 := ((l3.up (by omega) (by omega)).tr (f2.up (by omega) (by omega))).tr (f3.up (by omega) (by omega))
    have b0 : wyS M S S 0 < 2147483648 := FX_b
    have b1 : wyS M S S 1 < 2147483648 := FX_b
    by_cases c : wyS M S S 1 < wyS M S S 0
    · refine v_icmp_le_F c_156_26 (c) (by omega) (by omega) ?_
      refine v_icN (n := 1) c_156_27 rfl ?_
      refine v_goto c_156_28 ?_
      refine v_rb (B := true) c_156_30 rfl ?_
      exact ⟨_, rfl, by unfold cdo; rw [if_neg (by decide), decide_eq_true c], hl2.fr f3 (by omega), ff⟩
    · refine v_icmp_le_T c_156_26 ((by omega)) (by omega) (by omega) ?_
      refine v_icN (n := 0) c_156_29 rfl ?_
      refine v_rb (B := false) c_156_30 rfl ?_
      exact ⟨_, rfl, by unfold cdo; rw [if_neg (by decide), decide_eq_false c], hl2.fr f3 (by omega), ff⟩
  · refine v_il3 c_156_4 ?_
    refine v_if_eq_fb c_156_5 (rfl) ?_
    refine v_al0 c_156_6 ?_
    refine v_il2 c_156_7 ?_
    refine v_al0 c_156_8 ?_
    refine v_gR (n0 := 78) c_156_9 rfl ?_
    refine v_cVI c_156_10 rfl (by decide) rfl rfl (s_cw (how := 2) rfl (by omega) hw hS7 hSn l1 (fun i hi => (hl1 i hi).1)) ?_
    rintro x t2 ⟨rfl, f2⟩
    have ff : FR 77 83 s t2 := (l3.up (by omega) (by omega)).tr (f2.up (by omega) (by omega))
    have b0 : wyS M S S 2 < 2147483648 := FX_b
    by_cases c : 0 < wyS M S S 2
    · refine v_if_le_F c_156_11 (c) (by omega) ?_
      refine v_icN (n := 1) c_156_12 rfl ?_
      refine v_goto c_156_13 ?_
      refine v_rb (B := true) c_156_30 rfl ?_
      exact ⟨_, rfl, by unfold cdo; rw [if_pos rfl, decide_eq_true c], hl1.fr f2 (by omega), ff⟩
    · refine v_if_le_T c_156_11 ((by omega)) (by omega) ?_
      refine v_icN (n := 0) c_156_14 rfl ?_
      refine v_goto c_156_15 ?_
      refine v_rb (B := false) c_156_30 rfl ?_
      exact ⟨_, rfl, by unfold cdo; rw [if_pos rfl, decide_eq_false c], hl1.fr f2 (by omega), ff⟩
theorem s_grs (hm : isM m = true) (hmr : m + 3 ≤ 77 ∨ 83 ≤ m) (hM : MK s m M) (hw : MW M) (much : Bool) :
    CC sc 155 [.ref 77, .ref m, .int (bI much)] s (QI fun x t => x = nI (mGr M much) ∧ FR 77 83 s t) := by
  refine cc_of ml_155 rfl rfl ?_
  have h7 := hw.1
  have hp := hw.p128
  have hp0 := Nat.two_pow_pos (mN M)
  refine v_al0 c_155_0 ?_
  refine v_al1 c_155_1 ?_
  refine v_cVV c_155_2 rfl (by decide) rfl rfl (s_lik hm hmr hM hw) ?_
  rintro t0 ⟨l1, l2⟩
  refine v_icN (n := 0) c_155_3 rfl ?_
  refine v_is3 c_155_4 rfl ?_
  refine v_icN (n := 1) c_155_5 rfl ?_
  refine v_is4 c_155_6 rfl ?_
  refine vv_forS (2 ^ mN M - 1) (fun i ls t => ls = [some (.ref 77), some (.ref m), some (.int (bI much)), some (.int (nI (cnt (fun k => cdo M (1 + k) much) i))), some (.int (nI (1 + i)))] ∧ LKS t M ∧ FR 77 83 s t) ?_ ?_ _ _ ⟨rfl, l1, l2.up (by omega) (by omega)⟩
  · rintro i ls t hi ⟨rfl, g1, g2⟩ hk
    have hM' := hM.fr g2 (by omega)
    refine v_il4 c_155_7 ?_
    refine v_al1 c_155_8 ?_
    refine v_cVi c_155_9 rfl (kM_lt hm) (kM_is hm) rfl (k_eve hm hM' hw) ?_
    refine v_icmp_gt_F c_155_10 (by omega) (by omega) (by omega) ?_
    refine v_al0 c_155_11 ?_
    refine v_al1 c_155_12 ?_
    refine v_il4 c_155_13 ?_
    refine v_il2 c_155_14 ?_
    refine v_cVI c_155_15 rfl (by decide) rfl rfl (s_cdo hm hmr hM' hw g1 (S := 1 + i) (by omega) much) ?_
    rintro x t2 ⟨rfl, r1, r2⟩
    cases c : cdo M (1 + i) much
    · refine v_if_eq_tb c_155_16 (rfl) ?_
      refine v_incN4 c_155_18 rfl rfl ?_
      refine v_goto c_155_19 ?_
      exact hk _ _ ⟨by rw [cnt_f c]; rfl, r1, g2.tr r2⟩
    · refine v_if_eq_fb c_155_16 (rfl) ?_
      refine v_incN3 c_155_17 rfl rfl ?_
      refine v_incN4 c_155_18 rfl rfl ?_
      refine v_goto c_155_19 ?_
      exact hk _ _ ⟨by rw [cnt_t c]; rfl, r1, g2.tr r2⟩
  · rintro ls t ⟨rfl, g1, g2⟩
    have hM' := hM.fr g2 (by omega)
    refine v_il4 c_155_7 ?_
    refine v_al1 c_155_8 ?_
    refine v_cVi c_155_9 rfl (kM_lt hm) (kM_is hm) rfl (k_eve hm hM' hw) ?_
    refine v_icmp_gt_T c_155_10 (by omega) (by omega) (by omega) ?_
    refine v_il3 c_155_20 ?_
    refine v_ri c_155_21 ?_
    exact ⟨_, rfl, rfl, g2⟩
theorem s_grp (hm : isM m = true) (hmr : m + 3 ≤ 77 ∨ 83 ≤ m) (hM : MK s m M) (hw : MW M) (much : Bool) :
    CC sc 154 [.ref 77, .ref m, .int (bI much)] s (QI fun x t => x = oI (bgF M much (2 ^ mN M - 1)) ∧ FR 77 83 s t) := by
  refine cc_of ml_154 rfl rfl ?_
  have h7 := hw.1
  have hp := hw.p128
  have hp0 := Nat.two_pow_pos (mN M)
  refine v_al0 c_154_0 ?_
  refine v_al1 c_154_1 ?_
  refine v_cVV c_154_2 rfl (by decide) rfl rfl (s_lik hm hmr hM hw) ?_
  rintro t0 ⟨l1, l2⟩
  refine v_bp c_154_3 ?_
  refine v_is3 c_154_4 rfl ?_
  refine v_icN (n := 1) c_154_5 rfl ?_
  refine v_is4 c_154_6 rfl ?_
  refine vv_forS (2 ^ mN M - 1) (fun i ls t => (∃ y, ls = [some (.ref 77), some (.ref m), some (.int (bI much)), some (.int (oI (bgF M much i))), some (.int (nI (1 + i))), y]) ∧ LKS t M ∧ FR 77 83 s t) ?_ ?_ _ _ ⟨⟨none, rfl⟩, l1, l2.up (by omega) (by omega)⟩
  · rintro i ls t hi ⟨⟨y, rfl⟩, g1, g2⟩ hk
    have hM' := hM.fr g2 (by omega)
    have e : bgF M much (i + 1) = (match bgF M much i with
      | none => if cdo M (1 + i) much then some (1 + i) else none
      | some b => if decide (pc (1 + i) < pc b) && cdo M (1 + i) much then some (1 + i) else some b) := rfl
    have hpc := pc_le (1 + i)
    cases c : bgF M much i with
    | none =>
      rw [c] at e
      refine v_il4 c_154_7 ?_
      refine v_al1 c_154_8 ?_
      refine v_cVi c_154_9 rfl (kM_lt hm) (kM_is hm) rfl (k_eve hm hM' hw) ?_
      refine v_icmp_gt_F c_154_10 (by omega) (by omega) (by omega) ?_
      refine v_il3 c_154_11 ?_
      refine v_bp c_154_12 ?_
      refine v_icmp_eq_t c_154_13 (rfl) ?_
      refine v_icN (n := 1) c_154_19 rfl ?_
      refine v_goto c_154_20 ?_
      refine v_is5 c_154_22 rfl ?_
      refine v_il5 c_154_23 ?_
      refine v_if_eq_F c_154_24 (by omega) (by omega) ?_
      refine v_al0 c_154_25 ?_
      refine v_al1 c_154_26 ?_
      refine v_il4 c_154_27 ?_
      refine v_il2 c_154_28 ?_
      refine v_cVI c_154_29 rfl (by decide) rfl rfl (s_cdo hm hmr hM' hw g1 (S := 1 + i) (by omega) much) ?_
      rintro x t2 ⟨rfl, r1, r2⟩
      cases d : cdo M (1 + i) much
      · rw [d] at e
        refine v_if_eq_tb c_154_30 (rfl) ?_
        refine v_incN4 c_154_33 rfl rfl ?_
        refine v_goto c_154_34 ?_
        exact hk _ _ ⟨⟨_, by rw [e]; rfl⟩, r1, g2.tr r2⟩
      · rw [d] at e
        refine v_if_eq_fb c_154_30 (rfl) ?_
        refine v_il4 c_154_31 ?_
        refine v_is3 c_154_32 rfl ?_
        refine v_incN4 c_154_33 rfl rfl ?_
        refine v_goto c_154_34 ?_
        exact hk _ _ ⟨⟨_, by rw [e]; rfl⟩, r1, g2.tr r2⟩
    | some b =>
      rw [c] at e
      dsimp only at e
      have hb := bgF_le i c
      have hpb := pc_le b
      by_cases q : pc (1 + i) < pc b
      · refine v_il4 c_154_7 ?_
        refine v_al1 c_154_8 ?_
        refine v_cVi c_154_9 rfl (kM_lt hm) (kM_is hm) rfl (k_eve hm hM' hw) ?_
        refine v_icmp_gt_F c_154_10 (by omega) (by omega) (by omega) ?_
        refine v_il3 c_154_11 ?_
        refine v_bp c_154_12 ?_
        refine v_icmp_eq_f c_154_13 ((dg_9 b (by omega))) ?_
        refine v_il4 c_154_14 ?_
        refine v_cSi c_154_15 rfl rfl rfl (k_bc (by omega)) ?_
        refine v_il3 c_154_16 ?_
        refine v_cSi c_154_17 rfl rfl rfl (k_bc (by omega)) ?_
        refine v_icmp_ge_F c_154_18 (by omega) (by omega) (by omega) ?_
        refine v_icN (n := 1) c_154_19 rfl ?_
        refine v_goto c_154_20 ?_
        refine v_is5 c_154_22 rfl ?_
        refine v_il5 c_154_23 ?_
        refine v_if_eq_F c_154_24 (by omega) (by omega) ?_
        refine v_al0 c_154_25 ?_
        refine v_al1 c_154_26 ?_
        refine v_il4 c_154_27 ?_
        refine v_il2 c_154_28 ?_
        refine v_cVI c_154_29 rfl (by decide) rfl rfl (s_cdo hm hmr hM' hw g1 (S := 1 + i) (by omega) much) ?_
        rintro x t2 ⟨rfl, r1, r2⟩
        cases d : cdo M (1 + i) much
        · rw [d, decide_eq_true q] at e
          refine v_if_eq_tb c_154_30 (rfl) ?_
          refine v_incN4 c_154_33 rfl rfl ?_
          refine v_goto c_154_34 ?_
          exact hk _ _ ⟨⟨_, by rw [e]; rfl⟩, r1, g2.tr r2⟩
        · rw [d, decide_eq_true q] at e
          refine v_if_eq_fb c_154_30 (rfl) ?_
          refine v_il4 c_154_31 ?_
          refine v_is3 c_154_32 rfl ?_
          refine v_incN4 c_154_33 rfl rfl ?_
          refine v_goto c_154_34 ?_
          exact hk _ _ ⟨⟨_, by rw [e]; rfl⟩, r1, g2.tr r2⟩
      · rw [decide_eq_false q] at e
        refine v_il4 c_154_7 ?_
        refine v_al1 c_154_8 ?_
        refine v_cVi c_154_9 rfl (kM_lt hm) (kM_is hm) rfl (k_eve hm hM' hw) ?_
        refine v_icmp_gt_F c_154_10 (by omega) (by omega) (by omega) ?_
        refine v_il3 c_154_11 ?_
        refine v_bp c_154_12 ?_
        refine v_icmp_eq_f c_154_13 ((dg_9 b (by omega))) ?_
        refine v_il4 c_154_14 ?_
        refine v_cSi c_154_15 rfl rfl rfl (k_bc (by omega)) ?_
        refine v_il3 c_154_16 ?_
        refine v_cSi c_154_17 rfl rfl rfl (k_bc (by omega)) ?_
        refine v_icmp_ge_T c_154_18 (by omega) (by omega) (by omega) ?_
        refine v_icN (n := 0) c_154_21 rfl ?_
        refine v_is5 c_154_22 rfl ?_
        refine v_il5 c_154_23 ?_
        refine v_if_eq_T c_154_24 (by omega) (by omega) ?_
        refine v_incN4 c_154_33 rfl rfl ?_
        refine v_goto c_154_34 ?_
        exact hk _ _ ⟨⟨_, by rw [e]; rfl⟩, g1, g2⟩
  · rintro ls t ⟨⟨y, rfl⟩, g1, g2⟩
    have hM' := hM.fr g2 (by omega)
    refine v_il4 c_154_7 ?_
    refine v_al1 c_154_8 ?_
    refine v_cVi c_154_9 rfl (kM_lt hm) (kM_is hm) rfl (k_eve hm hM' hw) ?_
    refine v_icmp_gt_T c_154_10 (by omega) (by omega) (by omega) ?_
    refine v_il3 c_154_35 ?_
    refine v_ri c_154_36 ?_
    exact ⟨_, rfl, rfl, g2⟩
def mBw (M : zM) : Int32 := nI (wyS M (mP M) (mTh M (mP M)) 0) - nI (wyS M (mP M) (mTh M (mP M)) 1)
theorem s_bet (hm : isM m = true) (hmr : m + 3 ≤ 77 ∨ 83 ≤ m) (hM : MK s m M) (hw : MW M) : CC sc 157 [.ref 77, .ref m] s (QI fun x t => x = mBw M ∧ FR 77 83 s t) := by
  refine cc_of ml_157 rfl rfl ?_
  have hP7 := mP_128 hw
  have hT7 := mTh_128 hw (mP M)
  refine v_al0 c_157_0 ?_
  refine v_al1 c_157_1 ?_
  refine v_cVV c_157_2 rfl (by decide) rfl rfl (s_lik hm hmr hM hw) ?_
  rintro t0 ⟨l1, l2⟩
  have hM0 := hM.fr l2 (by omega)
  refine v_al0 c_157_3 ?_
  refine v_al1 c_157_4 ?_
  refine v_al1 c_157_5 ?_
  refine v_cVi c_157_6 rfl (kM_lt hm) (kM_is hm) rfl (k_pre hm hM0 hw) ?_
  refine v_cVV c_157_7 rfl (by decide) rfl rfl (s_lin hm hmr hM0 hw hP7) ?_
  rintro t ⟨n1, n2, n3⟩
  have hM1 := hM0.fr n3 (by omega)
  have hl1 : LKS t M := by
    unfold LKS
    rw [n2 78 (by omega) (by omega), n2 79 (by omega) (by omega), n2 80 (by omega) (by omega)]
    exact l1
  refine v_al1 c_157_8 ?_
  refine v_al1 c_157_9 ?_
  refine v_cVi c_157_10 rfl (kM_lt hm) (kM_is hm) rfl (k_pre hm hM1 hw) ?_
  refine v_cVi c_157_11 rfl (kM_lt hm) (kM_is hm) rfl (k_thg hm hM1 hw (by omega)) ?_
  refine v_is2 c_157_12 rfl ?_
  refine v_al0 c_157_13 ?_
  refine v_il2 c_157_14 ?_
  refine v_al0 c_157_15 ?_
  refine v_gR (n0 := 80) c_157_16 rfl ?_
  refine v_cVI c_157_17 rfl (by decide) rfl rfl (s_cw (how := 0) rfl (by omega) hw hT7 (mT_lt hw) n1 (fun i hi => (hl1 i hi).2.2)) ?_
  rintro x t2 ⟨rfl, f2⟩
  have hl2 := hl1.fr f2 (by omega)
  refine v_al0 c_157_18 ?_
  refine v_il2 c_157_19 ?_
  refine v_al0 c_157_20 ?_
  refine v_gR (n0 := 79) c_157_21 rfl ?_
  refine v_cVI c_157_22 rfl (by decide) rfl rfl (s_cw (how := 1) rfl (by omega) hw hT7 (mT_lt hw) (n1.fr f2 (by omega)) (fun i hi => (hl2 i hi).2.1)) ?_
  rintro x t3 ⟨rfl, f3⟩
  refine v_isub c_157_23 ?_
  refine v_ri c_157_24 ?_
  exact ⟨_, rfl, rfl, (((l2.up (by omega) (by omega)).tr (n3.up (by omega) (by omega))).tr (f2.up (by omega) (by omega))).tr (f3.up (by omega) (by omega))⟩
end SG
