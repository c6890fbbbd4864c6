/-! WHO MOVES, WHAT A RING GAINS, HARM -/
def mT (M : zM) (O : Nat) : zT := tF (mN M) (mR M) (mH M) O
def gT (M : zM) (O i : Nat) : Nat := (tGe (mT M O) i).toNatClampNeg
def mMov (M : zM) : Nat := cnt (fun i => (mP M).testBit i && !decide (gT M (mP M) i = mH M i)) (mN M)
def gS (M : zM) (R : Nat) : Nat → Int32
  | 0 => 0
  | i + 1 => gS M R i + (if R.testBit i then nI (mR M i (mH M i)) - nI (mR M i (gT M (mP M) i)) else 0)
def mOt (M : zM) (i : Nat) : Nat := zdf (mP M) (2 ^ i)
def mHr (M : zM) (i : Nat) : Nat := orS (fun j => if (mOt M i).testBit j && decide (mR M j (gT M (mP M) j) < mR M j (gT M (mOt M i) j)) then 2 ^ j else 0) (mN M)
section MV
variable {M : zM}
theorem mT_TI (hw : MW M) {O : Nat} (hO : ∀ x, O.testBit x = true → x < mN M) : TI (mN M) (mH M) (mT M O) O := tF_TI hw.1 hw.2.2.2.1 hw.2.2.2.2 hO
theorem gT_ok (hw : MW M) {O i : Nat} (hO : ∀ x, O.testBit x = true → x < mN M) (hi : O.testBit i = true) : tGe (mT M O) i = nI (gT M O i) ∧ gT M O i < mN M := by
  obtain ⟨q, q1, q2⟩ := (mT_TI hw hO).2.1 i hi
  have h1 := hw.2.2.2.1 q (hO q q1)
  have h7 := hw.1
  have e : gT M O i = mH M q := by
    unfold gT
    rw [q2, nI_clamp (by omega)]
  rw [e]
  exact ⟨q2, h1⟩
theorem gT_no (hw : MW M) {O i : Nat} (hO : ∀ x, O.testBit x = true → x < mN M) (hin : i < mN M) (hi : O.testBit i = false) : tGe (mT M O) i = -9 := (mT_TI hw hO).1 i hin hi
theorem mP_n : ∀ x, (mP M).testBit x = true → x < mN M := fun x hx => by
  rw [mP_tb, Bool.and_eq_true, decide_eq_true_eq] at hx
  exact hx.1
theorem mOt_tb (i x : Nat) : (mOt M i).testBit x = ((mP M).testBit x && !decide (i = x)) := by
  unfold mOt
  rw [zdf_tb, Nat.testBit_two_pow]
theorem mOt_n (i : Nat) : ∀ x, (mOt M i).testBit x = true → x < mN M := fun x hx => by
  rw [mOt_tb, Bool.and_eq_true] at hx
  exact mP_n x hx.1
theorem mP_lv (i : Nat) (hi : i < mN M) : mP (mLv M i) = mOt M i := by
  apply Nat.eq_of_testBit_eq
  intro x
  rw [mOt_tb, mP_tb, mP_tb]
  show (decide (x < mN M) && !(mL M ||| 2 ^ i).testBit x) = _
  rw [Nat.testBit_or, Nat.testBit_two_pow]
  cases decide (x < mN M) <;> cases (mL M).testBit x <;> cases decide (i = x) <;> rfl
end MV
theorem i32_a (a b c : Int32) : a - (b - c) = a + (c - b) := by
  rw [Int32.sub_eq_add_neg, Int32.neg_sub]
section MVC
variable {sc : Nat × (Nat → Int32)} {s : zv_S} {m o : Nat} {M : zM}
theorem c_mov (hm : isM m = true) (ho : isT o = true) (hM : MK s m M) (hw : MW M) (hT : TR s o (mN M) (mT M (mP M))) : RI sc 177 [.ref o, .ref m] s (nI (mMov M)) s := by
  refine cc_of ml_177 rfl rfl ?_
  have h7 := hw.1
  refine v_icN (n := 0) c_177_0 rfl ?_
  refine v_is2 c_177_1 rfl ?_
  refine v_icN (n := 0) c_177_2 rfl ?_
  refine v_is3 c_177_3 rfl ?_
  refine vv_forS (mN M) (fun i ls t => (∃ y, ls = [some (.ref o), some (.ref m), some (.int (nI (cnt (fun i => (mP M).testBit i && !decide (gT M (mP M) i = mH M i)) i))), some (.int (nI i)), y]) ∧ t = s) ?_ ?_ _ _ ⟨⟨_, rfl⟩, rfl⟩
  · rintro i ls t hi ⟨⟨y, rfl⟩, rfl⟩ hk
    have hg := (hT.2.2.1 i hi).1
    have bi := hw.2.2.2.1 i hi
    cases h1 : (mP M).testBit i
    · rw [gT_no hw mP_n hi h1] at hg
      rw [cnt_f (by simp [h1])] at hk
      refine v_il3 c_177_4 ?_
      refine v_al1 c_177_5 ?_
      refine v_gI c_177_6 (kM_f0 hm) (hM.1) ?_
      refine v_icmp_ge_F c_177_7 (by omega) (by omega) (by omega) ?_
      refine v_al0 c_177_8 ?_
      refine v_gR c_177_9 (kT_r2 ho) ?_
      refine v_il3 c_177_10 ?_
      refine v_at c_177_11 (kT_a1 ho) (by omega) (hg) rfl ?_
      refine v_is4 c_177_12 rfl ?_
      refine v_il4 c_177_13 ?_
      refine v_bp c_177_14 ?_
      refine v_icmp_eq_t c_177_15 (rfl) ?_
      refine v_incN3 c_177_23 rfl rfl ?_
      refine v_goto c_177_24 ?_
      exact hk _ _ ⟨⟨_, rfl⟩, rfl⟩
    · obtain ⟨g1, g2⟩ := gT_ok hw mP_n h1
      rw [g1] at hg
      by_cases e : gT M (mP M) i = mH M i
      · rw [cnt_f (by simp [e])] at hk
        refine v_il3 c_177_4 ?_
        refine v_al1 c_177_5 ?_
        refine v_gI c_177_6 (kM_f0 hm) (hM.1) ?_
        refine v_icmp_ge_F c_177_7 (by omega) (by omega) (by omega) ?_
        refine v_al0 c_177_8 ?_
        refine v_gR c_177_9 (kT_r2 ho) ?_
        refine v_il3 c_177_10 ?_
        refine v_at c_177_11 (kT_a1 ho) (by omega) (hg) rfl ?_
        refine v_is4 c_177_12 rfl ?_
        refine v_il4 c_177_13 ?_
        refine v_bp c_177_14 ?_
        refine v_icmp_eq_f c_177_15 ((dg_9 _ (by omega))) ?_
        refine v_il4 c_177_16 ?_
        refine v_al1 c_177_17 ?_
        refine v_gR c_177_18 (kM_r3 hm) ?_
        refine v_il3 c_177_19 ?_
        refine v_at c_177_20 (kM_a2 hm) (by omega) (hM.2.2.2 i hi) rfl ?_
        refine v_icmp_eq_T c_177_21 (e) (by omega) (by omega) ?_
        refine v_incN3 c_177_23 rfl rfl ?_
        refine v_goto c_177_24 ?_
        exact hk _ _ ⟨⟨_, rfl⟩, rfl⟩
      · rw [cnt_t (by simp [e, h1])] at hk
        refine v_il3 c_177_4 ?_
        refine v_al1 c_177_5 ?_
        refine v_gI c_177_6 (kM_f0 hm) (hM.1) ?_
        refine v_icmp_ge_F c_177_7 (by omega) (by omega) (by omega) ?_
        refine v_al0 c_177_8 ?_
        refine v_gR c_177_9 (kT_r2 ho) ?_
        refine v_il3 c_177_10 ?_
        refine v_at c_177_11 (kT_a1 ho) (by omega) (hg) rfl ?_
        refine v_is4 c_177_12 rfl ?_
        refine v_il4 c_177_13 ?_
        refine v_bp c_177_14 ?_
        refine v_icmp_eq_f c_177_15 ((dg_9 _ (by omega))) ?_
        refine v_il4 c_177_16 ?_
        refine v_al1 c_177_17 ?_
        refine v_gR c_177_18 (kM_r3 hm) ?_
        refine v_il3 c_177_19 ?_
        refine v_at c_177_20 (kM_a2 hm) (by omega) (hM.2.2.2 i hi) rfl ?_
        refine v_icmp_eq_F c_177_21 (e) (by omega) (by omega) ?_
        refine v_incN2 c_177_22 rfl rfl ?_
        refine v_incN3 c_177_23 rfl rfl ?_
        refine v_goto c_177_24 ?_
        exact hk _ _ ⟨⟨_, rfl⟩, rfl⟩
  · rintro ls t ⟨⟨y, rfl⟩, rfl⟩
    refine v_il3 c_177_4 ?_
    refine v_al1 c_177_5 ?_
    refine v_gI c_177_6 (kM_f0 hm) (hM.1) ?_
    refine v_icmp_ge_T c_177_7 (by omega) (by omega) (by omega) ?_
    refine v_il2 c_177_25 ?_
    exact v_ri c_177_26 ⟨_, rfl, rfl, rfl⟩
theorem c_gai (hm : isM m = true) (ho : isT o = true) (hM : MK s m M) (hw : MW M) (hT : TR s o (mN M) (mT M (mP M))) {r R : Nat} (hr7 : r < 7) (hR : s.1 (o + 5) r = nI R) (hRb : ∀ x, R.testBit x = true → (mP M).testBit x = true) (hR128 : R < 128) : RI sc 178 [.ref o, .ref m, .int (nI r)] s (gS M R (mN M)) s := by
  refine cc_of ml_178 rfl rfl ?_
  have h7 := hw.1
  refine v_ic c_178_0 ?_
  refine v_is3 c_178_1 rfl ?_
  refine v_icN (n := 0) c_178_2 rfl ?_
  refine v_is4 c_178_3 rfl ?_
  refine vv_for (mN M) (fun i => [some (.ref o), some (.ref m), some (.int (nI r)), some (.int (gS M R i)), some (.int (nI i))]) ?_ ?_
  · intro i hi hk
    have hg := (hT.2.2.1 i hi).1
    have es : gS M R (i + 1) = gS M R i + (if R.testBit i then nI (mR M i (mH M i)) - nI (mR M i (gT M (mP M) i)) else 0) := rfl
    cases h1 : R.testBit i
    · rw [h1, if_neg (by decide), Int32.add_zero] at es
      rw [es] at hk
      refine v_il4 c_178_4 ?_
      refine v_al1 c_178_5 ?_
      refine v_gI c_178_6 (kM_f0 hm) (hM.1) ?_
      refine v_icmp_ge_F c_178_7 (by omega) (by omega) (by omega) ?_
      refine v_al0 c_178_8 ?_
      refine v_gR c_178_9 (kT_r6 ho) ?_
      refine v_il2 c_178_10 ?_
      refine v_at c_178_11 (kT_a5 ho) (by omega) (hR) rfl ?_
      refine v_il4 c_178_12 ?_
      refine v_cSi c_178_13 rfl rfl rfl (k_con (by omega) (by omega)) ?_
      refine v_if_eq_tb c_178_14 (h1) ?_
      refine v_incN4 c_178_25 rfl rfl ?_
      refine v_goto c_178_26 ?_
      exact hk
    · obtain ⟨g1, g2⟩ := gT_ok hw mP_n (hRb i h1)
      rw [g1] at hg
      rw [h1, if_pos rfl, ← i32_a] at es
      rw [es] at hk
      refine v_il4 c_178_4 ?_
      refine v_al1 c_178_5 ?_
      refine v_gI c_178_6 (kM_f0 hm) (hM.1) ?_
      refine v_icmp_ge_F c_178_7 (by omega) (by omega) (by omega) ?_
      refine v_al0 c_178_8 ?_
      refine v_gR c_178_9 (kT_r6 ho) ?_
      refine v_il2 c_178_10 ?_
      refine v_at c_178_11 (kT_a5 ho) (by omega) (hR) rfl ?_
      refine v_il4 c_178_12 ?_
      refine v_cSi c_178_13 rfl rfl rfl (k_con (by omega) (by omega)) ?_
      refine v_if_eq_fb c_178_14 (h1) ?_
      refine v_il3 c_178_15 ?_
      refine v_al1 c_178_16 ?_
      refine v_il4 c_178_17 ?_
      refine v_al0 c_178_18 ?_
      refine v_gR c_178_19 (kT_r2 ho) ?_
      refine v_il4 c_178_20 ?_
      refine v_at c_178_21 (kT_a1 ho) (by omega) (hg) rfl ?_
      refine v_cVi c_178_22 rfl (kM_lt hm) (kM_is hm) rfl (k_lss hm hM hw hi g2) ?_
      refine v_isub c_178_23 ?_
      refine v_is3 c_178_24 rfl ?_
      refine v_incN4 c_178_25 rfl rfl ?_
      refine v_goto c_178_26 ?_
      exact hk
  · refine v_il4 c_178_4 ?_
    refine v_al1 c_178_5 ?_
    refine v_gI c_178_6 (kM_f0 hm) (hM.1) ?_
    refine v_icmp_ge_T c_178_7 (by omega) (by omega) (by omega) ?_
    refine v_il3 c_178_27 ?_
    exact v_ri c_178_28 ⟨_, rfl, rfl, rfl⟩
end MVC
section HM
variable {sc : Nat × (Nat → Int32)} {s : zv_S} {M : zM}
theorem q_hrm (hM : QM (s.1 89) M) (hw : MW M) {i : Nat} (hi : i < mN M) (hp : (mL M).testBit i = false) : CC sc 98 [.ref 88, .int (nI i)] s (QI fun x t => x = nI (mHr M i) ∧ (QM (t.1 89) M) ∧ ∃ u v, FW (sI s 88 8 (nI 0)) u ∧ FR 89 90 u v ∧ ∃ w, FW v w ∧ FR 89 90 w t) := by
  refine cc_of ml_98 rfl rfl ?_
  have h7 := hw.1
  have hM0 : QM ((sI s 88 8 (nI 0)).1 89) M := by rw [sI_o (by omega)]; exact hM
  have hone : (decide (0 ≤ nI i) && decide (nI i < nI (mN M))) = true := by
    rw [Bool.and_eq_true, decide_eq_true_eq, decide_eq_true_eq]
    exact ⟨(nI_leI (a := 0) (by omega) (by omega)).mpr (Nat.zero_le _), (nI_ltI (by omega) (by omega)).mpr hi⟩
  refine v_al0 c_98_0 ?_
  refine v_icN (n := 0) c_98_1 rfl ?_
  refine v_pI c_98_2 rfl ?_
  refine v_al0 c_98_3 ?_
  refine v_il1 c_98_4 ?_
  refine v_cVi c_98_5 rfl (by decide) rfl rfl (q_one hM0 hw (nI i)) ?_
  refine v_if_ne_tb c_98_6 (hone) ?_
  refine v_al0 c_98_11 ?_
  refine v_il1 c_98_12 ?_
  refine v_cVi c_98_13 rfl (by decide) rfl rfl (q_isP hM0 hw (by omega)) ?_
  refine v_if_ne_tb c_98_14 (by rw [hp]; rfl) ?_
  refine v_al0 c_98_17 ?_
  refine v_cVV c_98_18 rfl (by decide) rfl rfl (q_fnd hM0 hw) ?_
  rintro t0 ⟨T0, F0⟩
  have hM1 := hM0.fw F0
  refine v_icN (n := 0) c_98_19 rfl ?_
  refine v_is2 c_98_20 rfl ?_
  refine vv_forS (mN M) (fun j ls t => (∃ y3 y4, ls = [some (.ref 88), some (.int (nI i)), some (.int (nI j)), y3, y4]) ∧ (∀ k, k < j → t.1 106 k = s.1 106 k ∨ t.1 106 k = tGe (mT M (mP M)) k) ∧ (∀ k, k < j → t.1 106 k = tGe (mT M (mP M)) k) ∧ FR 106 107 t0 t) ?_ ?_ _ _ ⟨⟨none, none, rfl⟩, fun k hk => absurd hk (by omega), fun k hk => absurd hk (by omega), FR.rf⟩
  · rintro j ls t hj ⟨⟨y3, y4, rfl⟩, _, g1, g2⟩ hk
    have hMt : QM (t.1 89) M := by rw [g2.at (by omega)]; exact hM1
    have hg : t.1 95 j = tGe (mT M (mP M)) j := by rw [g2.at (by omega)]; exact (T0.2.2.1 j hj).1
    refine v_il2 c_98_21 ?_
    refine v_al0 c_98_22 ?_
    refine v_gR (n0 := 89) c_98_23 rfl ?_
    refine v_icN (n := 0) c_98_24 rfl ?_
    refine v_aI c_98_25 rfl (by omega) (hMt.1) ?_
    refine v_icmp_ge_F c_98_26 (by omega) (by omega) (by omega) ?_
    refine v_al0 c_98_27 ?_
    refine v_gR (n0 := 106) c_98_28 rfl ?_
    refine v_il2 c_98_29 ?_
    refine v_al0 c_98_30 ?_
    refine v_gR (n0 := 95) c_98_31 rfl ?_
    refine v_il2 c_98_32 ?_
    refine v_aI c_98_33 rfl (by omega) (hg) ?_
    refine v_sI c_98_34 rfl (by omega) ?_
    refine v_incN2 c_98_35 rfl rfl ?_
    refine v_goto c_98_36 ?_
    have nx : ∀ k, k < j + 1 → (sI t 106 j (tGe (mT M (mP M)) j)).1 106 k = tGe (mT M (mP M)) k := by
      intro k hk
      by_cases e : k = j
      · rw [e, sI_s]
      · rw [sI_k e]; exact g1 k (by omega)
    exact hk _ _ ⟨⟨_, _, rfl⟩, fun k hk => Or.inr (nx k hk), nx, g2.tr (FR.sI (by omega) (by omega))⟩
  · rintro ls t1 ⟨⟨y3, y4, rfl⟩, _, g1, g2⟩
    have hMt : QM (t1.1 89) M := by rw [g2.at (by omega)]; exact hM1
    have F1 : FW (sI s 88 8 (nI 0)) t1 := F0.tr (FW.of g2 (by omega))
    refine v_il2 c_98_21 ?_
    refine v_al0 c_98_22 ?_
    refine v_gR (n0 := 89) c_98_23 rfl ?_
    refine v_icN (n := 0) c_98_24 rfl ?_
    refine v_aI c_98_25 rfl (by omega) (hMt.1) ?_
    refine v_icmp_ge_T c_98_26 (by omega) (by omega) (by omega) ?_
    refine v_al0 c_98_37 ?_
    refine v_gR (n0 := 89) c_98_38 rfl ?_
    refine v_icN (n := 1) c_98_39 rfl ?_
    refine v_aI c_98_40 rfl (by omega) (hMt.2.1) ?_
    refine v_is2 c_98_41 rfl ?_
    refine v_al0 c_98_42 ?_
    refine v_gR (n0 := 89) c_98_43 rfl ?_
    refine v_icN (n := 1) c_98_44 rfl ?_
    refine v_dup2 c_98_45 ?_
    refine v_aI c_98_46 rfl (by omega) (hMt.2.1) ?_
    refine v_icN (n := 1) c_98_47 rfl ?_
    refine v_il1 c_98_48 ?_
    refine v_ishlN c_98_49 (by omega) ?_
    rw [Nat.one_mul]
    have hw2 : MW (mLv M i) := MW.lv hw hi
    obtain ⟨u, hu⟩ : ∃ u, u = sI t1 89 1 (nI (mL M ||| 2 ^ i)) := ⟨_, rfl⟩
    have Fu : FR 89 90 t1 u := by rw [hu]; exact FR.sI (by omega) (by omega)
    have hMu : QM (u.1 89) (mLv M i) := by
      rw [hu]
      exact ⟨by rw [sI_k (by omega)]; exact hMt.1, sI_s, fun a ha => by rw [sI_k (by omega)]; exact hMt.2.2.1 a ha, fun a b ha hb => by rw [sI_k (by omega)]; exact hMt.2.2.2 a b ha hb⟩
    refine v_iorN c_98_50 ?_
    refine v_sI c_98_51 rfl (by omega) ?_
    rw [← hu]
    refine v_al0 c_98_52 ?_
    refine v_cVV c_98_53 rfl (by decide) rfl rfl (q_fnd0 hMu hw2) ?_
    rintro t2 ⟨T2, F2, F2', _⟩
    have hM2 := hMu.fw F2
    have T2' : TQ t2 (mN M) (mT M (mOt M i)) := by
      have := mP_lv i hi
      unfold mT
      rw [← this]
      exact T2
    have hsp : ∀ j, j < mN M → t2.1 106 j = tGe (mT M (mP M)) j := fun j hj => by
      rw [F2' 106 (by omega), hu, sI_o (by omega)]
      exact g1 j hj
    have h20 : t2.1 89 0 = nI (mN M) := hM2.1
    refine v_icN (n := 0) c_98_54 rfl ?_
    refine v_is3 c_98_55 rfl ?_
    refine v_icN (n := 0) c_98_56 rfl ?_
    refine v_is4 c_98_57 rfl ?_
    refine vv_for (mN M) (fun j => [some (.ref 88), some (.int (nI i)), some (.int (nI (mL M))), some (.int (nI (orS (fun j => if (mOt M i).testBit j && decide (mR M j (gT M (mP M) j) < mR M j (gT M (mOt M i) j)) then 2 ^ j else 0) j))), some (.int (nI j))]) ?_ ?_
    · intro j hj hk
      rw [orS_s] at hk
      have ho := mOt_tb (M := M) i j
      have hpj := mP_tb (mLv M i) j
      rw [mP_lv i hi] at hpj
      have hpj2 : (mOt M i).testBit j = !(mL (mLv M i)).testBit j := by
        rw [hpj, decide_eq_true (show j < mN (mLv M i) from hj), Bool.true_and]
      cases h1 : (mOt M i).testBit j
      · rw [h1] at hk
        refine v_il4 c_98_58 ?_
        refine v_al0 c_98_59 ?_
        refine v_gR (n0 := 89) c_98_60 rfl ?_
        refine v_icN (n := 0) c_98_61 rfl ?_
        refine v_aI c_98_62 rfl (by omega) (h20) ?_
        refine v_icmp_ge_F c_98_63 (by omega) (by omega) (by omega) ?_
        refine v_il3 c_98_64 ?_
        refine v_al0 c_98_65 ?_
        refine v_il4 c_98_66 ?_
        refine v_cVi c_98_67 rfl (by decide) rfl rfl (q_isP hM2 hw2 (by omega)) ?_
        refine v_if_eq_tb c_98_68 (by rw [← hpj2]; exact h1) ?_
        refine v_icN (n := 0) c_98_88 rfl ?_
        refine v_iorN c_98_89 ?_
        refine v_is3 c_98_90 rfl ?_
        refine v_incN4 c_98_91 rfl rfl ?_
        refine v_goto c_98_92 ?_
        exact hk
      · have h2 : (mP M).testBit j = true := by
          rw [h1] at ho
          cases e : (mP M).testBit j
          · rw [e] at ho; cases ho
          · rfl
        obtain ⟨a1, a2⟩ := gT_ok hw mP_n h2
        obtain ⟨b1, b2⟩ := gT_ok hw (mOt_n i) h1
        have e1 : t2.1 95 j = nI (gT M (mOt M i) j) := by rw [(T2'.2.2.1 j hj).1]; exact b1
        have e2 : t2.1 106 j = nI (gT M (mP M) j) := by rw [hsp j hj]; exact a1
        have r1 := hw.2.2.1 j _ hj a2
        have r2 := hw.2.2.1 j _ hj b2
        have q1 : RI sc 49 [.ref 88, .int (nI j), .int (nI (gT M (mOt M i) j))] t2 (nI (mR M j (gT M (mOt M i) j))) t2 := q_rk hM2 hw2 hj b2
        have q2 : RI sc 49 [.ref 88, .int (nI j), .int (nI (gT M (mP M) j))] t2 (nI (mR M j (gT M (mP M) j))) t2 := q_rk hM2 hw2 hj a2
        rw [h1] at hk
        by_cases c : mR M j (gT M (mP M) j) < mR M j (gT M (mOt M i) j)
        · rw [decide_eq_true c] at hk
          refine v_il4 c_98_58 ?_
          refine v_al0 c_98_59 ?_
          refine v_gR (n0 := 89) c_98_60 rfl ?_
          refine v_icN (n := 0) c_98_61 rfl ?_
          refine v_aI c_98_62 rfl (by omega) (h20) ?_
          refine v_icmp_ge_F c_98_63 (by omega) (by omega) (by omega) ?_
          refine v_il3 c_98_64 ?_
          refine v_al0 c_98_65 ?_
          refine v_il4 c_98_66 ?_
          refine v_cVi c_98_67 rfl (by decide) rfl rfl (q_isP hM2 hw2 (by omega)) ?_
          refine v_if_eq_fb c_98_68 (by rw [← hpj2]; exact h1) ?_
          refine v_al0 c_98_69 ?_
          refine v_il4 c_98_70 ?_
          refine v_al0 c_98_71 ?_
          refine v_gR (n0 := 95) c_98_72 rfl ?_
          refine v_il4 c_98_73 ?_
          refine v_aI c_98_74 rfl (by omega) (e1) ?_
          refine v_cVi c_98_75 rfl (by decide) rfl rfl (q1) ?_
          refine v_al0 c_98_76 ?_
          refine v_il4 c_98_77 ?_
          refine v_al0 c_98_78 ?_
          refine v_gR (n0 := 106) c_98_79 rfl ?_
          refine v_il4 c_98_80 ?_
          refine v_aI c_98_81 rfl (by omega) (e2) ?_
          refine v_cVi c_98_82 rfl (by decide) rfl rfl (q2) ?_
          refine v_icmp_le_F c_98_83 (c) (by omega) (by omega) ?_
          refine v_icN (n := 1) c_98_84 rfl ?_
          refine v_il4 c_98_85 ?_
          refine v_ishlN c_98_86 (by omega) ?_
          refine v_goto c_98_87 ?_
          rw [Nat.one_mul]
          refine v_iorN c_98_89 ?_
          refine v_is3 c_98_90 rfl ?_
          refine v_incN4 c_98_91 rfl rfl ?_
          refine v_goto c_98_92 ?_
          exact hk
        · rw [decide_eq_false c] at hk
          refine v_il4 c_98_58 ?_
          refine v_al0 c_98_59 ?_
          refine v_gR (n0 := 89) c_98_60 rfl ?_
          refine v_icN (n := 0) c_98_61 rfl ?_
          refine v_aI c_98_62 rfl (by omega) (h20) ?_
          refine v_icmp_ge_F c_98_63 (by omega) (by omega) (by omega) ?_
          refine v_il3 c_98_64 ?_
          refine v_al0 c_98_65 ?_
          refine v_il4 c_98_66 ?_
          refine v_cVi c_98_67 rfl (by decide) rfl rfl (q_isP hM2 hw2 (by omega)) ?_
          refine v_if_eq_fb c_98_68 (by rw [← hpj2]; exact h1) ?_
          refine v_al0 c_98_69 ?_
          refine v_il4 c_98_70 ?_
          refine v_al0 c_98_71 ?_
          refine v_gR (n0 := 95) c_98_72 rfl ?_
          refine v_il4 c_98_73 ?_
          refine v_aI c_98_74 rfl (by omega) (e1) ?_
          refine v_cVi c_98_75 rfl (by decide) rfl rfl (q1) ?_
          refine v_al0 c_98_76 ?_
          refine v_il4 c_98_77 ?_
          refine v_al0 c_98_78 ?_
          refine v_gR (n0 := 106) c_98_79 rfl ?_
          refine v_il4 c_98_80 ?_
          refine v_aI c_98_81 rfl (by omega) (e2) ?_
          refine v_cVi c_98_82 rfl (by decide) rfl rfl (q2) ?_
          refine v_icmp_le_T c_98_83 ((by omega)) (by omega) (by omega) ?_
          refine v_icN (n := 0) c_98_88 rfl ?_
          refine v_iorN c_98_89 ?_
          refine v_is3 c_98_90 rfl ?_
          refine v_incN4 c_98_91 rfl rfl ?_
          refine v_goto c_98_92 ?_
          exact hk
    · refine v_il4 c_98_58 ?_
      refine v_al0 c_98_59 ?_
      refine v_gR (n0 := 89) c_98_60 rfl ?_
      refine v_icN (n := 0) c_98_61 rfl ?_
      refine v_aI c_98_62 rfl (by omega) (h20) ?_
      refine v_icmp_ge_T c_98_63 (by omega) (by omega) (by omega) ?_
      refine v_al0 c_98_93 ?_
      refine v_gR (n0 := 89) c_98_94 rfl ?_
      refine v_icN (n := 1) c_98_95 rfl ?_
      refine v_il2 c_98_96 ?_
      refine v_sI c_98_97 rfl (by omega) ?_
      refine v_il3 c_98_98 ?_
      refine v_ri c_98_99 ?_
      refine ⟨_, rfl, rfl, ?_, t1, u, F1, Fu, t2, F2, FR.sI (by omega) (by omega)⟩
      exact ⟨by rw [sI_k (by omega)]; exact hM2.1, sI_s, fun a ha => by rw [sI_k (by omega)]; exact hM2.2.2.1 a ha, fun a b ha hb => by rw [sI_k (by omega)]; exact hM2.2.2.2 a b ha hb⟩
end HM
