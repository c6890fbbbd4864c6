/-! WHO MOVES, WHAT A RING GAINS, HARM -/
def mT (M : zM) (O : Nat) : zT := tF (mN M) (mR M) (mH M) O
def gT (M : zM) (O i : Nat) : Nat := (tGe (mT M O) i).toNatClampNeg
def mMov (M : zM) : Nat := cnt (fun i => (mP M).testBit i && !decide (gT M (mP M) i = mH M i)) (mN M)
def gS (M : zM) (R : Nat) : Nat → Int32
  | 0 => 0
  | i + 1 => gS M R i + (if R.testBit i then nI (mR M i (mH M i)) - nI (mR M i (gT M (mP M) i)) else 0)
def mOt (M : zM) (i : Nat) : Nat := zdf (mP M) (2 ^ i)
def mHr (M : zM) (i : Nat) : Nat := orS (fun j => if (mOt M i).testBit j && decide (mR M j (gT M (mP M) j) < mR M j (gT M (mOt M i) j)) then 2 ^ j else 0) (mN M)
section MV
variable {M : zM}
theorem mT_TI (hw : MW M) {O : Nat} (hO : ∀ x, O.testBit x = true → x < mN M) : TI (mN M) (mH M) (mT M O) O := tF_TI hw.1 hw.2.2.2.1 hw.2.2.2.2 hO
theorem gT_ok (hw : MW M) {O i : Nat} (hO : ∀ x, O.testBit x = true → x < mN M) (hi : O.testBit i = true) : tGe (mT M O) i = nI (gT M O i) ∧ gT M O i < mN M := by
  obtain ⟨q, q1, q2⟩ := (mT_TI hw hO).2.1 i hi
  have h1 := hw.2.2.2.1 q (hO q q1)
  have h7 := hw.1
  have e : gT M O i = mH M q := by
    unfold gT
    rw [q2, nI_clamp (by omega)]
  rw [e]
  exact ⟨q2, h1⟩
theorem gT_no (hw : MW M) {O i : Nat} (hO : ∀ x, O.testBit x = true → x < mN M) (hin : i < mN M) (hi : O.testBit i = false) : tGe (mT M O) i = -9 := (mT_TI hw hO).1 i hin hi
theorem mP_n : ∀ x, (mP M).testBit x = true → x < mN M := fun x hx => by
  rw [mP_tb, Bool.and_eq_true, decide_eq_true_eq] at hx
  exact hx.1
theorem mOt_tb (i x : Nat) : (mOt M i).testBit x = ((mP M).testBit x && !decide (i = x)) := by
  unfold mOt
  rw [zdf_tb, Nat.testBit_two_pow]
theorem mOt_n (i : Nat) : ∀ x, (mOt M i).testBit x = true → x < mN M := fun x hx => by
  rw [mOt_tb, Bool.and_eq_true] at hx
  exact mP_n x hx.1
theorem mP_lv (i : Nat) (hi : i < mN M) : mP (mLv M i) = mOt M i := by
  apply Nat.eq_of_testBit_eq
  intro x
  rw [mOt_tb, mP_tb, mP_tb]
  show (decide (x < mN M) && !(mL M ||| 2 ^ i).testBit x) = _
  rw [Nat.testBit_or, Nat.testBit_two_pow]
  cases decide (x < mN M) <;> cases (mL M).testBit x <;> cases decide (i = x) <;> rfl
end MV
theorem i32_a (a b c : Int32) : a - (b - c) = a + (c - b) := by
  rw [Int32.sub_eq_add_neg, Int32.neg_sub]
section MVC
variable {sc : Nat × (Nat → Int32)} {s : zv_S} {m o : Nat} {M : zM}
theorem c_mov (hm : isM m = true) (ho : isT o = true) (hM : MK s m M) (hw : MW M) (hT : TR s o (mN M) (mT M (mP M))) : RI sc 177 [.ref o, .ref m] s (nI (mMov M)) s := by
  refine cc_of ml_177 rfl rfl ?_
  have h7 := hw.1
  refine v_icN (n := 0) c_177_0 rfl ?_
  refine v_is2 c_177_1 rfl ?_
  refine v_icN (n := 0) c_177_2 rfl ?_
  refine v_is3 c_177_3 rfl ?_
  refine vv_forS (mN M) (fun i ls t => (∃ y, ls = [some (.ref o), some (.ref m), some (.int (nI (cnt (fun i => (mP M).testBit i && !decide (gT M (mP M) i = mH M i)) i))), some (.int (nI i)), y]) ∧ t = s) ?_ ?_ _ _ ⟨⟨_, rfl⟩, rfl⟩
  · rintro i ls t hi ⟨⟨y, rfl⟩, rfl⟩ hk
    have hg := (hT.2.2.1 i hi).1
    have bi := hw.2.2.2.1 i hi
    cases h1 : (mP M).testBit i
    · rw [gT_no hw mP_n hi h1] at hg
      rw [cnt_f (by simp [h1])] at hk
      refine v_il3 c_177_4 ?_
      refine v_al1 c_177_5 ?_
      refine v_gI c_177_6 (kM_f0 hm) (hM.1) ?_
      refine v_icmp_ge_F c_177_7 (by omega) (by omega) (by omega) ?_
      refine v_al0 c_177_8 ?_
      refine v_gR c_177_9 (kT_r2 ho) ?_
      refine v_il3 c_177_10 ?_
      refine v_at c_177_11 (kT_a1 ho) (by omega) (hg) rfl ?_
      refine v_is4 c_177_12 rfl ?_
      refine v_il4 c_177_13 ?_
      refine v_bp c_177_14 ?_
      refine v_icmp_eq_t c_177_15 (rfl) ?_
      refine v_incN3 c_177_23 rfl rfl ?_
      refine v_goto c_177_24 ?_
      exact hk _ _ ⟨⟨_, rfl⟩, rfl⟩
    · obtain ⟨g1, g2⟩ := gT_ok hw mP_n h1
      rw [g1] at hg
      by_cases e : gT M (mP M) i = mH M i
      · rw [cnt_f (by simp [e])] at hk
        refine v_il3 c_177_4 ?_
        refine v_al1 c_177_5 ?_
        refine v_gI c_177_6 (kM_f0 hm) (hM.1) ?_
        refine v_icmp_ge_F c_177_7 (by omega) (by omega) (by omega) ?_
        refine v_al0 c_177_8 ?_
        refine v_gR c_177_9 (kT_r2 ho) ?_
        refine v_il3 c_177_10 ?_
        refine v_at c_177_11 (kT_a1 ho) (by omega) (hg) rfl ?_
        refine v_is4 c_177_12 rfl ?_
        refine v_il4 c_177_13 ?_
        refine v_bp c_177_14 ?_
        refine v_icmp_eq_f c_177_15 ((dg_9 _ (by omega))) ?_
        refine v_il4 c_177_16 ?_
        refine v_al1 c_177_17 ?_
        refine v_gR c_177_18 (kM_r3 hm) ?_
        refine v_il3 c_177_19 ?_
        refine v_at c_177_20 (kM_a2 hm) (by omega) (hM.2.2.2 i hi) rfl ?_
        refine v_icmp_eq_T c_177_21 (e) (by omega) (by omega) ?_
        refine v_incN3 c_177_23 rfl rfl ?_
        refine v_goto c_177_24 ?_
        exact hk _ _ ⟨⟨_, rfl⟩, rfl⟩
      · rw [cnt_t (by simp [e, h1])] at hk
        refine v_il3 c_177_4 ?_
        refine v_al1 c_177_5 ?_
        refine v_gI c_177_6 (kM_f0 hm) (hM.1) ?_
        refine v_icmp_ge_F c_177_7 (by omega) (by omega) (by omega) ?_
        refine v_al0 c_177_8 ?_
        refine v_gR c_177_9 (kT_r2 ho) ?_
        refine v_il3 c_177_10 ?_
        refine v_at c_177_11 (kT_a1 ho) (by omega) (hg) rfl ?_
        refine v_is4 c_177_12 rfl ?_
        refine v_il4 c_177_13 ?_
        refine v_bp c_177_14 ?_
        refine v_icmp_eq_f c_177_15 ((dg_9 _ (by omega))) ?_
        refine v_il4 c_177_16 ?_
        refine v_al1 c_177_17 ?_
        refine v_gR c_177_18 (kM_r3 hm) ?_
        refine v_il3 c_177_19 ?_
        refine v_at c_177_20 (kM_a2 hm) (by omega) (hM.2.2.2 i hi) rfl ?_
        refine v_icmp_eq_F c_177_21 (e) (by omega) (by omega) ?_
        refine v_incN2 c_177_22 rfl rfl ?_
        refine v_incN3 c_177_23 rfl rfl ?_
        refine v_goto c_177_24 ?_
        exact hk _ _ ⟨⟨_, rfl⟩, rfl⟩
  · rintro ls t ⟨⟨y, rfl⟩, rfl⟩
    refine v_il3 c_177_4 ?_
    refine v_al1 c_177_5 ?_
    refine v_gI c_177_6 (kM_f0 hm) (hM.1) ?_
    refine v_icmp_ge_T c_177_7 (by omega) (by omega) (by omega) ?_
    refine v_il2 c_177_25 ?_
    exact v_ri c_177_26 ⟨_, rfl, rfl, rfl⟩
theorem c_gai (hm : isM m = true) (ho : isT o = true) (hM : MK s m M) (hw : MW M) (hT : TR s o (mN M) (mT M (mP M))) {r R : Nat} (hr7 : r < 7) (hR : s.1 (o + 5) r = nI R) (hRb : ∀ x, R.testBit x = true → (mP M).testBit x = true) (hR128 : R < 128) : RI sc 178 [.ref o, .ref m, .int (nI r)] s (gS M R (mN M)) s := by
  refine cc_of ml_178 rfl rfl ?_
  have h7 := hw.1
  refine v_ic c_178_0 ?_
  refine v_is3 c_178_1 rfl ?_
  refine v_icN (n := 0) c_178_2 rfl ?_
  refine v_is4 c_178_3 rfl ?_
  refine vv_for (mN M) (fun i => [some (.ref o), some (.ref m), some (.int (nI r)), some (.int (gS M R i)), some (.int (nI i))]) ?_ ?_
  · intro i hi hk
    have hg := (hT.2.2.1 i hi).1
    have es : gS M R (i + 1) = gS M R i + (if R.testBit i then nI (mR M i (mH M i)) - nI (mR M i (gT M (mP M) i)) else 0) := rfl
    cases h1 : R.testBit i
    · rw [h1, if_neg (by decide), Int32.add_zero] at es
      rw [es] at hk
      refine v_il4 c_178_4 ?_
      refine v_al1 c_178_5 ?_
      refine v_gI c_178_6 (kM_f0 hm) (hM.1) ?_
      refine v_icmp_ge_F c_178_7 (by omega) (by omega) (by omega) ?_
      refine v_al0 c_178_8 ?_
      refine v_gR c_178_9 (kT_r6 ho) ?_
      refine v_il2 c_178_10 ?_
      refine v_at c_178_11 (kT_a5 ho) (by omega) (hR) rfl ?_
      refine v_il4 c_178_12 ?_
      refine v_cSi c_178_13 rfl rfl rfl (k_con (by omega) (by omega)) ?_
      refine v_if_eq_tb c_178_14 (h1) ?_
      refine v_incN4 c_178_25 rfl rfl ?_
      refine v_goto c_178_26 ?_
      exact hk
    · obtain ⟨g1, g2⟩ := gT_ok hw mP_n (hRb i h1)
      rw [g1] at hg
      rw [h1, if_pos rfl, ← i32_a] at es
      rw [es] at hk
      refine v_il4 c_178_4 ?_
      refine v_al1 c_178_5 ?_
      refine v_gI c_178_6 (kM_f0 hm) (hM.1) ?_
      refine v_icmp_ge_F c_178_7 (by omega) (by omega) (by omega) ?_
      refine v_al0 c_178_8 ?_
      refine v_gR c_178_9 (kT_r6 ho) ?_
      refine v_il2 c_178_10 ?_
      refine v_at c_178_11 (kT_a5 ho) (by omega) (hR) rfl ?_
      refine v_il4 c_178_12 ?_
      refine v_cSi c_178_13 rfl rfl rfl (k_con (by omega) (by omega)) ?_
      refine v_if_eq_fb c_178_14 (h1) ?_
      refine v_il3 c_178_15 ?_
      refine v_al1 c_178_16 ?_
      refine v_il4 c_178_17 ?_
      refine v_al0 c_178_18 ?_
      refine v_gR c_178_19 (kT_r2 ho) ?_
      refine v_il4 c_178_20 ?_
      refine v_at c_178_21 (kT_a1 ho) (by omega) (hg) rfl ?_
      refine v_cVi c_178_22 rfl (kM_lt hm) (kM_is hm) rfl (k_lss hm hM hw hi g2) ?_
      refine v_isub c_178_23 ?_
      refine v_is3 c_178_24 rfl ?_
      refine v_incN4 c_178_25 rfl rfl ?_
      refine v_goto c_178_26 ?_
      exact hk
  · refine v_il4 c_178_4 ?_
    refine v_al1 c_178_5 ?_
    refine v_gI c_178_6 (kM_f0 hm) (hM.1) ?_
    refine v_icmp_ge_T c_178_7 (by omega) (by omega) (by omega) ?_
    refine v_il3 c_178_27 ?_
    exact v_ri c_178_28 ⟨_, rfl, rfl, rfl⟩
end MVC
section HM
variable {sc : Nat × (Nat → Int32)} {s : zv_S} {M : zM}
end HM
