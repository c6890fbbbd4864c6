/-! CALLS: what would be; save slots -/
section OP4
variable {sc : Nat × (Nat → Int32)} {s t u : zv_S} {M N : zM} {L L' : List zM} {S : Nat → Option zM} {tx : Nat → Nat} {len lo hi : Nat} {W : zW}
theorem xm_f {x v : Int32} (h : RMw s W) (F : FR lo hi (sI s 88 8 (nI 0)) t) (h1 : 95 ≤ lo ∧ hi ≤ 109) (hv : x = v) : XM s W (.inr (v, W)) x t := by
  refine xm_r h (GM.th.tr (GM.fr F (Or.inr h1))) ?_ ?_ hv
  · rw [F.at (by omega), sI_o (by omega)]
    exact h.1
  · rw [F.at (by omega), sI_s]
theorem o_grp (hw : WA M L S) (much : Bool) : OK2 sc (fun _ => 0) 0 19 89 [.ref 0, .int (bI much)] [.ref 88, .int (bI much)] (M, L, S, tx, len) := by
  refine ⟨.inr (oI (bgF M much (2 ^ mN M - 1)), (M, L, S, tx, len)), fun s h => ?_, fun s h => (q_grp h.kM hw.1 much).mono ?_, hw⟩
  · refine cc_of ml_19 rfl rfl ?_
    refine v_al0 c_19_0 ?_
    refine v_gR (n0 := 77) c_19_1 rfl ?_
    refine v_al0 c_19_2 ?_
    refine v_gR (n0 := 3) c_19_3 rfl ?_
    refine v_il1 c_19_4 ?_
    refine v_cVI c_19_5 rfl (by decide) rfl rfl (s_grp m3 (by omega) h.kM hw.1 much) ?_
    rintro x t ⟨hx, F⟩
    refine v_ri c_19_6 ?_
    exact xc_r h F (by omega) hx
  · rintro _ t ⟨x, rfl, hx, F⟩
    exact ⟨_, rfl, xm_f h F (by omega) hx⟩
theorem o_gms (hw : WA M L S) (much : Bool) : OK2 sc (fun _ => 0) 0 20 91 [.ref 0, .int (bI much)] [.ref 88, .int (bI much)] (M, L, S, tx, len) := by
  refine ⟨.inr (nI (mGr M much), (M, L, S, tx, len)), fun s h => ?_, fun s h => (q_gms h.kM hw.1 much).mono ?_, hw⟩
  · refine cc_of ml_20 rfl rfl ?_
    refine v_al0 c_20_0 ?_
    refine v_gR (n0 := 77) c_20_1 rfl ?_
    refine v_al0 c_20_2 ?_
    refine v_gR (n0 := 3) c_20_3 rfl ?_
    refine v_il1 c_20_4 ?_
    refine v_cVI c_20_5 rfl (by decide) rfl rfl (s_grs m3 (by omega) h.kM hw.1 much) ?_
    rintro x t ⟨hx, F⟩
    refine v_ri c_20_6 ?_
    exact xc_r h F (by omega) hx
  · rintro _ t ⟨x, rfl, hx, F⟩
    exact ⟨_, rfl, xm_f h F (by omega) hx⟩
theorem o_lst (hw : WA M L S) : OK2 sc (fun _ => 0) 0 21 95 [.ref 0] [.ref 88] (M, L, S, tx, len) := by
  refine ⟨.inr (nI (mLS M (mK M) 0), (M, L, S, tx, len)), fun s h => ?_, fun s h => (q_lea h.kM hw.1).mono ?_, hw⟩
  · refine cc_of ml_21 rfl rfl ?_
    refine v_al0 c_21_0 ?_
    refine v_gR (n0 := 77) c_21_1 rfl ?_
    refine v_al0 c_21_2 ?_
    refine v_gR (n0 := 3) c_21_3 rfl ?_
    refine v_cVI c_21_4 rfl (by decide) rfl rfl (s_lsm m3 (by omega) h.kM hw.1) ?_
    rintro x t ⟨hx, -, -, F⟩
    refine v_ri c_21_5 ?_
    exact xc_r h F (by omega) hx
  · rintro _ t ⟨x, rfl, hx, F⟩
    exact ⟨_, rfl, xm_f h F (by omega) hx⟩
theorem o_bet (hw : WA M L S) : OK2 sc (fun _ => 0) 0 23 97 [.ref 0] [.ref 88] (M, L, S, tx, len) := by
  refine ⟨.inr (mBw M, (M, L, S, tx, len)), fun s h => ?_, fun s h => (q_bet h.kM hw.1).mono ?_, hw⟩
  · refine cc_of ml_23 rfl rfl ?_
    refine v_al0 c_23_0 ?_
    refine v_gR (n0 := 77) c_23_1 rfl ?_
    refine v_al0 c_23_2 ?_
    refine v_gR (n0 := 3) c_23_3 rfl ?_
    refine v_cVI c_23_4 rfl (by decide) rfl rfl (s_bet m3 (by omega) h.kM hw.1) ?_
    rintro x t ⟨hx, F⟩
    refine v_ri c_23_5 ?_
    exact xc_r h F (by omega) hx
  · rintro _ t ⟨x, rfl, hx, F⟩
    exact ⟨_, rfl, xm_f h F (by omega) hx⟩
theorem o_lof (hw : WA M L S) (x : Int32) : OK2 sc (fun _ => 2) 1 22 96 [.ref 0, .int x] [.ref 88, .int x] (M, L, S, tx, len) := by
  have hM := hw.1
  cases hx : inN (mN M) x
  · refine ⟨.inl 1, fun s h => ?_, fun s h => (q_lofX h.kM hM hx).mono ?_, ⟨by omega, by omega⟩⟩
    · refine cc_of ml_22 rfl rfl ?_
      refine v_al0 c_22_0 ?_
      refine v_il1 c_22_1 ?_
      refine v_cVX c_22_2 rfl (by decide) rfl rfl (n_trX h.kM hM hx) ht_22 ?_
      exact xc_e h rfl
    · rintro _ t ⟨x, rfl, rfl, rfl⟩
      exact ⟨_, rfl, xm_e h⟩
  obtain ⟨i, hi, rfl⟩ := inN_of hM.1 hx
  refine ⟨.inr (lOf M i, (M, L, S, tx, len)), fun s h => ?_, fun s h => (q_lof h.kM hM hi).mono ?_, hw⟩
  · refine cc_of ml_22 rfl rfl ?_
    refine v_al0 c_22_0 ?_
    refine v_il1 c_22_1 ?_
    refine v_cVv c_22_2 rfl (by decide) rfl rfl (n_tr h.kM hM hx) ?_
    refine v_al0 c_22_3 ?_
    refine v_gR (n0 := 77) c_22_4 rfl ?_
    refine v_al0 c_22_5 ?_
    refine v_gR (n0 := 3) c_22_6 rfl ?_
    refine v_il1 c_22_7 ?_
    refine v_cVI c_22_8 rfl (by decide) rfl rfl (s_tal m3 (by omega) h.kM hM hi) ?_
    rintro x t ⟨hx, F⟩
    refine v_ri c_22_9 ?_
    exact xc_r h F (by omega) hx
  · rintro _ t ⟨x, rfl, hx, F⟩
    exact ⟨_, rfl, xm_f h F (by omega) hx⟩
theorem ls_cmp {a b h : Nat} (ha : a ≤ 9) (hb : b ≤ 9) (hh : h ≤ 9) : nI a - nI h ≤ nI b - nI h ↔ a ≤ b := by
  have k : ∀ a, a ≤ 9 → ∀ b, b ≤ 9 → ∀ h, h ≤ 9 → (nI a - nI h ≤ nI b - nI h ↔ a ≤ b) := by decide +kernel
  exact k a ha b hb h hh
theorem o_har (hw : WA M L S) (x : Int32) : OK2 sc (fun _ => 2) 1 24 98 [.ref 0, .int x] [.ref 88, .int x] (M, L, S, tx, len) := by
  have hM := hw.1
  have h7 := hM.1
  cases hx : inN (mN M) x
  · refine ⟨.inl 1, fun s h => ?_, fun s h => ?_, ⟨by omega, by omega⟩⟩
    · refine cc_of ml_24 rfl rfl ?_
      refine v_al0 c_24_0 ?_
      refine v_il1 c_24_1 ?_
      refine v_cVX c_24_2 rfl (by decide) rfl rfl (n_trX h.kM hM hx) ht_24 ?_
      exact xc_e h rfl
    · have h' := h.th (x := nI 0)
      refine cc_of ml_98 rfl rfl ?_
      refine v_al0 c_98_0 ?_
      refine v_icN (n := 0) c_98_1 rfl ?_
      refine v_pI c_98_2 rfl ?_
      refine v_al0 c_98_3 ?_
      refine v_il1 c_98_4 ?_
      refine v_cVi c_98_5 rfl (by decide) rfl rfl (q_oneI h'.kM hM x) ?_
      refine v_if_ne_fb c_98_6 (hx) ?_
      refine v_al0 c_98_7 ?_
      refine v_icN (n := 1) c_98_8 rfl ?_
      refine v_cVi c_98_9 rfl (by decide) rfl rfl (q_fl) ?_
      refine v_ri c_98_10 ?_
      exact ⟨_, rfl, xm_e h⟩
  obtain ⟨i, hi, rfl⟩ := inN_of h7 hx
  cases hl : (mL M).testBit i
  · refine ⟨.inr (nI (mHr M i), (M, L, S, tx, len)), fun s h => ?_, fun s h => (q_hrm h.kM hM hi hl).mono ?_, hw⟩
    · refine cc_of ml_24 rfl rfl ?_
      refine v_al0 c_24_0 ?_
      refine v_il1 c_24_1 ?_
      refine v_cVv c_24_2 rfl (by decide) rfl rfl (n_tr h.kM hM hx) ?_
      refine v_al0 c_24_3 ?_
      refine v_gR (n0 := 3) c_24_4 rfl ?_
      refine v_il1 c_24_5 ?_
      refine v_cVi c_24_6 rfl (by decide) rfl rfl (k_isP m3 h.kM hM (by omega)) ?_
      refine v_if_ne_tb c_24_7 (by rw [hl]; rfl) ?_
      refine v_al0 c_24_10 ?_
      refine v_gR (n0 := 3) c_24_11 rfl ?_
      refine v_cVi c_24_12 rfl (by decide) rfl rfl (k_pre m3 h.kM hM) ?_
      refine v_il1 c_24_13 ?_
      refine v_cSi c_24_14 rfl rfl rfl (k_bit (by omega)) ?_
      refine v_ic c_24_15 ?_
      refine v_ixor c_24_16 ?_
      refine v_iand c_24_17 ?_
      rw [nI_not]
      refine v_is2 c_24_18 rfl ?_
      refine v_al0 c_24_19 ?_
      refine v_cVR c_24_20 rfl (by decide) rfl rfl (n_pt h.kM hM) ?_
      rintro _ t ⟨rfl, T, F⟩
      have h1 := h.fr F (by omega)
      refine v_as3 c_24_21 rfl ?_
      refine v_al0 c_24_22 ?_
      refine v_gR (n0 := 69) c_24_23 rfl ?_
      refine v_al0 c_24_24 ?_
      refine v_gR (n0 := 3) c_24_25 rfl ?_
      refine v_il2 c_24_26 ?_
      refine v_cVV c_24_27 rfl (by decide) rfl rfl (c_fnd m3 t63 h1.kM hM (mOt_n i)) ?_
      rintro u ⟨T2, F2⟩
      have h2 := h1.fr F2 (by omega)
      have T1 := T.fr F2 (by omega)
      have T2 : TR u 69 (mN M) (mT M (mOt M i)) := T2
      have hO : mOt M i < 128 := O_7 h7 (mOt_n i)
      refine v_icN (n := 0) c_24_28 rfl ?_
      refine v_is4 c_24_29 rfl ?_
      refine v_icN (n := 0) c_24_30 rfl ?_
      refine v_is5 c_24_31 rfl ?_
      refine vv_for (mN M) (fun j => [some (.ref 0), some (.int (nI i)), some (.int (nI (mOt M i))), some (.ref 61), some (.int (nI (orS (fun j => if (mOt M i).testBit j && decide (mR M j (gT M (mP M) j) < mR M j (gT M (mOt M i) j)) then 2 ^ j else 0) j))), some (.int (nI j))]) ?_ ?_
      · intro j hj hk
        rw [orS_s] at hk
        have ho := mOt_tb (M := M) i j
        cases c1 : (mOt M i).testBit j
        · rw [c1, Bool.false_and, if_neg (by decide), Nat.or_zero] at hk
          refine v_il5 c_24_32 ?_
          refine v_al0 c_24_33 ?_
          refine v_gR (n0 := 3) c_24_34 rfl ?_
          refine v_gI c_24_35 rfl (h2.kM.1) ?_
          refine v_icmp_ge_F c_24_36 (by omega) (by omega) (by omega) ?_
          refine v_il2 c_24_37 ?_
          refine v_il5 c_24_38 ?_
          refine v_cSi c_24_39 rfl rfl rfl (k_con (by omega) (by omega)) ?_
          refine v_if_eq_tb c_24_40 (c1) ?_
          refine v_incN5 c_24_64 rfl rfl ?_
          refine v_goto c_24_65 ?_
          exact hk
        · have c2 : (mP M).testBit j = true := by
            rw [c1] at ho
            cases e : (mP M).testBit j
            · rw [e] at ho; cases ho
            · rfl
          obtain ⟨a1, a2⟩ := gT_ok hM mP_n c2
          obtain ⟨b1, b2⟩ := gT_ok hM (mOt_n i) c1
          have e1 : u.1 (69 + 1) j = nI (gT M (mOt M i) j) := (T2.2.2.1 j hj).1.trans b1
          have e2 : u.1 (61 + 1) j = nI (gT M (mP M) j) := (T1.2.2.1 j hj).1.trans a1
          have r1 := hM.2.2.1 j _ hj a2
          have r2 := hM.2.2.1 j _ hj b2
          have r0 := hM.2.2.1 j _ hj (hM.2.2.2.1 j hj)
          rw [c1] at hk
          by_cases c : mR M j (gT M (mP M) j) < mR M j (gT M (mOt M i) j)
          · rw [decide_eq_true c] at hk
            refine v_il5 c_24_32 ?_
            refine v_al0 c_24_33 ?_
            refine v_gR (n0 := 3) c_24_34 rfl ?_
            refine v_gI c_24_35 rfl (h2.kM.1) ?_
            refine v_icmp_ge_F c_24_36 (by omega) (by omega) (by omega) ?_
            refine v_il2 c_24_37 ?_
            refine v_il5 c_24_38 ?_
            refine v_cSi c_24_39 rfl rfl rfl (k_con (by omega) (by omega)) ?_
            refine v_if_eq_fb c_24_40 (c1) ?_
            refine v_al0 c_24_41 ?_
            refine v_gR (n0 := 3) c_24_42 rfl ?_
            refine v_il5 c_24_43 ?_
            refine v_al0 c_24_44 ?_
            refine v_gR (n0 := 69) c_24_45 rfl ?_
            refine v_gR (n0 := 70) c_24_46 rfl ?_
            refine v_il5 c_24_47 ?_
            refine v_at c_24_48 rfl (by omega) (e1) rfl ?_
            refine v_cVi c_24_49 rfl (by decide) rfl rfl (k_lss m3 h2.kM hM hj b2) ?_
            refine v_al0 c_24_50 ?_
            refine v_gR (n0 := 3) c_24_51 rfl ?_
            refine v_il5 c_24_52 ?_
            refine v_al3 c_24_53 ?_
            refine v_gR (n0 := 62) c_24_54 rfl ?_
            refine v_il5 c_24_55 ?_
            refine v_at c_24_56 rfl (by omega) (e2) rfl ?_
            refine v_cVi c_24_57 rfl (by decide) rfl rfl (k_lss m3 h2.kM hM hj a2) ?_
            refine v_icmp_le_f c_24_58 ((fun z => absurd ((ls_cmp r2 r1 r0).mp z) (by omega))) ?_
            refine v_il4 c_24_59 ?_
            refine v_il5 c_24_60 ?_
            refine v_cSi c_24_61 rfl rfl rfl (k_bit (by omega)) ?_
            refine v_iorN c_24_62 ?_
            refine v_is4 c_24_63 rfl ?_
            refine v_incN5 c_24_64 rfl rfl ?_
            refine v_goto c_24_65 ?_
            exact hk
          · rw [decide_eq_false c, Bool.and_false, if_neg (by decide), Nat.or_zero] at hk
            refine v_il5 c_24_32 ?_
            refine v_al0 c_24_33 ?_
            refine v_gR (n0 := 3) c_24_34 rfl ?_
            refine v_gI c_24_35 rfl (h2.kM.1) ?_
            refine v_icmp_ge_F c_24_36 (by omega) (by omega) (by omega) ?_
            refine v_il2 c_24_37 ?_
            refine v_il5 c_24_38 ?_
            refine v_cSi c_24_39 rfl rfl rfl (k_con (by omega) (by omega)) ?_
            refine v_if_eq_fb c_24_40 (c1) ?_
            refine v_al0 c_24_41 ?_
            refine v_gR (n0 := 3) c_24_42 rfl ?_
            refine v_il5 c_24_43 ?_
            refine v_al0 c_24_44 ?_
            refine v_gR (n0 := 69) c_24_45 rfl ?_
            refine v_gR (n0 := 70) c_24_46 rfl ?_
            refine v_il5 c_24_47 ?_
            refine v_at c_24_48 rfl (by omega) (e1) rfl ?_
            refine v_cVi c_24_49 rfl (by decide) rfl rfl (k_lss m3 h2.kM hM hj b2) ?_
            refine v_al0 c_24_50 ?_
            refine v_gR (n0 := 3) c_24_51 rfl ?_
            refine v_il5 c_24_52 ?_
            refine v_al3 c_24_53 ?_
            refine v_gR (n0 := 62) c_24_54 rfl ?_
            refine v_il5 c_24_55 ?_
            refine v_at c_24_56 rfl (by omega) (e2) rfl ?_
            refine v_cVi c_24_57 rfl (by decide) rfl rfl (k_lss m3 h2.kM hM hj a2) ?_
            refine v_icmp_le_t c_24_58 (((ls_cmp r2 r1 r0).mpr (by omega))) ?_
            refine v_incN5 c_24_64 rfl rfl ?_
            refine v_goto c_24_65 ?_
            exact hk
      · refine v_il5 c_24_32 ?_
        refine v_al0 c_24_33 ?_
        refine v_gR (n0 := 3) c_24_34 rfl ?_
        refine v_gI c_24_35 rfl (h2.kM.1) ?_
        refine v_icmp_ge_T c_24_36 (by omega) (by omega) (by omega) ?_
        refine v_il4 c_24_66 ?_
        refine v_ri c_24_67 ?_
        exact ⟨rfl, h2, (FC.fr F (by omega)).tr (FC.fr F2 (by omega))⟩
    · rintro _ t ⟨x, rfl, hx, hq, u, v, F1, F2, w, F3, F4⟩
      have hG : GM s t := (((F1.gm).tr (GM.q F2)).tr (GM.fw F3)).tr (GM.q F4)
      have e8 : t.1 88 8 = nI 0 := by rw [F4.q8, F3.2.2.2.2, F2.q8, F1.2.2.2.2, sI_s]
      exact ⟨_, rfl, xm_r h hG hq e8 hx⟩
  · refine ⟨.inr (nI 0, (M, L, S, tx, len)), fun s h => ?_, fun s h => ?_, hw⟩
    · refine cc_of ml_24 rfl rfl ?_
      refine v_al0 c_24_0 ?_
      refine v_il1 c_24_1 ?_
      refine v_cVv c_24_2 rfl (by decide) rfl rfl (n_tr h.kM hM hx) ?_
      refine v_al0 c_24_3 ?_
      refine v_gR (n0 := 3) c_24_4 rfl ?_
      refine v_il1 c_24_5 ?_
      refine v_cVi c_24_6 rfl (by decide) rfl rfl (k_isP m3 h.kM hM (by omega)) ?_
      refine v_if_ne_fb c_24_7 (by rw [hl]; rfl) ?_
      refine v_icN (n := 0) c_24_8 rfl ?_
      refine v_ri c_24_9 ?_
      exact xc_0 h rfl
    · have h' := h.th (x := nI 0)
      refine cc_of ml_98 rfl rfl ?_
      refine v_al0 c_98_0 ?_
      refine v_icN (n := 0) c_98_1 rfl ?_
      refine v_pI c_98_2 rfl ?_
      refine v_al0 c_98_3 ?_
      refine v_il1 c_98_4 ?_
      refine v_cVi c_98_5 rfl (by decide) rfl rfl (q_oneI h'.kM hM _) ?_
      refine v_if_ne_tb c_98_6 (hx) ?_
      refine v_al0 c_98_11 ?_
      refine v_il1 c_98_12 ?_
      refine v_cVi c_98_13 rfl (by decide) rfl rfl (q_isP h'.kM hM (by omega)) ?_
      refine v_if_ne_fb c_98_14 (by rw [hl]; rfl) ?_
      refine v_icN (n := 0) c_98_15 rfl ?_
      refine v_ri c_98_16 ?_
      exact ⟨_, rfl, xm_r h GM.th h'.kM sI_s rfl⟩
theorem o_few (hw : WA M L S) (x y : Int32) : OK2 sc (fun _ => 2) 1 25 103 [.ref 0, .int x, .int y] [.ref 88, .int x, .int y] (M, L, S, tx, len) := by
  have hM := hw.1
  have h7 := hM.1
  cases hx : inN (mN M) x
  · refine ⟨.inl 1, fun s h => ?_, fun s h => ?_, ⟨by omega, by omega⟩⟩
    · refine cc_of ml_25 rfl rfl ?_
      refine v_al0 c_25_0 ?_
      refine v_il1 c_25_1 ?_
      refine v_cVX c_25_2 rfl (by decide) rfl rfl (n_trX h.kM hM hx) ht_25 ?_
      exact xc_e h rfl
    · have h' := h.th (x := nI 0)
      refine cc_of ml_103 rfl rfl ?_
      refine v_al0 c_103_0 ?_
      refine v_icN (n := 0) c_103_1 rfl ?_
      refine v_pI c_103_2 rfl ?_
      refine v_al0 c_103_3 ?_
      refine v_il1 c_103_4 ?_
      refine v_cVi c_103_5 rfl (by decide) rfl rfl (q_oneI h'.kM hM x) ?_
      refine v_if_eq_tb c_103_6 (hx) ?_
      refine v_al0 c_103_11 ?_
      refine v_icN (n := 1) c_103_12 rfl ?_
      refine v_cVi c_103_13 rfl (by decide) rfl rfl (q_fl) ?_
      refine v_ri c_103_14 ?_
      exact ⟨_, rfl, xm_e h⟩
  cases hy : inN (mN M) y
  · refine ⟨.inl 1, fun s h => ?_, fun s h => ?_, ⟨by omega, by omega⟩⟩
    · refine cc_of ml_25 rfl rfl ?_
      refine v_al0 c_25_0 ?_
      refine v_il1 c_25_1 ?_
      refine v_cVv c_25_2 rfl (by decide) rfl rfl (n_tr h.kM hM hx) ?_
      refine v_al0 c_25_3 ?_
      refine v_il2 c_25_4 ?_
      refine v_cVX c_25_5 rfl (by decide) rfl rfl (n_thX h.kM hM hy) ht_25 ?_
      exact xc_e h rfl
    · have h' := h.th (x := nI 0)
      refine cc_of ml_103 rfl rfl ?_
      refine v_al0 c_103_0 ?_
      refine v_icN (n := 0) c_103_1 rfl ?_
      refine v_pI c_103_2 rfl ?_
      refine v_al0 c_103_3 ?_
      refine v_il1 c_103_4 ?_
      refine v_cVi c_103_5 rfl (by decide) rfl rfl (q_oneI h'.kM hM x) ?_
      refine v_if_eq_fb c_103_6 (hx) ?_
      refine v_al0 c_103_7 ?_
      refine v_il2 c_103_8 ?_
      refine v_cVi c_103_9 rfl (by decide) rfl rfl (q_oneI h'.kM hM y) ?_
      refine v_if_ne_fb c_103_10 (hy) ?_
      refine v_al0 c_103_11 ?_
      refine v_icN (n := 1) c_103_12 rfl ?_
      refine v_cVi c_103_13 rfl (by decide) rfl rfl (q_fl) ?_
      refine v_ri c_103_14 ?_
      exact ⟨_, rfl, xm_e h⟩
  obtain ⟨i, hi, rfl⟩ := inN_of h7 hx
  obtain ⟨j, hj, rfl⟩ := inN_of h7 hy
  refine ⟨.inr (fewS M i j, (M, L, S, tx, len)), fun s h => ?_, fun s h => (q_fwt h.kM hM hi hj).mono ?_, hw⟩
  · refine cc_of ml_25 rfl rfl ?_
    refine v_al0 c_25_0 ?_
    refine v_il1 c_25_1 ?_
    refine v_cVv c_25_2 rfl (by decide) rfl rfl (n_tr h.kM hM hx) ?_
    refine v_al0 c_25_3 ?_
    refine v_il2 c_25_4 ?_
    refine v_cVv c_25_5 rfl (by decide) rfl rfl (n_th h.kM hM hy) ?_
    refine v_al0 c_25_6 ?_
    refine v_gR (n0 := 58) c_25_7 rfl ?_
    refine v_al0 c_25_8 ?_
    refine v_gR (n0 := 3) c_25_9 rfl ?_
    refine v_cVV c_25_10 rfl (by decide) rfl rfl (k_bec m52 m3 (by omega)) ?_
    rintro t ht
    have F := ht.2.2.2.2
    have hMt : MK t 58 M := MK.bec h.kM h7 ht
    refine v_al0 c_25_11 ?_
    refine v_gR (n0 := 83) c_25_12 rfl ?_
    refine v_al0 c_25_13 ?_
    refine v_gR (n0 := 58) c_25_14 rfl ?_
    refine v_il1 c_25_15 ?_
    refine v_il2 c_25_16 ?_
    refine v_cVI c_25_17 rfl (by decide) rfl rfl (s_few hMt hM hi hj) ?_
    rintro x u ⟨hx, F2⟩
    refine v_ri c_25_18 ?_
    exact xc_r h ((F.up (lo' := 58) (hi' := 86) (by omega) (by omega)).tr F2) (by omega) hx
  · rintro _ t ⟨x, rfl, hx, hq, hG, e8⟩
    exact ⟨_, rfl, xm_r h hG hq e8 hx⟩
theorem o_sav (hw : WA M L S) (x : Int32) : OK2 sc (fun _ => 2) 1 28 108 [.ref 0, .int x] [.ref 88, .int x] (M, L, S, tx, len) := by
  have hM := hw.1
  have h7 := hM.1
  cases hx : inN 2 x
  · have hx2 : (decide (nI 0 ≤ x) && decide (x ≤ nI 1)) = false := by
      have e := nI_pm 2 (by omega) x
      unfold inN at hx
      rw [show nI 1 = nI 2 - 1 from rfl, decide_eq_decide.mpr e]
      exact hx
    refine ⟨.inl 1, fun s h => ?_, fun s h => ?_, ⟨by omega, by omega⟩⟩
    · refine cc_of ml_28 rfl rfl ?_
      refine v_al0 c_28_0 ?_
      refine v_il1 c_28_1 ?_
      refine v_cVX c_28_2 rfl (by decide) rfl rfl (n_slX hx) ht_28 ?_
      exact xc_e h rfl
    · have h' := h.th (x := nI 0)
      refine cc_of ml_108 rfl rfl ?_
      refine v_al0 c_108_0 ?_
      refine v_icN (n := 0) c_108_1 rfl ?_
      refine v_pI c_108_2 rfl ?_
      refine v_il1 c_108_3 ?_
      refine v_i2l c_108_4 ?_
      refine v_lc c_108_5 ?_
      refine v_lc c_108_6 ?_
      refine v_cSi c_108_7 rfl rfl rfl (q_inC x (nI 0) (nI 1) (by decide) (by decide)) ?_
      refine v_if_ne_fb c_108_8 (hx2) ?_
      refine v_al0 c_108_9 ?_
      refine v_icN (n := 1) c_108_10 rfl ?_
      refine v_cVi c_108_11 rfl (by decide) rfl rfl (q_fl) ?_
      refine v_ri c_108_12 ?_
      exact ⟨_, rfl, xm_e h⟩
  obtain ⟨k, hk, rfl⟩ := inN_of (show 2 ≤ 7 by omega) hx
  have hx2 : (decide (nI 0 ≤ nI k) && decide (nI k ≤ nI 1)) = true := by
    rw [decide_eq_true ((nI_leI (by omega) (by omega)).mpr (by omega)), decide_eq_true ((nI_leI (by omega) (by omega)).mpr (by omega))]
    rfl
  refine ⟨.inr (nI (mN M), (M, L, (fun j => if j = k then some M else S j), tx, len)), fun s h => ?_, fun s h => ?_, ⟨hM, hw.2.1, fun j N e => ?_⟩⟩
  · have fin : ∀ t, t.1 (51 + 4 * k) 0 = s.1 3 0 ∧ t.1 (51 + 4 * k) 1 = s.1 3 1 ∧ (∀ j, j < 49 → t.1 (51 + 4 * k + 1) j = s.1 (3 + 1) j) ∧ (∀ j, j < 7 → t.1 (51 + 4 * k + 2) j = s.1 (3 + 2) j) ∧ FR (51 + 4 * k) (51 + 4 * k + 3) s t → MK (sI t (50 + 4 * k) 1 (bI true)) 3 M ∧ XC (fun _ => 2) s (M, L, S, tx, len) (.inr (nI (mN M), (M, L, (fun j => if j = k then some M else S j), tx, len))) (.inl (some (.int (nI (mN M))))) (sI t (50 + 4 * k) 1 (bI true)) := by
      intro t ht
      have F := ht.2.2.2.2
      have hMt : MK t (51 + 4 * k) M := MK.bec h.kM h7 ht
      have F5 : FR (50 + 4 * k) (51 + 4 * k) t (sI t (50 + 4 * k) 1 (bI true)) := FR.sI (by omega) (by omega)
      refine ⟨(h.kM.fr F (by omega)).fr F5 (by omega), rfl, ⟨(h.kM.fr F (by omega)).fr F5 (by omega), (h.2.1.fr F (by omega)).fr F5 (by omega), fun j hj => ?_, (h.T.fr F (by omega) (by omega)).fr F5 (by omega) (by omega)⟩, (FC.fr F (by omega)).tr (FC.fr F5 (by omega))⟩
      show match (if j = k then some M else S j) with
        | none => _
        | some N => _
      by_cases e : j = k
      · rw [if_pos e, e]
        exact ⟨sI_s, hMt.fr F5 (by omega)⟩
      · rw [if_neg e]
        have h9 := h.2.2.1 j hj
        have h9 : match S j with
          | none => s.1 (50 + 4 * j) 1 = bI false
          | some N => s.1 (50 + 4 * j) 1 = bI true ∧ MK s (51 + 4 * j) N := h9
        revert h9
        cases S j with
        | none => exact fun h9 => by rw [sI_o (by omega), F.at (by omega)]; exact h9
        | some N => exact fun h9 => ⟨by rw [sI_o (by omega), F.at (by omega)]; exact h9.1, (h9.2.fr F (by omega)).fr F5 (by omega)⟩
    refine cc_of ml_28 rfl rfl ?_
    rcases (show k = 0 ∨ k = 1 by omega) with rfl | rfl
    · refine v_al0 c_28_0 ?_
      refine v_il1 c_28_1 ?_
      refine v_cVR c_28_2 rfl (by decide) rfl rfl (n_sl (by omega)) ?_
      rintro x t ⟨e, rfl⟩
      have e : x = 50 := e
      subst e
      refine v_as2 c_28_3 rfl ?_
      refine v_al2 c_28_4 ?_
      refine v_gR (n0 := 51) c_28_5 rfl ?_
      refine v_al0 c_28_6 ?_
      refine v_gR (n0 := 3) c_28_7 rfl ?_
      refine v_cVV c_28_8 rfl (by decide) rfl rfl (k_bec (show isM 51 = true from rfl) m3 (by omega)) ?_
      rintro t' ht
      have h9 := fin t' ht
      refine v_al2 c_28_9 ?_
      refine v_icN (n := 1) c_28_10 rfl ?_
      refine v_pZ (B := true) c_28_11 rfl rfl ?_
      refine v_al0 c_28_12 ?_
      refine v_gR (n0 := 3) c_28_13 rfl ?_
      refine v_gI c_28_14 rfl (h9.1.1) ?_
      refine v_ri c_28_15 ?_
      exact h9.2
    · refine v_al0 c_28_0 ?_
      refine v_il1 c_28_1 ?_
      refine v_cVR c_28_2 rfl (by decide) rfl rfl (n_sl (by omega)) ?_
      rintro x t ⟨e, rfl⟩
      have e : x = 54 := e
      subst e
      refine v_as2 c_28_3 rfl ?_
      refine v_al2 c_28_4 ?_
      refine v_gR (n0 := 55) c_28_5 rfl ?_
      refine v_al0 c_28_6 ?_
      refine v_gR (n0 := 3) c_28_7 rfl ?_
      refine v_cVV c_28_8 rfl (by decide) rfl rfl (k_bec (show isM 55 = true from rfl) m3 (by omega)) ?_
      rintro t' ht
      have h9 := fin t' ht
      refine v_al2 c_28_9 ?_
      refine v_icN (n := 1) c_28_10 rfl ?_
      refine v_pZ (B := true) c_28_11 rfl rfl ?_
      refine v_al0 c_28_12 ?_
      refine v_gR (n0 := 3) c_28_13 rfl ?_
      refine v_gI c_28_14 rfl (h9.1.1) ?_
      refine v_ri c_28_15 ?_
      exact h9.2
  · have h' := h.th (x := nI 0)
    refine cc_of ml_108 rfl rfl ?_
    refine v_al0 c_108_0 ?_
    refine v_icN (n := 0) c_108_1 rfl ?_
    refine v_pI c_108_2 rfl ?_
    refine v_il1 c_108_3 ?_
    refine v_i2l c_108_4 ?_
    refine v_lc c_108_5 ?_
    refine v_lc c_108_6 ?_
    refine v_cSi c_108_7 rfl rfl rfl (q_inC (nI k) (nI 0) (nI 1) (by decide) (by decide)) ?_
    refine v_if_ne_tb c_108_8 (hx2) ?_
    refine v_icN (n := 0) c_108_13 rfl ?_
    refine v_is2 c_108_14 rfl ?_
    refine vv_forS 58 (fun i ls u => ls = [some (.ref 88), some (.int (nI k)), some (.int (nI i))] ∧ (∀ j, j < i → u.1 92 (58 * k + j) = (sI s 88 8 (nI 0)).1 89 j) ∧ (∀ j, j < 58 * k ∨ 58 * k + 58 ≤ j → u.1 92 j = (sI s 88 8 (nI 0)).1 92 j) ∧ FR 92 93 (sI s 88 8 (nI 0)) u) ?_ ?_ _ _ ⟨rfl, fun j hj => absurd hj (by omega), fun _ _ => rfl, FR.rf⟩
    · rintro i ls u hi ⟨rfl, g1, g2, g3⟩ hkk
      refine v_il2 c_108_15 ?_
      refine v_bpN (n := 58) c_108_16 rfl ?_
      refine v_icmp_ge_F c_108_17 (by omega) (by omega) (by omega) ?_
      refine v_al0 c_108_18 ?_
      refine v_gR (n0 := 92) c_108_19 rfl ?_
      refine v_bpN (n := 58) c_108_20 rfl ?_
      refine v_il1 c_108_21 ?_
      refine v_imulN c_108_22 ?_
      refine v_il2 c_108_23 ?_
      refine v_iaddN c_108_24 ?_
      refine v_al0 c_108_25 ?_
      refine v_gR (n0 := 89) c_108_26 rfl ?_
      refine v_il2 c_108_27 ?_
      refine v_aI c_108_28 rfl (by omega) (show u.1 89 i = (sI s 88 8 (nI 0)).1 89 i by rw [g3.at (by omega)]) ?_
      refine v_sI c_108_29 rfl (by omega) ?_
      refine v_incN2 c_108_30 rfl rfl ?_
      refine v_goto c_108_31 ?_
      refine hkk _ _ ⟨rfl, fun j hj => ?_, fun j hj => by rw [sI_k (by omega)]; exact g2 j hj, g3.tr (FR.sI (by omega) (by omega))⟩
      by_cases e : j = i
      · rw [e, sI_s]
      · rw [sI_k (by omega)]; exact g1 j (by omega)
    · rintro ls u ⟨rfl, g1, g2, g3⟩
      have hq : QM (u.1 89) M := by rw [g3.at (by omega)]; exact h'.kM
      have F5 : FR 93 94 u (sI u 93 k (bI true)) := FR.sI (by omega) (by omega)
      refine v_il2 c_108_15 ?_
      refine v_bpN (n := 58) c_108_16 rfl ?_
      refine v_icmp_ge_T c_108_17 (by omega) (by omega) (by omega) ?_
      refine v_al0 c_108_32 ?_
      refine v_gR (n0 := 93) c_108_33 rfl ?_
      refine v_il1 c_108_34 ?_
      refine v_icN (n := 1) c_108_35 rfl ?_
      refine v_sZ (B := true) c_108_36 rfl (by omega) rfl ?_
      refine v_al0 c_108_37 ?_
      refine v_gR (n0 := 89) c_108_38 rfl ?_
      refine v_icN (n := 0) c_108_39 rfl ?_
      refine v_aI c_108_40 rfl (by omega) ((by rw [sI_o (by omega)]; exact hq.1 : (sI u 93 k (bI true)).1 89 0 = nI (mN M))) ?_
      refine v_ri c_108_41 ?_
      refine ⟨_, rfl, ?_, rfl, ⟨by rw [sI_o (by omega)]; exact hq, h'.2.1.of ?_ ?_, fun j hj => ?_, ?_⟩, (GM.th.f88.tr (g3.up (by omega) (by omega))).tr (F5.up (by omega) (by omega))⟩
      · rw [F5.at (by omega), g3.at (by omega), sI_s]
      · rw [F5.at (by omega), g3.at (by omega)]
      · rw [F5.at (by omega), g3.at (by omega)]
      · show match (if j = k then some M else S j) with
          | none => _
          | some N => _
        by_cases e : j = k
        · rw [if_pos e, e]
          exact ⟨sI_s, by rw [F5.at (by omega)]; exact h'.kM.cp h7 fun i hi => g1 i hi⟩
        · rw [if_neg e]
          have h9 := h'.2.2.1 j hj
          have h9 : match S j with
            | none => (sI s 88 8 (nI 0)).1 93 j = bI false
            | some N => (sI s 88 8 (nI 0)).1 93 j = bI true ∧ QM (fun i => (sI s 88 8 (nI 0)).1 92 (58 * j + i)) N := h9
          have hS := hw.2.2 j
          revert h9 hS
          cases S j with
          | none => exact fun h9 _ => by rw [sI_k e, g3.at (by omega)]; exact h9
          | some N => exact fun h9 hS => ⟨by rw [sI_k e, g3.at (by omega)]; exact h9.1, h9.2.cp (hS N rfl).1 fun i hi => by
              show (sI u 93 k (bI true)).1 92 (58 * j + i) = _
              rw [F5.at (by omega)]
              exact g2 _ (by omega)⟩
      · show TXT (sI u 93 k (bI true)) 94 88 7 tx len
        have hT : TXT (sI s 88 8 (nI 0)) 94 88 7 tx len := h'.T
        exact (hT.fr g3 (by omega) (by omega)).fr F5 (by omega) (by omega)
  · have e : (if j = k then some M else S j) = some N := e
    by_cases c : j = k
    · rw [if_pos c] at e
      cases e
      exact hM
    · rw [if_neg c] at e
      exact hw.2.2 j N e
theorem o_res (hw : WA M L S) (x : Int32) : OK2 sc (fun k => if k = 1 then 2 else 1) 2 29 109 [.ref 0, .int x] [.ref 88, .int x] (M, L, S, tx, len) := by
  have hM := hw.1
  cases hx : inN 2 x
  · have hx2 : (decide (nI 0 ≤ x) && decide (x ≤ nI 1)) = false := by
      have e := nI_pm 2 (by omega) x
      unfold inN at hx
      rw [show nI 1 = nI 2 - 1 from rfl, decide_eq_decide.mpr e]
      exact hx
    refine ⟨.inl 1, fun s h => ?_, fun s h => ?_, ⟨by omega, by omega⟩⟩
    · refine cc_of ml_29 rfl rfl ?_
      refine v_al0 c_29_0 ?_
      refine v_il1 c_29_1 ?_
      refine v_cVX c_29_2 rfl (by decide) rfl rfl (n_slX hx) ht_29 ?_
      exact xc_e h rfl
    · have h' := h.th (x := nI 0)
      refine cc_of ml_109 rfl rfl ?_
      refine v_al0 c_109_0 ?_
      refine v_icN (n := 0) c_109_1 rfl ?_
      refine v_pI c_109_2 rfl ?_
      refine v_il1 c_109_3 ?_
      refine v_i2l c_109_4 ?_
      refine v_lc c_109_5 ?_
      refine v_lc c_109_6 ?_
      refine v_cSi c_109_7 rfl rfl rfl (q_inC x (nI 0) (nI 1) (by decide) (by decide)) ?_
      refine v_if_ne_fb c_109_8 (hx2) ?_
      refine v_al0 c_109_9 ?_
      refine v_icN (n := 1) c_109_10 rfl ?_
      refine v_cVi c_109_11 rfl (by decide) rfl rfl (q_fl) ?_
      refine v_ri c_109_12 ?_
      exact ⟨_, rfl, xm_e h⟩
  obtain ⟨k, hk, rfl⟩ := inN_of (show 2 ≤ 7 by omega) hx
  have hx2 : (decide (nI 0 ≤ nI k) && decide (nI k ≤ nI 1)) = true := by
    rw [decide_eq_true ((nI_leI (by omega) (by omega)).mpr (by omega)), decide_eq_true ((nI_leI (by omega) (by omega)).mpr (by omega))]
    rfl
  cases hS : S k with
  | none =>
    have hc : ∀ s, RCw s (M, L, S, tx, len) → s.1 (50 + 4 * k) 1 = bI false := fun s h => by
      have h9 := h.2.2.1 k hk
      have h9 : match S k with
        | none => s.1 (50 + 4 * k) 1 = bI false
        | some N => s.1 (50 + 4 * k) 1 = bI true ∧ MK s (51 + 4 * k) N := h9
      rw [hS] at h9
      exact h9
    have hm : ∀ s, RMw s (M, L, S, tx, len) → s.1 93 k = bI false := fun s h => by
      have h9 := h.2.2.1 k hk
      have h9 : match S k with
        | none => s.1 93 k = bI false
        | some N => s.1 93 k = bI true ∧ QM (fun i => s.1 92 (58 * k + i)) N := h9
      rw [hS] at h9
      exact h9
    refine ⟨.inl 2, fun s h => ?_, fun s h => ?_, ⟨by omega, by omega⟩⟩
    · refine cc_of ml_29 rfl rfl ?_
      rcases (show k = 0 ∨ k = 1 by omega) with rfl | rfl
      · refine v_al0 c_29_0 ?_
        refine v_il1 c_29_1 ?_
        refine v_cVR c_29_2 rfl (by decide) rfl rfl (n_sl (by omega)) ?_
        rintro x t ⟨e, rfl⟩
        have e : x = 50 := e
        subst e
        refine v_as2 c_29_3 rfl ?_
        refine v_al2 c_29_4 ?_
        refine v_gZ c_29_5 rfl (hc _ h) ?_
        refine v_if_ne_fb c_29_6 (rfl) ?_
        refine vv_x c_29_7 ?_
        exact xc_e h rfl
      · refine v_al0 c_29_0 ?_
        refine v_il1 c_29_1 ?_
        refine v_cVR c_29_2 rfl (by decide) rfl rfl (n_sl (by omega)) ?_
        rintro x t ⟨e, rfl⟩
        have e : x = 54 := e
        subst e
        refine v_as2 c_29_3 rfl ?_
        refine v_al2 c_29_4 ?_
        refine v_gZ c_29_5 rfl (hc _ h) ?_
        refine v_if_ne_fb c_29_6 (rfl) ?_
        refine vv_x c_29_7 ?_
        exact xc_e h rfl
    · have h' := h.th (x := nI 0)
      refine cc_of ml_109 rfl rfl ?_
      refine v_al0 c_109_0 ?_
      refine v_icN (n := 0) c_109_1 rfl ?_
      refine v_pI c_109_2 rfl ?_
      refine v_il1 c_109_3 ?_
      refine v_i2l c_109_4 ?_
      refine v_lc c_109_5 ?_
      refine v_lc c_109_6 ?_
      refine v_cSi c_109_7 rfl rfl rfl (q_inC (nI k) (nI 0) (nI 1) (by decide) (by decide)) ?_
      refine v_if_ne_tb c_109_8 (hx2) ?_
      refine v_al0 c_109_13 ?_
      refine v_gR (n0 := 93) c_109_14 rfl ?_
      refine v_il1 c_109_15 ?_
      refine v_aZ c_109_16 rfl (by omega) (hm _ h') ?_
      refine v_if_ne_fb c_109_17 (rfl) ?_
      refine v_al0 c_109_18 ?_
      refine v_icN (n := 2) c_109_19 rfl ?_
      refine v_cVi c_109_20 rfl (by decide) rfl rfl (q_fl) ?_
      refine v_ri c_109_21 ?_
      exact ⟨_, rfl, xm_e h⟩
  | some N =>
    have hN := hw.2.2 k N hS
    have hc : ∀ s, RCw s (M, L, S, tx, len) → s.1 (50 + 4 * k) 1 = bI true ∧ MK s (51 + 4 * k) N := fun s h => by
      have h9 := h.2.2.1 k hk
      have h9 : match S k with
        | none => s.1 (50 + 4 * k) 1 = bI false
        | some N => s.1 (50 + 4 * k) 1 = bI true ∧ MK s (51 + 4 * k) N := h9
      rw [hS] at h9
      exact h9
    have hm : ∀ s, RMw s (M, L, S, tx, len) → s.1 93 k = bI true ∧ QM (fun i => s.1 92 (58 * k + i)) N := fun s h => by
      have h9 := h.2.2.1 k hk
      have h9 : match S k with
        | none => s.1 93 k = bI false
        | some N => s.1 93 k = bI true ∧ QM (fun i => s.1 92 (58 * k + i)) N := h9
      rw [hS] at h9
      exact h9
    refine ⟨.inr (nI (mN N), (N, [], S, tx, len)), fun s h => ?_, fun s h => ?_, ⟨hN, (fun K hK => by cases hK), hw.2.2⟩⟩
    · obtain ⟨c1, c2⟩ := hc s h
      have fin : ∀ t, t.1 3 0 = s.1 (51 + 4 * k) 0 ∧ t.1 3 1 = s.1 (51 + 4 * k) 1 ∧ (∀ j, j < 49 → t.1 (3 + 1) j = s.1 (51 + 4 * k + 1) j) ∧ (∀ j, j < 7 → t.1 (3 + 2) j = s.1 (51 + 4 * k + 2) j) ∧ FR 3 (3 + 3) s t → MK (sI t 6 1 (nI 0)) 3 N ∧ XC (fun k => if k = 1 then 2 else 1) s (M, L, S, tx, len) (.inr (nI (mN N), (N, [], S, tx, len))) (.inl (some (.int (nI (mN N))))) (sI t 6 1 (nI 0)) := by
        intro t ht
        have F := ht.2.2.2.2
        have hMt : MK t 3 N := MK.bec c2 hN.1 ht
        have F6 : FR 6 7 t (sI t 6 1 (nI 0)) := FR.sI (by omega) (by omega)
        have hM9 := hMt.fr F6 (by omega)
        exact ⟨hM9, rfl, ⟨hM9, HK.nil (h.2.1.fr F (by omega)), (h.2.2.1.fr F (by omega)).fr F6 (by omega), (h.T.fr F (by omega) (by omega)).fr F6 (by omega) (by omega)⟩, (FC.fr F (by omega)).tr (FC.fr F6 (by omega))⟩
      refine cc_of ml_29 rfl rfl ?_
      rcases (show k = 0 ∨ k = 1 by omega) with rfl | rfl
      · refine v_al0 c_29_0 ?_
        refine v_il1 c_29_1 ?_
        refine v_cVR c_29_2 rfl (by decide) rfl rfl (n_sl (by omega)) ?_
        rintro x t ⟨e, rfl⟩
        have e : x = 50 := e
        subst e
        refine v_as2 c_29_3 rfl ?_
        refine v_al2 c_29_4 ?_
        refine v_gZ c_29_5 rfl (c1) ?_
        refine v_if_ne_tb c_29_6 (rfl) ?_
        refine v_al0 c_29_12 ?_
        refine v_gR (n0 := 3) c_29_13 rfl ?_
        refine v_al2 c_29_14 ?_
        refine v_gR (n0 := 51) c_29_15 rfl ?_
        refine v_cVV c_29_16 rfl (by decide) rfl rfl (k_bec m3 (show isM 51 = true from rfl) (by omega)) ?_
        rintro t' ht
        have h9 := fin t' ht
        refine v_al0 c_29_17 ?_
        refine v_gR (n0 := 6) c_29_18 rfl ?_
        refine v_cVv c_29_19 rfl (by decide) rfl rfl (h_frg) ?_
        refine v_al0 c_29_20 ?_
        refine v_gR (n0 := 3) c_29_21 rfl ?_
        refine v_gI c_29_22 rfl (h9.1.1) ?_
        refine v_ri c_29_23 ?_
        exact h9.2
      · refine v_al0 c_29_0 ?_
        refine v_il1 c_29_1 ?_
        refine v_cVR c_29_2 rfl (by decide) rfl rfl (n_sl (by omega)) ?_
        rintro x t ⟨e, rfl⟩
        have e : x = 54 := e
        subst e
        refine v_as2 c_29_3 rfl ?_
        refine v_al2 c_29_4 ?_
        refine v_gZ c_29_5 rfl (c1) ?_
        refine v_if_ne_tb c_29_6 (rfl) ?_
        refine v_al0 c_29_12 ?_
        refine v_gR (n0 := 3) c_29_13 rfl ?_
        refine v_al2 c_29_14 ?_
        refine v_gR (n0 := 55) c_29_15 rfl ?_
        refine v_cVV c_29_16 rfl (by decide) rfl rfl (k_bec m3 (show isM 55 = true from rfl) (by omega)) ?_
        rintro t' ht
        have h9 := fin t' ht
        refine v_al0 c_29_17 ?_
        refine v_gR (n0 := 6) c_29_18 rfl ?_
        refine v_cVv c_29_19 rfl (by decide) rfl rfl (h_frg) ?_
        refine v_al0 c_29_20 ?_
        refine v_gR (n0 := 3) c_29_21 rfl ?_
        refine v_gI c_29_22 rfl (h9.1.1) ?_
        refine v_ri c_29_23 ?_
        exact h9.2
    · have h' := h.th (x := nI 0)
      obtain ⟨c1, c2⟩ := hm _ h'
      refine cc_of ml_109 rfl rfl ?_
      refine v_al0 c_109_0 ?_
      refine v_icN (n := 0) c_109_1 rfl ?_
      refine v_pI c_109_2 rfl ?_
      refine v_il1 c_109_3 ?_
      refine v_i2l c_109_4 ?_
      refine v_lc c_109_5 ?_
      refine v_lc c_109_6 ?_
      refine v_cSi c_109_7 rfl rfl rfl (q_inC (nI k) (nI 0) (nI 1) (by decide) (by decide)) ?_
      refine v_if_ne_tb c_109_8 (hx2) ?_
      refine v_al0 c_109_13 ?_
      refine v_gR (n0 := 93) c_109_14 rfl ?_
      refine v_il1 c_109_15 ?_
      refine v_aZ c_109_16 rfl (by omega) (c1) ?_
      refine v_if_ne_tb c_109_17 (rfl) ?_
      refine v_icN (n := 0) c_109_22 rfl ?_
      refine v_is2 c_109_23 rfl ?_
      refine vv_forS 58 (fun i ls u => ls = [some (.ref 88), some (.int (nI k)), some (.int (nI i))] ∧ (∀ j, j < i → u.1 89 j = (sI s 88 8 (nI 0)).1 92 (58 * k + j)) ∧ FR 89 90 (sI s 88 8 (nI 0)) u) ?_ ?_ _ _ ⟨rfl, fun j hj => absurd hj (by omega), FR.rf⟩
      · rintro i ls u hi ⟨rfl, g1, g2⟩ hkk
        refine v_il2 c_109_24 ?_
        refine v_bpN (n := 58) c_109_25 rfl ?_
        refine v_icmp_ge_F c_109_26 (by omega) (by omega) (by omega) ?_
        refine v_al0 c_109_27 ?_
        refine v_gR (n0 := 89) c_109_28 rfl ?_
        refine v_il2 c_109_29 ?_
        refine v_al0 c_109_30 ?_
        refine v_gR (n0 := 92) c_109_31 rfl ?_
        refine v_bpN (n := 58) c_109_32 rfl ?_
        refine v_il1 c_109_33 ?_
        refine v_imulN c_109_34 ?_
        refine v_il2 c_109_35 ?_
        refine v_iaddN c_109_36 ?_
        refine v_aI c_109_37 rfl (by omega) (show u.1 92 (58 * k + i) = (sI s 88 8 (nI 0)).1 92 (58 * k + i) by rw [g2.at (by omega)]) ?_
        refine v_sI c_109_38 rfl (by omega) ?_
        refine v_incN2 c_109_39 rfl rfl ?_
        refine v_goto c_109_40 ?_
        refine hkk _ _ ⟨rfl, fun j hj => ?_, g2.tr (FR.sI (by omega) (by omega))⟩
        by_cases e : j = i
        · rw [e, sI_s]
        · rw [sI_k (by omega)]; exact g1 j (by omega)
      · rintro ls u ⟨rfl, g1, g2⟩
        have hq : QM (u.1 89) N := c2.cp hN.1 g1
        have hq2 : QM ((sI u 88 3 (nI 0)).1 89) N := by rw [sI_o (by omega)]; exact hq
        refine v_il2 c_109_24 ?_
        refine v_bpN (n := 58) c_109_25 rfl ?_
        refine v_icmp_ge_T c_109_26 (by omega) (by omega) (by omega) ?_
        refine v_al0 c_109_41 ?_
        refine v_icN (n := 0) c_109_42 rfl ?_
        refine v_pI c_109_43 rfl ?_
        refine v_al0 c_109_44 ?_
        refine v_gR (n0 := 89) c_109_45 rfl ?_
        refine v_icN (n := 0) c_109_46 rfl ?_
        refine v_aI c_109_47 rfl (by omega) (hq2.1) ?_
        refine v_ri c_109_48 ?_
        refine ⟨_, rfl, ?_, rfl, ⟨hq2, ⟨Nat.zero_le _, sI_s, fun j K hj => by simp at hj⟩, h'.2.2.1.of ?_ ?_, ?_⟩, (GM.th.f88.tr (g2.up (by omega) (by omega))).tr (FR.sI (by omega) (by omega))⟩
        · rw [sI_k (by omega), g2.at (by omega), sI_s]
        · rw [sI_o (by omega), g2.at (by omega)]
        · rw [sI_o (by omega), g2.at (by omega)]
        · have hT : TXT (sI s 88 8 (nI 0)) 94 88 7 tx len := h'.T
          show TXT (sI u 88 3 (nI 0)) 94 88 7 tx len
          unfold TXT
          rw [sI_k (by omega), sI_o (by omega), g2.at (by omega), g2.at (by omega)]
          exact hT
end OP4
