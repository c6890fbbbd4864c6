/-! THE LEAST SUM: the model's -/
def mV (f : Nat → Nat) (o : Option Nat) : Nat := match o with
  | none => 1000
  | some b => f b
theorem mLi_le {M : zM} {k i : Nat} (hk : k < mK M) (hi : i < mN M) (hP : (mP M).testBit i = true) : mLi M k ≤ i ↔ k ≤ bS (mP M) i := by
  obtain ⟨s1, s2, s3, s4⟩ := selF_lt (S := mP M) (n := mN M) (k := k) (mN M) (Nat.le_refl _) hk
  constructor
  · intro h
    have := bS_mono (S := mP M) i h
    have e : bS (mP M) (mLi M k) = k := s3
    omega
  · intro h
    refine Nat.le_of_not_lt fun hh => ?_
    have h1 := bS_mono (S := mP M) (i := i + 1) (mLi M k) (by omega)
    have e : bS (mP M) (mLi M k) = k := s3
    rw [bS_t hP] at h1
    omega
section LM
variable {sc : Nat × (Nat → Int32)} {s : zv_S} {M : zM}
theorem q_fls (hM : QM (s.1 89) M) (hw : MW M) :
    CC sc 94 [.ref 88] s (QI fun x t => x = nI (mK M) ∧ (∀ k, k < mK M → t.1 105 k = nI (mLi M k)) ∧ (∀ Y, sub Y (mF M) = true → t.1 104 Y = nI (mLS M (mK M - pc Y) Y)) ∧ FR 104 106 s t) := by
  refine cc_of ml_94 rfl rfl ?_
  have h7 := hw.1
  have hP7 := mP_128 hw
  have hF7 := mF_128 hw
  have hpF := mF_pc hw
  have hK := mK_7 hw
  have hKe : bS (mP M) (mN M) = mK M := rfl
  refine v_al0 c_94_0 ?_
  refine v_cVi c_94_1 rfl (by decide) rfl rfl (q_hth hM hw) ?_
  refine v_is1 c_94_2 rfl ?_
  refine v_icN (n := 0) c_94_3 rfl ?_
  refine v_is2 c_94_4 rfl ?_
  refine v_icN (n := 0) c_94_5 rfl ?_
  refine v_is3 c_94_6 rfl ?_
  rw [show mTh M (mP M) = mF M from rfl]
  refine vv_forS (mN M) (fun i ls t => ls = [some (.ref 88), some (.int (nI (mF M))), some (.int (nI (bS (mP M) i))), some (.int (nI i)), none, none, none] ∧ (∀ k, k < bS (mP M) i → t.1 105 k = nI (selF (mP M) i k)) ∧ FR 105 106 s t) ?_ ?_ _ _ ⟨rfl, fun k hk => absurd hk (Nat.not_lt_zero _), FR.rf⟩
  · rintro i ls t hi ⟨rfl, g2, g4⟩ hk
    have hMt : QM (t.1 89) M := by rw [g4.at (by omega)]; exact hM
    have hb : bS (mP M) i ≤ i := cnt_le _ i
    have hp := mP_tb M i
    rw [decide_eq_true hi, Bool.true_and] at hp
    cases h1 : (mL M).testBit i
    · rw [h1] at hp
      refine v_il3 c_94_7 ?_
      refine v_al0 c_94_8 ?_
      refine v_gR (n0 := 89) c_94_9 rfl ?_
      refine v_icN (n := 0) c_94_10 rfl ?_
      refine v_aI c_94_11 rfl (by omega) (hMt.1) ?_
      refine v_icmp_ge_F c_94_12 (by omega) (by omega) (by omega) ?_
      refine v_al0 c_94_13 ?_
      refine v_il3 c_94_14 ?_
      refine v_cVi c_94_15 rfl (by decide) rfl rfl (q_isP hMt hw (by omega)) ?_
      refine v_if_eq_fb c_94_16 (by rw [h1]; rfl) ?_
      refine v_al0 c_94_17 ?_
      refine v_gR (n0 := 105) c_94_18 rfl ?_
      refine v_il2 c_94_19 ?_
      refine v_il3 c_94_20 ?_
      refine v_sI c_94_21 rfl (by omega) ?_
      refine v_incN2 c_94_22 rfl rfl ?_
      refine v_incN3 c_94_23 rfl rfl ?_
      refine v_goto c_94_24 ?_
      refine hk _ _ ⟨by rw [bS_t hp], fun k hk => ?_, g4.tr (FR.sI (by omega) (by omega))⟩
      rw [bS_t hp] at hk
      show _ = nI (if (mP M).testBit i && decide (k = bS (mP M) i) then i else selF (mP M) i k)
      rw [hp, Bool.not_false, Bool.true_and]
      by_cases e : k = bS (mP M) i
      · rw [e, decide_eq_true rfl, if_pos rfl, sI_s]
      · rw [decide_eq_false e, if_neg (by decide), sI_k e]
        exact g2 k (by omega)
    · rw [h1] at hp
      refine v_il3 c_94_7 ?_
      refine v_al0 c_94_8 ?_
      refine v_gR (n0 := 89) c_94_9 rfl ?_
      refine v_icN (n := 0) c_94_10 rfl ?_
      refine v_aI c_94_11 rfl (by omega) (hMt.1) ?_
      refine v_icmp_ge_F c_94_12 (by omega) (by omega) (by omega) ?_
      refine v_al0 c_94_13 ?_
      refine v_il3 c_94_14 ?_
      refine v_cVi c_94_15 rfl (by decide) rfl rfl (q_isP hMt hw (by omega)) ?_
      refine v_if_eq_tb c_94_16 (by rw [h1]; rfl) ?_
      refine v_incN3 c_94_23 rfl rfl ?_
      refine v_goto c_94_24 ?_
      refine hk _ _ ⟨by rw [bS_f hp], fun k hk => ?_, g4⟩
      rw [bS_f hp] at hk
      rw [g2 k hk]
      show _ = nI (if (mP M).testBit i && decide (k = bS (mP M) i) then i else selF (mP M) i k)
      rw [hp]; rfl
  · rintro ls t0 ⟨rfl, l2, l4⟩
    have f0 : FR 104 106 s t0 := l4.up (by omega) (by omega)
    rw [hKe]
    refine v_il3 c_94_7 ?_
    refine v_al0 c_94_8 ?_
    refine v_gR (n0 := 89) c_94_9 rfl ?_
    refine v_icN (n := 0) c_94_10 rfl ?_
    refine v_aI c_94_11 rfl (by omega) ((show t0.1 89 0 = nI (mN M) by rw [l4.at (by omega)]; exact hM.1)) ?_
    refine v_icmp_ge_T c_94_12 (by omega) (by omega) (by omega) ?_
    refine v_bpN (n := 127) c_94_25 rfl ?_
    refine v_is3 c_94_26 rfl ?_
    refine vv_forS 128 (fun a ls t => (∃ y4 y5 y6, ls = [some (.ref 88), some (.int (nI (mF M))), some (.int (nI (mK M))), some (.int (nI (128 - a) - nI 1)), y4, y5, y6]) ∧ (∀ Y, sub Y (mF M) = true → 128 - a ≤ Y → t.1 104 Y = nI (mLS M (mK M - pc Y) Y)) ∧ FR 104 105 t0 t) ?_ ?_ _ _ ⟨⟨none, none, none, rfl⟩, fun Y hY h2 => ?_, FR.rf⟩
    · rintro a ls t ha ⟨⟨y4, y5, y6, rfl⟩, g1, g2⟩ hk
      have ej : nI (128 - a) - nI 1 = nI (128 - a - 1) := pk_sub (by omega)
      rw [ej]
      obtain ⟨X, hX⟩ : ∃ X, X = 128 - a - 1 := ⟨_, rfl⟩
      rw [← hX]
      have hX8 : X < 128 := by omega
      have fin : ∀ u y4 y5 y6, (sub X (mF M) = true → u.1 104 X = nI (mLS M (mK M - pc X) X)) → (∀ Y, Y ≠ X → u.1 104 Y = t.1 104 Y) → FR 104 105 t0 u → VV sc 94 27 [some (.ref 88), some (.int (nI (mF M))), some (.int (nI (mK M))), some (.int (nI X + (-1))), y4, y5, y6] [] u (QI fun x t => x = nI (mK M) ∧ (∀ k, k < mK M → t.1 105 k = nI (mLi M k)) ∧ (∀ Y, sub Y (mF M) = true → t.1 104 Y = nI (mLS M (mK M - pc Y) Y)) ∧ FR 104 106 s t) := by
        intro u y4 y5 y6 r1 r2 r3
        have := hk [some (.ref 88), some (.int (nI (mF M))), some (.int (nI (mK M))), some (.int (nI (128 - (a + 1)) - nI 1)), y4, y5, y6] u ⟨⟨y4, y5, y6, rfl⟩, fun Y hY h2 => ?_, r3⟩
        · rw [show 128 - (a + 1) = X by omega, show nI X - nI 1 = nI X + (-1) by rw [Int32.sub_eq_add_neg]; rfl] at this
          exact this
        · by_cases e : Y = X
          · rw [e]; exact r1 (by rw [← e]; exact hY)
          · rw [r2 Y e]; exact g1 Y hY (by omega)
      by_cases hne : X = mF M
      · have hz0 : zdf X (mF M) = 0 := by rw [hne]; exact zdf_sub.mpr (sub_iff.mpr fun x hx => hx)
        refine v_il3 c_94_27 ?_
        refine v_if_lt_F c_94_28 (by omega) ?_
        refine v_al0 c_94_29 ?_
        refine v_gR (n0 := 104) c_94_30 rfl ?_
        refine v_il3 c_94_31 ?_
        refine v_il3 c_94_32 ?_
        refine v_il1 c_94_33 ?_
        refine v_icmp_ne_F c_94_34 (hne) (by omega) (by omega) ?_
        refine v_icN (n := 0) c_94_35 rfl ?_
        refine v_goto c_94_36 ?_
        refine v_sI c_94_38 rfl (by omega) ?_
        refine v_il3 c_94_39 ?_
        refine v_il1 c_94_40 ?_
        refine v_ic c_94_41 ?_
        refine v_ixor c_94_42 ?_
        refine v_iand c_94_43 ?_
        rw [nI_not]
        refine v_if_ne_F c_94_44 (hz0) (by omega) ?_
        refine v_il3 c_94_45 ?_
        refine v_il1 c_94_46 ?_
        refine v_icmp_eq_T c_94_47 (hne) (by omega) (by omega) ?_
        refine v_inc3 c_94_104 rfl ?_
        refine v_goto c_94_105 ?_
        refine fin _ _ _ _ (fun _ => ?_) (fun Y hY => sI_k hY) (g2.tr (FR.sI (by omega) (by omega)))
        rw [sI_s, hne, hpF, Nat.sub_self]
        rfl
      · cases c1 : sub X (mF M)
        · have hz0 : zdf X (mF M) ≠ 0 := fun z => by rw [zdf_sub.mp z] at c1; cases c1
          have hz : zdf X (mF M) < 128 := zdf_lt (n := 7) hX8
          refine v_il3 c_94_27 ?_
          refine v_if_lt_F c_94_28 (by omega) ?_
          refine v_al0 c_94_29 ?_
          refine v_gR (n0 := 104) c_94_30 rfl ?_
          refine v_il3 c_94_31 ?_
          refine v_il3 c_94_32 ?_
          refine v_il1 c_94_33 ?_
          refine v_icmp_ne_T c_94_34 (hne) (by omega) (by omega) ?_
          refine v_spN (n := 1000) c_94_37 rfl ?_
          refine v_sI c_94_38 rfl (by omega) ?_
          refine v_il3 c_94_39 ?_
          refine v_il1 c_94_40 ?_
          refine v_ic c_94_41 ?_
          refine v_ixor c_94_42 ?_
          refine v_iand c_94_43 ?_
          rw [nI_not]
          refine v_if_ne_T c_94_44 (hz0) (by omega) ?_
          refine v_inc3 c_94_104 rfl ?_
          refine v_goto c_94_105 ?_
          exact fin _ _ _ _ (fun z => by rw [z] at c1; cases c1) (fun Y hY => sI_k hY) (g2.tr (FR.sI (by omega) (by omega)))
        · have hz0 : zdf X (mF M) = 0 := zdf_sub.mpr c1
          have hlt := ltK hw c1 hne
          have hpX := pc_le X
          obtain ⟨d, hd⟩ : ∃ d, mK M - pc X = d + 1 := ⟨mK M - pc X - 1, by omega⟩
          have hn0 : 0 < mN M := by omega
          have hlk := mLi_lt (k := pc X) hn0
          obtain ⟨f, hf⟩ : ∃ f, f = fun t => mR M (mLi M (pc X)) t + mLS M d (X ||| 2 ^ t) := ⟨_, rfl⟩
          obtain ⟨c, hc⟩ : ∃ c, c = fun t => (zdf (mF M) X).testBit t := ⟨_, rfl⟩
          have hfe : ∀ t, f t = mR M (mLi M (pc X)) t + mLS M d (X ||| 2 ^ t) := fun t => by rw [hf]
          have hce : ∀ t, c t = (zdf (mF M) X).testBit t := fun t => by rw [hc]
          have hzF : zdf (mF M) X < 128 := zdf_lt (n := 7) hF7
          have hfb : ∀ t, t < mN M → f t ≤ 100 := fun t ht => by
            have := hw.2.2.1 (mLi M (pc X)) t hlk ht
            have := mLS_b hw d (X ||| 2 ^ t)
            rw [hfe]; omega
          have hgg : ∀ t', c t' = true → X ||| 2 ^ t' ≠ X ∧ t.1 104 (X ||| 2 ^ t') = nI (mLS M d (X ||| 2 ^ t')) := by
            intro t' ht'
            rw [hce] at ht'
            obtain ⟨b1, b2⟩ := zdf_one ht'
            have hpo := (pc_or X hX8 t' (by have := mF_lt hw t' b1; omega) b2).2
            have hgt : X < X ||| 2 ^ t' := by
              have h1 : X ≤ X ||| 2 ^ t' := Nat.left_le_or
              rcases Nat.lt_or_eq_of_le h1 with h2 | h2
              · exact h2
              · rw [← h2] at hpo; omega
            refine ⟨by omega, ?_⟩
            rw [g1 _ (sub_or c1 b1) (by omega), hpo, show mK M - (pc X + 1) = d by omega]
          have hor : t.1 105 (pc X) = nI (mLi M (pc X)) := by
            rw [g2.at (by omega)]
            exact l2 _ hlt
          obtain ⟨b, hbe⟩ := mBW_ex hw (d := d) c1 hne
          have hbe2 : bT f c (mN M) = some b := by rw [hf, hc]; exact hbe
          refine v_il3 c_94_27 ?_
          refine v_if_lt_F c_94_28 (by omega) ?_
          refine v_al0 c_94_29 ?_
          refine v_gR (n0 := 104) c_94_30 rfl ?_
          refine v_il3 c_94_31 ?_
          refine v_il3 c_94_32 ?_
          refine v_il1 c_94_33 ?_
          refine v_icmp_ne_T c_94_34 (hne) (by omega) (by omega) ?_
          refine v_spN (n := 1000) c_94_37 rfl ?_
          refine v_sI c_94_38 rfl (by omega) ?_
          refine v_il3 c_94_39 ?_
          refine v_il1 c_94_40 ?_
          refine v_ic c_94_41 ?_
          refine v_ixor c_94_42 ?_
          refine v_iand c_94_43 ?_
          rw [nI_not]
          refine v_if_ne_F c_94_44 (hz0) (by omega) ?_
          refine v_il3 c_94_45 ?_
          refine v_il1 c_94_46 ?_
          refine v_icmp_eq_F c_94_47 (hne) (by omega) (by omega) ?_
          refine v_al0 c_94_48 ?_
          refine v_gR (n0 := 105) c_94_49 rfl ?_
          refine v_il3 c_94_50 ?_
          refine v_cSi c_94_51 rfl rfl rfl (q_ones hX8) ?_
          refine v_aI c_94_52 rfl (by omega) ((show (sI t 104 X _).1 105 (pc X) = nI (mLi M (pc X)) by rw [sI_o (by omega)]; exact hor)) ?_
          refine v_is4 c_94_53 rfl ?_
          refine v_icN (n := 0) c_94_54 rfl ?_
          refine v_is5 c_94_55 rfl ?_
          refine vv_forS (mN M) (fun j ls u => (∃ y6, ls = [some (.ref 88), some (.int (nI (mF M))), some (.int (nI (mK M))), some (.int (nI X)), some (.int (nI (mLi M (pc X)))), some (.int (nI j)), y6]) ∧ u.1 104 X = nI (mV f (bT f c j)) ∧ (∀ Y, Y ≠ X → u.1 104 Y = t.1 104 Y) ∧ FR 104 105 t0 u) ?_ ?_ _ _ ⟨⟨_, rfl⟩, by rw [sI_s]; rfl, fun Y hY => sI_k hY, g2.tr (FR.sI (by omega) (by omega))⟩
          · rintro j ls u hj ⟨⟨y6, rfl⟩, r1, r2, r3⟩ hkk
            have hMu : QM (u.1 89) M := by rw [r3.at (by omega), l4.at (by omega)]; exact hM
            have hs := bT_s f c j
            have hmv : mV f (bT f c j) ≤ 1000 := by
              cases h2 : bT f c j with
              | none => exact Nat.le_refl _
              | some b' =>
                have := hfb b' (by have := (bT_some _ h2).1; omega)
                show f b' ≤ 1000
                omega
            have hfj := hfb j hj
            have hrj := hw.2.2.1 (mLi M (pc X)) j hlk hj
            cases h1 : c j
            · rw [h1, if_neg (by decide)] at hs
              rw [hce] at h1
              refine v_il5 c_94_56 ?_
              refine v_al0 c_94_57 ?_
              refine v_gR (n0 := 89) c_94_58 rfl ?_
              refine v_icN (n := 0) c_94_59 rfl ?_
              refine v_aI c_94_60 rfl (by omega) (hMu.1) ?_
              refine v_icmp_ge_F c_94_61 (by omega) (by omega) (by omega) ?_
              refine v_il1 c_94_62 ?_
              refine v_il3 c_94_63 ?_
              refine v_ic c_94_64 ?_
              refine v_ixor c_94_65 ?_
              refine v_iand c_94_66 ?_
              rw [nI_not]
              refine v_il5 c_94_67 ?_
              refine v_cSi c_94_68 rfl rfl rfl (q_has (by omega) (by omega)) ?_
              refine v_if_eq_tb c_94_69 (h1) ?_
              refine v_spN (n := 1000) c_94_84 rfl ?_
              refine v_is6 c_94_85 rfl ?_
              refine v_al0 c_94_86 ?_
              refine v_gR (n0 := 104) c_94_87 rfl ?_
              refine v_il3 c_94_88 ?_
              refine v_il6 c_94_89 ?_
              refine v_al0 c_94_90 ?_
              refine v_gR (n0 := 104) c_94_91 rfl ?_
              refine v_il3 c_94_92 ?_
              refine v_aI c_94_93 rfl (by omega) (r1) ?_
              refine v_icmp_ge_T c_94_94 (by omega) (by omega) (by omega) ?_
              refine v_al0 c_94_97 ?_
              refine v_gR (n0 := 104) c_94_98 rfl ?_
              refine v_il3 c_94_99 ?_
              refine v_aI c_94_100 rfl (by omega) (r1) ?_
              refine v_sI c_94_101 rfl (by omega) ?_
              refine v_incN5 c_94_102 rfl rfl ?_
              refine v_goto c_94_103 ?_
              refine hkk _ _ ⟨⟨_, rfl⟩, by rw [sI_s, hs], fun Y hY => by rw [sI_k hY]; exact r2 Y hY, r3.tr (FR.sI (by omega) (by omega))⟩
            · rw [h1, if_pos rfl] at hs
              obtain ⟨q1, q2⟩ := hgg j h1
              rw [hce] at h1
              have hX1 : X ||| 2 ^ j < 128 := or_128 hX8 (by omega)
              have hv : u.1 104 (X ||| 2 ^ j) = nI (mLS M d (X ||| 2 ^ j)) := by rw [r2 _ q1]; exact q2
              refine v_il5 c_94_56 ?_
              refine v_al0 c_94_57 ?_
              refine v_gR (n0 := 89) c_94_58 rfl ?_
              refine v_icN (n := 0) c_94_59 rfl ?_
              refine v_aI c_94_60 rfl (by omega) (hMu.1) ?_
              refine v_icmp_ge_F c_94_61 (by omega) (by omega) (by omega) ?_
              refine v_il1 c_94_62 ?_
              refine v_il3 c_94_63 ?_
              refine v_ic c_94_64 ?_
              refine v_ixor c_94_65 ?_
              refine v_iand c_94_66 ?_
              rw [nI_not]
              refine v_il5 c_94_67 ?_
              refine v_cSi c_94_68 rfl rfl rfl (q_has (by omega) (by omega)) ?_
              refine v_if_eq_fb c_94_69 (h1) ?_
              refine v_al0 c_94_70 ?_
              refine v_il4 c_94_71 ?_
              refine v_il5 c_94_72 ?_
              refine v_cVi c_94_73 rfl (by decide) rfl rfl (q_rk hMu hw hlk hj) ?_
              refine v_al0 c_94_74 ?_
              refine v_gR (n0 := 104) c_94_75 rfl ?_
              refine v_il3 c_94_76 ?_
              refine v_icN (n := 1) c_94_77 rfl ?_
              refine v_il5 c_94_78 ?_
              refine v_ishlN c_94_79 (by omega) ?_
              refine v_iorN c_94_80 ?_
              rw [Nat.one_mul]
              refine v_aI c_94_81 rfl (hX1) (hv) ?_
              refine v_iaddN c_94_82 ?_
              rw [← hfe]
              by_cases q : f j < mV f (bT f c j)
              · refine v_goto c_94_83 ?_
                refine v_is6 c_94_85 rfl ?_
                refine v_al0 c_94_86 ?_
                refine v_gR (n0 := 104) c_94_87 rfl ?_
                refine v_il3 c_94_88 ?_
                refine v_il6 c_94_89 ?_
                refine v_al0 c_94_90 ?_
                refine v_gR (n0 := 104) c_94_91 rfl ?_
                refine v_il3 c_94_92 ?_
                refine v_aI c_94_93 rfl (by omega) (r1) ?_
                refine v_icmp_ge_F c_94_94 (by omega) (by omega) (by omega) ?_
                refine v_il6 c_94_95 ?_
                refine v_goto c_94_96 ?_
                refine v_sI c_94_101 rfl (by omega) ?_
                refine v_incN5 c_94_102 rfl rfl ?_
                refine v_goto c_94_103 ?_
                refine hkk _ _ ⟨⟨_, rfl⟩, ?_, fun Y hY => by rw [sI_k hY]; exact r2 Y hY, r3.tr (FR.sI (by omega) (by omega))⟩
                rw [sI_s, hs]
                cases h2 : bT f c j with
                | none => rfl
                | some b' =>
                  rw [h2] at q
                  have q : f j < f b' := q
                  dsimp only
                  rw [if_pos q]
                  rfl
              · refine v_goto c_94_83 ?_
                refine v_is6 c_94_85 rfl ?_
                refine v_al0 c_94_86 ?_
                refine v_gR (n0 := 104) c_94_87 rfl ?_
                refine v_il3 c_94_88 ?_
                refine v_il6 c_94_89 ?_
                refine v_al0 c_94_90 ?_
                refine v_gR (n0 := 104) c_94_91 rfl ?_
                refine v_il3 c_94_92 ?_
                refine v_aI c_94_93 rfl (by omega) (r1) ?_
                refine v_icmp_ge_T c_94_94 (by omega) (by omega) (by omega) ?_
                refine v_al0 c_94_97 ?_
                refine v_gR (n0 := 104) c_94_98 rfl ?_
                refine v_il3 c_94_99 ?_
                refine v_aI c_94_100 rfl (by omega) (r1) ?_
                refine v_sI c_94_101 rfl (by omega) ?_
                refine v_incN5 c_94_102 rfl rfl ?_
                refine v_goto c_94_103 ?_
                refine hkk _ _ ⟨⟨_, rfl⟩, ?_, fun Y hY => by rw [sI_k hY]; exact r2 Y hY, r3.tr (FR.sI (by omega) (by omega))⟩
                rw [sI_s, hs]
                cases h2 : bT f c j with
                | none =>
                  rw [h2] at q
                  have : mV f none = 1000 := rfl
                  omega
                | some b' =>
                  rw [h2] at q
                  have q : ¬ f j < f b' := q
                  dsimp only
                  rw [if_neg q]
          · rintro ls u ⟨⟨y6, rfl⟩, r1, r2, r3⟩
            have hMu : QM (u.1 89) M := by rw [r3.at (by omega), l4.at (by omega)]; exact hM
            refine v_il5 c_94_56 ?_
            refine v_al0 c_94_57 ?_
            refine v_gR (n0 := 89) c_94_58 rfl ?_
            refine v_icN (n := 0) c_94_59 rfl ?_
            refine v_aI c_94_60 rfl (by omega) (hMu.1) ?_
            refine v_icmp_ge_T c_94_61 (by omega) (by omega) (by omega) ?_
            refine v_inc3 c_94_104 rfl ?_
            refine v_goto c_94_105 ?_
            refine fin u _ _ _ (fun _ => ?_) r2 r3
            rw [r1, hbe2, hd, mLS_s, hbe]
            show nI (f b) = _
            rw [hfe]
    · rintro ls t ⟨⟨y4, y5, y6, rfl⟩, g1, g2⟩
      rw [Nat.sub_self] at g1 ⊢
      refine v_il3 c_94_27 ?_
      refine v_if_lt_t c_94_28 ((by decide)) ?_
      refine v_il2 c_94_106 ?_
      refine v_ri c_94_107 ?_
      exact ⟨_, rfl, rfl, fun k hk => by rw [g2.at (by omega)]; exact l2 k hk, fun Y hY => g1 Y hY (Nat.zero_le _), f0.tr (g2.up (by omega) (by omega))⟩
    · have := sub_le hY
      omega
theorem q_lea (hM : QM (s.1 89) M) (hw : MW M) : CC sc 95 [.ref 88] s (QI fun x t => x = nI (mLS M (mK M) 0) ∧ FR 104 106 (sI s 88 8 (nI 0)) t) := by
  refine cc_of ml_95 rfl rfl ?_
  have hM : QM ((sI s 88 8 (nI 0)).1 89) M := by rw [sI_o (by omega)]; exact hM
  refine v_al0 c_95_0 ?_
  refine v_icN (n := 0) c_95_1 rfl ?_
  refine v_pI c_95_2 rfl ?_
  refine v_al0 c_95_3 ?_
  refine v_cVI c_95_4 rfl (by decide) rfl rfl (q_fls hM hw) ?_
  rintro x t ⟨rfl, l1, l2, l3⟩
  have h0 := l2 0 (sub_0 _)
  rw [show pc 0 = 0 from rfl, Nat.sub_zero] at h0
  refine v_pop c_95_5 ?_
  refine v_al0 c_95_6 ?_
  refine v_gR (n0 := 104) c_95_7 rfl ?_
  refine v_icN (n := 0) c_95_8 rfl ?_
  refine v_aI c_95_9 rfl (by omega) (h0) ?_
  refine v_ri c_95_10 ?_
  exact ⟨_, rfl, rfl, l3⟩
theorem q_lof (hM : QM (s.1 89) M) (hw : MW M) {i : Nat} (hi : i < mN M) : CC sc 96 [.ref 88, .int (nI i)] s (QI fun x t => x = lOf M i ∧ FR 104 106 (sI s 88 8 (nI 0)) t) := by
  refine cc_of ml_96 rfl rfl ?_
  have h7 := hw.1
  have hP7 := mP_128 hw
  have hF7 := mF_128 hw
  have hK := mK_7 hw
  have hM : QM ((sI s 88 8 (nI 0)).1 89) M := by rw [sI_o (by omega)]; exact hM
  have hone : (decide (0 ≤ nI i) && decide (nI i < nI (mN M))) = true := by
    rw [Bool.and_eq_true, decide_eq_true_eq, decide_eq_true_eq]
    exact ⟨(nI_leI (a := 0) (by omega) (by omega)).mpr (Nat.zero_le _), (nI_ltI (by omega) (by omega)).mpr hi⟩
  have hp := mP_tb M i
  rw [decide_eq_true hi, Bool.true_and] at hp
  cases h1 : (mL M).testBit i
  · rw [h1] at hp
    have hp1 : (mP M).testBit i = true := hp
    have hbK : bS (mP M) i < mK M := by
      have h2 := bS_mono (S := mP M) (i := i + 1) _ hi
      rw [bS_t hp1] at h2
      exact h2
    refine v_al0 c_96_0 ?_
    refine v_icN (n := 0) c_96_1 rfl ?_
    refine v_pI c_96_2 rfl ?_
    refine v_al0 c_96_3 ?_
    refine v_il1 c_96_4 ?_
    refine v_cVi c_96_5 rfl (by decide) rfl rfl (q_one hM hw (nI i)) ?_
    refine v_if_ne_tb c_96_6 (hone) ?_
    refine v_al0 c_96_11 ?_
    refine v_il1 c_96_12 ?_
    refine v_cVi c_96_13 rfl (by decide) rfl rfl (q_isP hM hw (by omega)) ?_
    refine v_if_ne_tb c_96_14 (by rw [h1]; rfl) ?_
    refine v_al0 c_96_17 ?_
    refine v_cVI c_96_18 rfl (by decide) rfl rfl (q_fls hM hw) ?_
    rintro x t ⟨rfl, l1, l2, l3⟩
    have hMt : QM (t.1 89) M := by rw [l3.at (by omega)]; exact hM
    refine v_is2 c_96_19 rfl ?_
    refine v_al0 c_96_20 ?_
    refine v_cVi c_96_21 rfl (by decide) rfl rfl (q_hth hMt hw) ?_
    refine v_is3 c_96_22 rfl ?_
    refine v_icN (n := 0) c_96_23 rfl ?_
    refine v_is4 c_96_24 rfl ?_
    refine v_bp c_96_25 ?_
    refine v_is5 c_96_26 rfl ?_
    refine v_icN (n := 0) c_96_27 rfl ?_
    refine v_is6 c_96_28 rfl ?_
    rw [show mTh M (mP M) = mF M from rfl]
    have hans : ∀ (k : Nat) (o : Int32) X y7, k = bS (mP M) i + 1 → o = lOf M i → VV sc 96 29 [some (.ref 88), some (.int (nI i)), some (.int (nI (mK M))), some (.int (nI (mF M))), some (.int X), some (.int o), some (.int (nI k)), y7] [] t (QI fun x t => x = lOf M i ∧ FR 104 106 (sI s 88 8 (nI 0)) t) := by
      intro k o X y7 hk ho
      by_cases c : k < mK M
      · have h3 := mLi_le (k := k) c hi hp1
        have h4 := mLi_lt (M := M) (k := k) (by omega)
        refine v_il6 c_96_29 ?_
        refine v_il2 c_96_30 ?_
        refine v_icmp_ge_F c_96_31 (by omega) (by omega) (by omega) ?_
        refine v_al0 c_96_32 ?_
        refine v_gR (n0 := 105) c_96_33 rfl ?_
        refine v_il6 c_96_34 ?_
        refine v_aI c_96_35 rfl (by omega) (l1 k c) ?_
        refine v_il1 c_96_36 ?_
        refine v_icmp_gt_T c_96_37 (by omega) (by omega) (by omega) ?_
        refine v_il5 c_96_81 ?_
        refine v_ri c_96_82 ?_
        exact ⟨_, rfl, ho, l3⟩
      · refine v_il6 c_96_29 ?_
        refine v_il2 c_96_30 ?_
        refine v_icmp_ge_T c_96_31 (by omega) (by omega) (by omega) ?_
        refine v_il5 c_96_81 ?_
        refine v_ri c_96_82 ?_
        exact ⟨_, rfl, ho, l3⟩
    have body : ∀ k o y7, k ≤ bS (mP M) i → (∀ y7', VV sc 96 29 [some (.ref 88), some (.int (nI i)), some (.int (nI (mK M))), some (.int (nI (mF M))), some (.int (nI (pX M (k + 1)))), some (.int (oI (mBW M (mK M - 1 - k) (pX M k)))), some (.int (nI (k + 1))), y7'] [] t (QI fun x t => x = lOf M i ∧ FR 104 106 (sI s 88 8 (nI 0)) t)) →
        VV sc 96 29 [some (.ref 88), some (.int (nI i)), some (.int (nI (mK M))), some (.int (nI (mF M))), some (.int (nI (pX M k))), some (.int o), some (.int (nI k)), y7] [] t (QI fun x t => x = lOf M i ∧ FR 104 106 (sI s 88 8 (nI 0)) t) := by
      intro k o y7 hk hkk
      have hkK : k < mK M := by omega
      obtain ⟨p1, p2⟩ := pX_ok hw k (by omega)
      have hpl := sub_le p1
      have hX8 : pX M k < 128 := by omega
      have hne := pX_ne hw hkK
      have hn0 : 0 < mN M := by omega
      have hlk := mLi_lt (k := k) hn0
      have hle := (mLi_le hkK hi hp1).mpr hk
      obtain ⟨X, hX⟩ : ∃ X, X = pX M k := ⟨_, rfl⟩
      obtain ⟨d, hd⟩ : ∃ d, d = mK M - 1 - k := ⟨_, rfl⟩
      obtain ⟨b, hbe⟩ := mBW_ex hw (d := d) p1 hne
      obtain ⟨b1, b2, b3, b4⟩ := mBW_ok hw p1 hbe
      have hXs : pX M (k + 1) = X ||| 2 ^ b := by rw [hX]; exact pX_s (by rw [← hd]; exact hbe)
      have hbs := bT_some _ hbe
      have hsX : t.1 104 X = nI (mR M (mLi M k) b + mLS M d (X ||| 2 ^ b)) := by
        rw [hX, l2 _ p1, p2, show mK M - k = d + 1 by omega, mLS_s, hbe, p2]
      rw [p2, ← hX] at hbs
      rw [hXs, ← hX, ← hd, hX, hbe, ← hX] at hkk
      rw [← hX] at p1 hX8 hpl hne b2 b3 p2
      obtain ⟨f, hf⟩ : ∃ f, f = fun t => mR M (mLi M k) t + mLS M d (X ||| 2 ^ t) := ⟨_, rfl⟩
      obtain ⟨c, hc⟩ : ∃ c, c = fun t => (zdf (mF M) X).testBit t := ⟨_, rfl⟩
      have hfe : ∀ t, f t = mR M (mLi M k) t + mLS M d (X ||| 2 ^ t) := fun t => by rw [hf]
      have hce : ∀ t, c t = (zdf (mF M) X).testBit t := fun t => by rw [hc]
      have hbs : b < mN M ∧ c b = true ∧ (∀ t, t < mN M → c t = true → f b ≤ f t) ∧ ∀ t, t < b → c t = true → f b < f t := by rw [hf, hc]; exact hbs
      rw [← hfe] at hsX
      have hzF : zdf (mF M) X < 128 := zdf_lt (n := 7) hF7
      have hfb : ∀ t, t < mN M → f t ≤ 100 := fun t ht => by
        have := hw.2.2.1 (mLi M k) t hlk ht
        have := mLS_b hw d (X ||| 2 ^ t)
        rw [hfe]; omega
      have hgg : ∀ t', c t' = true → t.1 104 (X ||| 2 ^ t') = nI (mLS M d (X ||| 2 ^ t')) := by
        intro t' ht'
        rw [hce] at ht'
        obtain ⟨a1, a2⟩ := zdf_one ht'
        have hpo := (pc_or X hX8 t' (by have := mF_lt hw t' a1; omega) a2).2
        rw [l2 _ (sub_or p1 a1), hpo, p2, show mK M - (k + 1) = d by omega]
      have hfb1 := hfb b b1
      rw [← hX]
      refine v_il6 c_96_29 ?_
      refine v_il2 c_96_30 ?_
      refine v_icmp_ge_F c_96_31 (by omega) (by omega) (by omega) ?_
      refine v_al0 c_96_32 ?_
      refine v_gR (n0 := 105) c_96_33 rfl ?_
      refine v_il6 c_96_34 ?_
      refine v_aI c_96_35 rfl (by omega) (l1 k hkK) ?_
      refine v_il1 c_96_36 ?_
      refine v_icmp_gt_F c_96_37 (by omega) (by omega) (by omega) ?_
      refine v_icN (n := 0) c_96_38 rfl ?_
      refine v_is7 c_96_39 rfl ?_
      refine vv_forS b (fun j ls u => ls = [some (.ref 88), some (.int (nI i)), some (.int (nI (mK M))), some (.int (nI (mF M))), some (.int (nI X)), some (.int o), some (.int (nI k)), some (.int (nI j))] ∧ u = t) ?_ ?_ _ _ ⟨rfl, rfl⟩
      · rintro j ls u hj ⟨rfl, rfl⟩ hkkk
        have hjn : j < mN M := by omega
        have hfj := hfb j hjn
        have hrj := hw.2.2.1 (mLi M k) j hlk hjn
        cases h9 : c j
        · rw [hce] at h9
          refine v_il3 c_96_40 ?_
          refine v_il4 c_96_41 ?_
          refine v_ic c_96_42 ?_
          refine v_ixor c_96_43 ?_
          refine v_iand c_96_44 ?_
          rw [nI_not]
          refine v_il7 c_96_45 ?_
          refine v_cSi c_96_46 rfl rfl rfl (q_has (by omega) (by omega)) ?_
          refine v_if_eq_tb c_96_47 (h9) ?_
          refine v_incN7 c_96_69 rfl rfl ?_
          refine v_goto c_96_70 ?_
          exact hkkk _ _ ⟨rfl, rfl⟩
        · have hlt := hbs.2.2.2 j hj h9
          have hv := hgg j h9
          rw [hce] at h9
          have hX1 : X ||| 2 ^ j < 128 := or_128 hX8 (by omega)
          refine v_il3 c_96_40 ?_
          refine v_il4 c_96_41 ?_
          refine v_ic c_96_42 ?_
          refine v_ixor c_96_43 ?_
          refine v_iand c_96_44 ?_
          rw [nI_not]
          refine v_il7 c_96_45 ?_
          refine v_cSi c_96_46 rfl rfl rfl (q_has (by omega) (by omega)) ?_
          refine v_if_eq_fb c_96_47 (h9) ?_
          refine v_al0 c_96_48 ?_
          refine v_al0 c_96_49 ?_
          refine v_gR (n0 := 105) c_96_50 rfl ?_
          refine v_il6 c_96_51 ?_
          refine v_aI c_96_52 rfl (by omega) (l1 k hkK) ?_
          refine v_il7 c_96_53 ?_
          refine v_cVi c_96_54 rfl (by decide) rfl rfl (q_rk hMt hw hlk hjn) ?_
          refine v_al0 c_96_55 ?_
          refine v_gR (n0 := 104) c_96_56 rfl ?_
          refine v_il4 c_96_57 ?_
          refine v_icN (n := 1) c_96_58 rfl ?_
          refine v_il7 c_96_59 ?_
          refine v_ishlN c_96_60 (by omega) ?_
          rw [Nat.one_mul]
          refine v_iorN c_96_61 ?_
          refine v_aI c_96_62 rfl (hX1) (hv) ?_
          refine v_iaddN c_96_63 ?_
          rw [← hfe]
          refine v_al0 c_96_64 ?_
          refine v_gR (n0 := 104) c_96_65 rfl ?_
          refine v_il4 c_96_66 ?_
          refine v_aI c_96_67 rfl (by omega) (hsX) ?_
          refine v_icmp_eq_F c_96_68 ((by omega)) (by omega) (by omega) ?_
          refine v_incN7 c_96_69 rfl rfl ?_
          refine v_goto c_96_70 ?_
          exact hkkk _ _ ⟨rfl, rfl⟩
      · rintro ls u ⟨rfl, rfl⟩
        have h9 := hbs.2.1
        have hv := hgg b h9
        rw [hce] at h9
        have hX1 : X ||| 2 ^ b < 128 := or_128 hX8 (by omega)
        refine v_il3 c_96_40 ?_
        refine v_il4 c_96_41 ?_
        refine v_ic c_96_42 ?_
        refine v_ixor c_96_43 ?_
        refine v_iand c_96_44 ?_
        rw [nI_not]
        refine v_il7 c_96_45 ?_
        refine v_cSi c_96_46 rfl rfl rfl (q_has (by omega) (by omega)) ?_
        refine v_if_eq_fb c_96_47 (h9) ?_
        refine v_al0 c_96_48 ?_
        refine v_al0 c_96_49 ?_
        refine v_gR (n0 := 105) c_96_50 rfl ?_
        refine v_il6 c_96_51 ?_
        refine v_aI c_96_52 rfl (by omega) (l1 k hkK) ?_
        refine v_il7 c_96_53 ?_
        refine v_cVi c_96_54 rfl (by decide) rfl rfl (q_rk hMt hw hlk b1) ?_
        refine v_al0 c_96_55 ?_
        refine v_gR (n0 := 104) c_96_56 rfl ?_
        refine v_il4 c_96_57 ?_
        refine v_icN (n := 1) c_96_58 rfl ?_
        refine v_il7 c_96_59 ?_
        refine v_ishlN c_96_60 (by omega) ?_
        rw [Nat.one_mul]
        refine v_iorN c_96_61 ?_
        refine v_aI c_96_62 rfl (hX1) (hv) ?_
        refine v_iaddN c_96_63 ?_
        rw [← hfe]
        refine v_al0 c_96_64 ?_
        refine v_gR (n0 := 104) c_96_65 rfl ?_
        refine v_il4 c_96_66 ?_
        refine v_aI c_96_67 rfl (by omega) (hsX) ?_
        refine v_icmp_eq_T c_96_68 (rfl) (by omega) (by omega) ?_
        refine v_il4 c_96_71 ?_
        refine v_icN (n := 1) c_96_72 rfl ?_
        refine v_il7 c_96_73 ?_
        refine v_ishlN c_96_74 (by omega) ?_
        rw [Nat.one_mul]
        refine v_iorN c_96_75 ?_
        refine v_is4 c_96_76 rfl ?_
        refine v_il7 c_96_77 ?_
        refine v_is5 c_96_78 rfl ?_
        refine v_incN6 c_96_79 rfl rfl ?_
        refine v_goto c_96_80 ?_
        exact hkk _
    refine vv_forS (bS (mP M) i) (fun k ls u => (∃ o y7, ls = [some (.ref 88), some (.int (nI i)), some (.int (nI (mK M))), some (.int (nI (mF M))), some (.int (nI (pX M k))), some (.int o), some (.int (nI k)), y7]) ∧ u = t) ?_ ?_ _ _ ⟨⟨_, none, rfl⟩, rfl⟩
    · rintro k ls u hk ⟨⟨o, y7, rfl⟩, rfl⟩ hkk
      exact body k o y7 (by omega) fun y7' => hkk _ _ ⟨⟨_, _, rfl⟩, rfl⟩
    · rintro ls u ⟨⟨o, y7, rfl⟩, rfl⟩
      exact body _ o y7 (Nat.le_refl _) fun y7' => hans _ _ _ _ rfl (by unfold lOf; rw [hp1]; rfl)
  · rw [h1] at hp
    have hp1 : (mP M).testBit i = false := hp
    refine v_al0 c_96_0 ?_
    refine v_icN (n := 0) c_96_1 rfl ?_
    refine v_pI c_96_2 rfl ?_
    refine v_al0 c_96_3 ?_
    refine v_il1 c_96_4 ?_
    refine v_cVi c_96_5 rfl (by decide) rfl rfl (q_one hM hw (nI i)) ?_
    refine v_if_ne_tb c_96_6 (hone) ?_
    refine v_al0 c_96_11 ?_
    refine v_il1 c_96_12 ?_
    refine v_cVi c_96_13 rfl (by decide) rfl rfl (q_isP hM hw (by omega)) ?_
    refine v_if_ne_fb c_96_14 (by rw [h1]; rfl) ?_
    refine v_bp c_96_15 ?_
    refine v_ri c_96_16 ?_
    exact ⟨_, rfl, by unfold lOf; rw [hp1]; rfl, FR.rf⟩
theorem q_lofX (hM : QM (s.1 89) M) (hw : MW M) {x : Int32} (hx : (decide (0 ≤ x) && decide (x < nI (mN M))) = false) : CC sc 96 [.ref 88, .int x] s (QI fun y t => y = nI 0 ∧ t = sI (sI s 88 8 (nI 0)) 88 8 (nI 1)) := by
  refine cc_of ml_96 rfl rfl ?_
  have hM : QM ((sI s 88 8 (nI 0)).1 89) M := by rw [sI_o (by omega)]; exact hM
  refine v_al0 c_96_0 ?_
  refine v_icN (n := 0) c_96_1 rfl ?_
  refine v_pI c_96_2 rfl ?_
  refine v_al0 c_96_3 ?_
  refine v_il1 c_96_4 ?_
  refine v_cVi c_96_5 rfl (by decide) rfl rfl (q_one hM hw x) ?_
  refine v_if_ne_fb c_96_6 (hx) ?_
  refine v_al0 c_96_7 ?_
  refine v_icN (n := 1) c_96_8 rfl ?_
  refine v_cVi c_96_9 rfl (by decide) rfl rfl (q_fl) ?_
  refine v_ri c_96_10 ?_
  exact ⟨_, rfl, rfl, rfl⟩
end LM
