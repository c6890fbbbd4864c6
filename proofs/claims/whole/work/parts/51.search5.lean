/-! THE SEARCH: the model's queue -/
theorem mAg_6 (M : zM) (i j : Nat) : mAg M i j ≤ 6 := by
  unfold mAg
  split <;> (try omega)
  split <;> (try omega)
  split <;> (try omega)
  split <;> (try omega)
  split <;> (try omega)
  split <;> omega
theorem QB.cg {s : zv_S} {n : Nat} {q q' : zQ} (h : QB s n q) (e1 : q'.1 = q.1) (e2 : ∀ j, j < q.1 → q'.2.1 j = q.2.1 j) : QB s n q' := by
  obtain ⟨h1, h2⟩ := h
  refine ⟨fun j hj => ?_, fun x hx => ?_⟩
  · rw [e1] at hj
    rw [e2 j hj]
    exact h1 j hj
  · rw [h2 x hx]
    congr 1
    rw [Bool.eq_iff_iff, qm7_iff, qm7_iff]
    constructor
    · rintro ⟨j, j1, j2⟩
      exact ⟨j, by rw [e1]; exact j1, by rw [e2 j j1]; exact j2⟩
    · rintro ⟨j, j1, j2⟩
      rw [e1] at j1
      exact ⟨j, j1, by rw [e2 j j1] at j2; exact j2⟩
section SQB
variable {sc : Nat × (Nat → Int32)} {s : zv_S} {M : zM}
/-- one met, kept -/
theorem QB.ad {n : Nat} {q : zQ} {H : Nat → Nat} {d : Nat} (h : QB s n q) (h7 : n ≤ 7) (hH : PM n H) (hno : qmt n q (lhN n H n) = false) : QB (sI (sI s 108 (lhN 7 (hx n H) 7) (bI true)) 107 q.1 (nI (cd n H 7))) n (qad n q H d) := by
  obtain ⟨h1, h2⟩ := h
  have e : qad n q H d = (q.1 + 1, fup q.2.1 q.1 H, fup q.2.2 q.1 d) := by
    unfold qad
    rw [hno, if_neg (by decide)]
  rw [e]
  refine ⟨fun j hj => ?_, fun x hx' => ?_⟩
  · have hj : j < q.1 + 1 := hj
    show _ = nI (cd n (fup q.2.1 q.1 H j) 7)
    by_cases c : j = q.1
    · rw [c, sI_s, fup_s]
    · rw [sI_k c, sI_o (by omega), fup_o c]
      exact h1 j (by omega)
  · rw [sI_o (by omega)]
    have hiff : qm7 n (q.1 + 1, fup q.2.1 q.1 H, fup q.2.2 q.1 d) x = (qm7 n q x || decide (x = lhN 7 (hx n H) 7)) := by
      rw [Bool.eq_iff_iff, Bool.or_eq_true, decide_eq_true_eq, qm7_iff, qm7_iff]
      constructor
      · rintro ⟨j, j1, j2⟩
        have j1 : j < q.1 + 1 := j1
        have j2 : lhN 7 (hx n (fup q.2.1 q.1 H j)) 7 = x := j2
        by_cases c : j = q.1
        · rw [c, fup_s] at j2
          exact Or.inr j2.symm
        · rw [fup_o c] at j2
          exact Or.inl ⟨j, by omega, j2⟩
      · rintro (⟨j, j1, j2⟩ | h)
        · exact ⟨j, by show j < q.1 + 1; omega, by show lhN 7 (hx n (fup q.2.1 q.1 H j)) 7 = x; rw [fup_o (by omega)]; exact j2⟩
        · exact ⟨q.1, by show q.1 < q.1 + 1; omega, by show lhN 7 (hx n (fup q.2.1 q.1 H q.1)) 7 = x; rw [fup_s, h]⟩
    rw [hiff]
    by_cases c : x = lhN 7 (hx n H) 7
    · rw [c, sI_s, decide_eq_true rfl, Bool.or_true]
    · rw [sI_k c, h2 x hx', decide_eq_false c, Bool.or_false]
theorem q_codH {H : Nat → Nat} (hM : QM (s.1 89) (wH M H)) (hw : MW M) (hH : PM (mN M) H) : RI sc 99 [.ref 88] s (nI (cd (mN M) H 7)) s := by
  obtain ⟨N, hN⟩ : ∃ N, N = wH M H := ⟨_, rfl⟩
  have hwN : MW N := by rw [hN]; exact hw.wh hH
  rw [← hN] at hM
  have h := q_cod (sc := sc) hM hwN
  have e1 : mN N = mN M := by rw [hN]
  have e2 : mH N = H := by rw [hN]
  rw [e1, e2] at h
  exact h
theorem q_ex1 {Q : zm_O → zv_S → Prop} {z : zv_S} {H : Nat → Nat} {q : zQ} {d k : Nat} {xw xt xK xS xE : Int32} (y8 y9 y10 : Option Value) (hw : MW M) (hHK : PM (mN M) H) (hVk : QV1 M (qex M H d q k)) (hV1 : (qex M H d q (k + 1)).1 ≤ 5040) (hkn : k < mN M * mN M) (f1 : QM (z.1 89) (wH M H)) (f2 : QB z (mN M) (qex M H d q k))
    (kk : ∀ y8 y9 y10 z', QM (z'.1 89) (wH M H) → QB z' (mN M) (qex M H d q (k + 1)) → F2 z z' → VV sc 102 54 [some (.ref 88), some (.int xw), some (.int xt), some (.int (nI (qex M H d q (k + 1)).1)), some (.int xK), some (.int xS), some (.int xE), some (.int (nI (k + 1))), y8, y9, y10] [] z' Q) :
    VV sc 102 54 [some (.ref 88), some (.int xw), some (.int xt), some (.int (nI (qex M H d q k).1)), some (.int xK), some (.int xS), some (.int xE), some (.int (nI k)), y8, y9, y10] [] z Q := by
  have h7 := hw.1
  have hnn : mN M * mN M ≤ 7 * 7 := Nat.mul_le_mul h7 h7
  obtain ⟨a1, a2⟩ := pr_lt hkn
  have hn0 : 0 < mN M := by omega
  have hwHx : MW (wH M H) := hw.wh hHK
  have z0 : z.1 89 0 = nI (mN M) := f1.1
  have hag : RI sc 71 [.ref 88, .int (nI (k / mN M)), .int (nI (k % mN M))] z (nI (mAg (wH M H) (k / mN M) (k % mN M))) z := q_ag f1 hwHx a1 a2
  have hag6 := mAg_6 (wH M H) (k / mN M) (k % mN M)
  by_cases c3 : k / mN M < k % mN M
  · by_cases c4 : mAg (wH M H) (k / mN M) (k % mN M) = 0
    · have epr : prV M H k = true := by
        unfold prV
        rw [decide_eq_true c3, decide_eq_true c4]; rfl
      have e9 := qex_t (d := d) (q := q) epr
      rw [e9] at hV1
      have hHs : PM (mN M) (sw H (k / mN M) (k % mN M)) := hHK.sw a1 a2
      obtain ⟨G, hG⟩ : ∃ G, G = sw H (k / mN M) (k % mN M) := ⟨_, rfl⟩
      rw [← hG] at e9 hV1 hHs
      refine v_il7 c_102_54 ?_
      refine v_al0 c_102_55 ?_
      refine v_gR (n0 := 89) c_102_56 rfl ?_
      refine v_icN (n := 0) c_102_57 rfl ?_
      refine v_aI c_102_58 rfl (by omega) (z0) ?_
      refine v_al0 c_102_59 ?_
      refine v_gR (n0 := 89) c_102_60 rfl ?_
      refine v_icN (n := 0) c_102_61 rfl ?_
      refine v_aI c_102_62 rfl (by omega) (z0) ?_
      refine v_imulN c_102_63 ?_
      refine v_icmp_ge_F c_102_64 (by omega) (by omega) (by omega) ?_
      refine v_il7 c_102_65 ?_
      refine v_al0 c_102_66 ?_
      refine v_gR (n0 := 89) c_102_67 rfl ?_
      refine v_icN (n := 0) c_102_68 rfl ?_
      refine v_aI c_102_69 rfl (by omega) (z0) ?_
      refine v_idivN c_102_70 (by omega) (by omega) (by omega) ?_
      refine v_is8 c_102_71 rfl ?_
      refine v_il7 c_102_72 ?_
      refine v_al0 c_102_73 ?_
      refine v_gR (n0 := 89) c_102_74 rfl ?_
      refine v_icN (n := 0) c_102_75 rfl ?_
      refine v_aI c_102_76 rfl (by omega) (z0) ?_
      refine v_iremN c_102_77 (by omega) (by omega) (by omega) ?_
      refine v_is9 c_102_78 rfl ?_
      refine v_il8 c_102_79 ?_
      refine v_il9 c_102_80 ?_
      refine v_icmp_ge_F c_102_81 (by omega) (by omega) (by omega) ?_
      refine v_al0 c_102_82 ?_
      refine v_il8 c_102_83 ?_
      refine v_il9 c_102_84 ?_
      refine v_cVi c_102_85 rfl (by decide) rfl rfl (hag) ?_
      refine v_if_ne_F c_102_86 (c4) (by omega) ?_
      refine v_al0 c_102_87 ?_
      refine v_il8 c_102_88 ?_
      refine v_il9 c_102_89 ?_
      refine v_cVI c_102_90 rfl (by decide) rfl rfl (q_xch f1 hwHx a1 a2) ?_
      rintro _ o ⟨rfl, o1, o2⟩
      have o1 : QM (o.1 89) (wH M G) := by rw [hG]; exact o1
      have hcd := q_codH (sc := sc) o1 hw hHs
      refine v_pop c_102_91 ?_
      refine v_al0 c_102_92 ?_
      refine v_cVi c_102_93 rfl (by decide) rfl rfl (hcd) ?_
      refine v_is10 c_102_94 rfl ?_
      refine v_al0 c_102_95 ?_
      refine v_il8 c_102_96 ?_
      refine v_il9 c_102_97 ?_
      refine v_cVI c_102_98 rfl (by decide) rfl rfl (q_xch o1 (hw.wh hHs) a1 a2) ?_
      rintro _ p ⟨rfl, p1, p2⟩
      have p1 : QM (p.1 89) (wH M H) := by
        have : QM (p.1 89) (wH M (sw G (k / mN M) (k % mN M))) := p1
        rw [hG, sw_sw] at this
        exact this
      have Bp := (f2.fr o2 (by omega)).fr p2 (by omega)
      have fp : F2 z p := (F2.q o2).tr (F2.q p2)
      have hnm : lhN 7 (hx (mN M) G) 7 < 5040 := lh_lt (hx_pm h7 hHs) (Nat.le_refl _)
      have hmet := Bp.2 _ hnm
      rw [qm7_mt h7 hVk.1 hHs] at hmet
      have hqn := q_num (sc := sc) (s := p) h7 hHs
      cases c5 : qmt (mN M) (qex M H d q k) (lhN (mN M) G (mN M))
      · have hlq : (qex M H d q k).1 + 1 ≤ 5040 := by
          unfold qad at hV1
          rw [c5, if_neg (by decide)] at hV1
          exact hV1
        have B9 := Bp.ad (d := d) h7 hHs c5
        have e7 : (qad (mN M) (qex M H d q k) G d).1 = (qex M H d q k).1 + 1 := by
          unfold qad
          rw [c5, if_neg (by decide)]
        rw [← e9] at B9 e7
        rw [e7] at kk
        rw [c5] at hmet
        refine v_pop c_102_99 ?_
        refine v_al0 c_102_100 ?_
        refine v_gR (n0 := 108) c_102_101 rfl ?_
        refine v_al0 c_102_102 ?_
        refine v_il10 c_102_103 ?_
        refine v_cVi c_102_104 rfl (by decide) rfl rfl (hqn) ?_
        refine v_aZ c_102_105 rfl (hnm) (hmet) ?_
        refine v_if_ne_fb c_102_106 (rfl) ?_
        refine v_al0 c_102_107 ?_
        refine v_gR (n0 := 108) c_102_108 rfl ?_
        refine v_al0 c_102_109 ?_
        refine v_il10 c_102_110 ?_
        refine v_cVi c_102_111 rfl (by decide) rfl rfl (hqn) ?_
        refine v_icN (n := 1) c_102_112 rfl ?_
        refine v_sZ (B := true) c_102_113 rfl (hnm) rfl ?_
        refine v_al0 c_102_114 ?_
        refine v_gR (n0 := 107) c_102_115 rfl ?_
        refine v_il3 c_102_116 ?_
        refine v_il10 c_102_117 ?_
        refine v_sI c_102_118 rfl (by omega) ?_
        refine v_incN3 c_102_119 rfl rfl ?_
        refine v_incN7 c_102_120 rfl rfl ?_
        refine v_goto c_102_121 ?_
        exact kk _ _ _ _ (by rw [sI_o (by omega), sI_o (by omega)]; exact p1) B9 (fp.tr (F2.w ((FR.sI (by omega) (by omega)).tr (FR.sI (by omega) (by omega)))))
      · have e8 : qad (mN M) (qex M H d q k) G d = qex M H d q k := by
          unfold qad
          rw [c5, if_pos rfl]
        rw [e8] at e9
        rw [e9] at kk
        rw [c5] at hmet
        refine v_pop c_102_99 ?_
        refine v_al0 c_102_100 ?_
        refine v_gR (n0 := 108) c_102_101 rfl ?_
        refine v_al0 c_102_102 ?_
        refine v_il10 c_102_103 ?_
        refine v_cVi c_102_104 rfl (by decide) rfl rfl (hqn) ?_
        refine v_aZ c_102_105 rfl (hnm) (hmet) ?_
        refine v_if_ne_tb c_102_106 (rfl) ?_
        refine v_incN7 c_102_120 rfl rfl ?_
        refine v_goto c_102_121 ?_
        exact kk _ _ _ _ p1 Bp fp
    · have epr : prV M H k = false := by
        unfold prV
        rw [decide_eq_false c4, Bool.and_false]
      rw [qex_f (d := d) (q := q) epr] at kk
      refine v_il7 c_102_54 ?_
      refine v_al0 c_102_55 ?_
      refine v_gR (n0 := 89) c_102_56 rfl ?_
      refine v_icN (n := 0) c_102_57 rfl ?_
      refine v_aI c_102_58 rfl (by omega) (z0) ?_
      refine v_al0 c_102_59 ?_
      refine v_gR (n0 := 89) c_102_60 rfl ?_
      refine v_icN (n := 0) c_102_61 rfl ?_
      refine v_aI c_102_62 rfl (by omega) (z0) ?_
      refine v_imulN c_102_63 ?_
      refine v_icmp_ge_F c_102_64 (by omega) (by omega) (by omega) ?_
      refine v_il7 c_102_65 ?_
      refine v_al0 c_102_66 ?_
      refine v_gR (n0 := 89) c_102_67 rfl ?_
      refine v_icN (n := 0) c_102_68 rfl ?_
      refine v_aI c_102_69 rfl (by omega) (z0) ?_
      refine v_idivN c_102_70 (by omega) (by omega) (by omega) ?_
      refine v_is8 c_102_71 rfl ?_
      refine v_il7 c_102_72 ?_
      refine v_al0 c_102_73 ?_
      refine v_gR (n0 := 89) c_102_74 rfl ?_
      refine v_icN (n := 0) c_102_75 rfl ?_
      refine v_aI c_102_76 rfl (by omega) (z0) ?_
      refine v_iremN c_102_77 (by omega) (by omega) (by omega) ?_
      refine v_is9 c_102_78 rfl ?_
      refine v_il8 c_102_79 ?_
      refine v_il9 c_102_80 ?_
      refine v_icmp_ge_F c_102_81 (by omega) (by omega) (by omega) ?_
      refine v_al0 c_102_82 ?_
      refine v_il8 c_102_83 ?_
      refine v_il9 c_102_84 ?_
      refine v_cVi c_102_85 rfl (by decide) rfl rfl (hag) ?_
      refine v_if_ne_T c_102_86 (c4) (by omega) ?_
      refine v_incN7 c_102_120 rfl rfl ?_
      refine v_goto c_102_121 ?_
      exact kk _ _ _ _ f1 f2 F2.rf
  · have epr : prV M H k = false := by
      unfold prV
      rw [decide_eq_false c3, Bool.false_and]
    rw [qex_f (d := d) (q := q) epr] at kk
    refine v_il7 c_102_54 ?_
    refine v_al0 c_102_55 ?_
    refine v_gR (n0 := 89) c_102_56 rfl ?_
    refine v_icN (n := 0) c_102_57 rfl ?_
    refine v_aI c_102_58 rfl (by omega) (z0) ?_
    refine v_al0 c_102_59 ?_
    refine v_gR (n0 := 89) c_102_60 rfl ?_
    refine v_icN (n := 0) c_102_61 rfl ?_
    refine v_aI c_102_62 rfl (by omega) (z0) ?_
    refine v_imulN c_102_63 ?_
    refine v_icmp_ge_F c_102_64 (by omega) (by omega) (by omega) ?_
    refine v_il7 c_102_65 ?_
    refine v_al0 c_102_66 ?_
    refine v_gR (n0 := 89) c_102_67 rfl ?_
    refine v_icN (n := 0) c_102_68 rfl ?_
    refine v_aI c_102_69 rfl (by omega) (z0) ?_
    refine v_idivN c_102_70 (by omega) (by omega) (by omega) ?_
    refine v_is8 c_102_71 rfl ?_
    refine v_il7 c_102_72 ?_
    refine v_al0 c_102_73 ?_
    refine v_gR (n0 := 89) c_102_74 rfl ?_
    refine v_icN (n := 0) c_102_75 rfl ?_
    refine v_aI c_102_76 rfl (by omega) (z0) ?_
    refine v_iremN c_102_77 (by omega) (by omega) (by omega) ?_
    refine v_is9 c_102_78 rfl ?_
    refine v_il8 c_102_79 ?_
    refine v_il9 c_102_80 ?_
    refine v_icmp_ge_T c_102_81 (by omega) (by omega) (by omega) ?_
    refine v_incN7 c_102_120 rfl rfl ?_
    refine v_goto c_102_121 ?_
    exact kk _ _ _ _ f1 f2 F2.rf
theorem q_exc (hM : QM (s.1 89) M) (hw : MW M) {w t : Nat} (hwn : w < mN M) (htn : t < mN M) : CC sc 102 [.ref 88, .int (nI w), .int (nI t)] s (QI fun x u => x = fwA M w t ∧ F2 s u) := by
  refine cc_of ml_102 rfl rfl ?_
  have h7 := hw.1
  have hnn : mN M * mN M ≤ 7 * 7 := Nat.mul_le_mul h7 h7
  have hn0 : 0 < mN M := by omega
  refine v_icN (n := 0) c_102_0 rfl ?_
  refine v_is3 c_102_1 rfl ?_
  refine vv_forS 5040 (fun i ls u => ls = [some (.ref 88), some (.int (nI w)), some (.int (nI t)), some (.int (nI i)), none, none, none, none, none, none, none] ∧ (∀ j, j < i → u.1 108 j = bI false) ∧ FR 107 109 s u) ?_ ?_ _ _ ⟨rfl, fun j hj => absurd hj (by omega), FR.rf⟩
  · rintro i ls u hi ⟨rfl, g1, g2⟩ hk
    refine v_il3 c_102_2 ?_
    refine v_spN (n := 5040) c_102_3 rfl ?_
    refine v_icmp_ge_F c_102_4 (by omega) (by omega) (by omega) ?_
    refine v_al0 c_102_5 ?_
    refine v_gR (n0 := 108) c_102_6 rfl ?_
    refine v_il3 c_102_7 ?_
    refine v_icN (n := 0) c_102_8 rfl ?_
    refine v_sZ (B := false) c_102_9 rfl (by omega) rfl ?_
    refine v_incN3 c_102_10 rfl rfl ?_
    refine v_goto c_102_11 ?_
    refine hk _ _ ⟨rfl, fun j hj => ?_, g2.tr (FR.sI (by omega) (by omega))⟩
    by_cases e : j = i
    · rw [e, sI_s]
    · rw [sI_k e]; exact g1 j (by omega)
  · rintro ls u0 ⟨rfl, z1, z2⟩
    have Mu0 : QM (u0.1 89) M := by rw [z2.at (by omega)]; exact hM
    have hnum : lhN 7 (hx (mN M) (mH M)) 7 < 5040 := lh_lt (hx_pm h7 hw.pm) (Nat.le_refl _)
    refine v_il3 c_102_2 ?_
    refine v_spN (n := 5040) c_102_3 rfl ?_
    refine v_icmp_ge_T c_102_4 (by omega) (by omega) (by omega) ?_
    refine v_al0 c_102_12 ?_
    refine v_gR (n0 := 107) c_102_13 rfl ?_
    refine v_icN (n := 0) c_102_14 rfl ?_
    refine v_al0 c_102_15 ?_
    refine v_cVi c_102_16 rfl (by decide) rfl rfl (q_cod Mu0 hw) ?_
    refine v_sI c_102_17 rfl (by omega) ?_
    refine v_al0 c_102_18 ?_
    refine v_gR (n0 := 108) c_102_19 rfl ?_
    refine v_al0 c_102_20 ?_
    refine v_al0 c_102_21 ?_
    refine v_gR (n0 := 107) c_102_22 rfl ?_
    refine v_icN (n := 0) c_102_23 rfl ?_
    refine v_aI c_102_24 rfl (by omega) (show (sI u0 107 0 _).1 107 0 = nI (cd (mN M) (mH M) 7) by rw [sI_s]) ?_
    refine v_cVi c_102_25 rfl (by decide) rfl rfl (q_num h7 hw.pm) ?_
    refine v_icN (n := 1) c_102_26 rfl ?_
    refine v_sZ (B := true) c_102_27 rfl (hnum) rfl ?_
    refine v_icN (n := 1) c_102_28 rfl ?_
    refine v_is3 c_102_29 rfl ?_
    refine v_icN (n := 0) c_102_30 rfl ?_
    refine v_is4 c_102_31 rfl ?_
    refine v_icN (n := 0) c_102_32 rfl ?_
    refine v_is5 c_102_33 rfl ?_
    refine v_icN (n := 1) c_102_34 rfl ?_
    refine v_is6 c_102_35 rfl ?_
    obtain ⟨u, hu⟩ : ∃ u, u = sI (sI u0 107 0 (nI (cd (mN M) (mH M) 7))) 108 (lhN 7 (hx (mN M) (mH M)) 7) (bI true) := ⟨_, rfl⟩
    rw [← hu]
    have fu : FR 107 109 u0 u := by rw [hu]; exact (FR.sI (by omega) (by omega)).tr (FR.sI (by omega) (by omega))
    have Mu : QM (u.1 89) (wH M (mH M)) := by rw [fu.at (by omega)]; exact Mu0
    have B0 : QB u (mN M) (qst M 0) := by
      refine ⟨fun j hj => ?_, fun x hx' => ?_⟩
      · have hj : j < 1 := hj
        rw [hu, sI_o (by omega), show j = 0 by omega, sI_s]
        rfl
      · have hq : qm7 (mN M) (qst M 0) x = decide (lhN 7 (hx (mN M) (mH M)) 7 = x) := by
          rw [Bool.eq_iff_iff, qm7_iff, decide_eq_true_eq]
          constructor
          · rintro ⟨j, j1, j2⟩
            exact j2
          · intro h
            exact ⟨0, by show 0 < 1; omega, h⟩
        rw [hq, hu]
        by_cases e : x = lhN 7 (hx (mN M) (mH M)) 7
        · rw [e, sI_s, decide_eq_true rfl]
        · rw [sI_k e, sI_o (by omega), z1 x hx', decide_eq_false (fun z => e z.symm)]
    refine vv_forS 5040 (fun K ls x => (∃ E S y7 y8 y9 y10, ls = [some (.ref 88), some (.int (nI w)), some (.int (nI t)), some (.int (nI (qst M K).1)), some (.int (nI K)), some (.int (nI S)), some (.int (nI E)), y7, y8, y9, y10] ∧ E ≤ (qst M K).1 ∧ (K < E ∨ K = (qst M K).1) ∧ (∀ j, K ≤ j → j < E → (qst M K).2.2 j = S) ∧ ∀ j, E ≤ j → j < (qst M K).1 → (qst M K).2.2 j = S + 1) ∧ K ≤ (qst M K).1 ∧ (∃ H, QM (x.1 89) (wH M H)) ∧ QB x (mN M) (qst M K) ∧ (∀ j, j < K → (qst M K).2.1 j w ≠ t) ∧ F2 s x) ?_ ?_ _ _ ⟨⟨1, 0, none, none, none, none, rfl, by show 1 ≤ 1; omega, Or.inl (by omega), fun j _ _ => rfl, fun j h1 h2 => by have h2 : j < 1 := h2; omega⟩, Nat.zero_le _, ⟨_, Mu⟩, B0, fun j hj => absurd hj (Nat.not_lt_zero _), (F2.w z2).tr (F2.w fu)⟩
    · rintro K ls x hK5 ⟨⟨E, S, y7, y8, y9, y10, rfl, e1, e2, e3, e4⟩, g1, g2, g3, g4, g5⟩ hk
      obtain ⟨Hx, g2⟩ := g2
      have hlen := qst_len hw K
      by_cases c1 : K < (qst M K).1
      · have hKE : K < E := by omega
        have hV := qst_V hw K
        have hHK := hV.1 K c1
        have hcell := g3.1 K c1
        have hS : (qst M K).2.2 K = S := e3 K (Nat.le_refl _) hKE
        obtain ⟨H, hH⟩ : ∃ H, H = (qst M K).2.1 K := ⟨_, rfl⟩
        rw [← hH] at hHK hcell
        have hHw := hHK.1 w hwn
        have hwHx : MW (wH M H) := hw.wh hHK
        refine v_il4 c_102_36 ?_
        refine v_il3 c_102_37 ?_
        refine v_icmp_ge_F c_102_38 (by omega) (by omega) (by omega) ?_
        refine v_al0 c_102_39 ?_
        refine v_al0 c_102_40 ?_
        refine v_gR (n0 := 107) c_102_41 rfl ?_
        refine v_il4 c_102_42 ?_
        refine v_aI c_102_43 rfl (by omega) (hcell) ?_
        refine v_cVV c_102_44 rfl (by decide) rfl rfl (q_unc g2 h7 hHK) ?_
        rintro y ⟨v1, v2⟩
        have v1 : QM (y.1 89) (wH M H) := v1
        have fy : F2 s y := g5.tr (F2.q v2)
        have By := g3.fr v2 (by omega)
        have hhd : RI sc 50 [.ref 88, .int (nI w)] y (nI (H w)) y := q_hd v1 h7 hwn
        by_cases c2 : H w = t
        · refine v_al0 c_102_45 ?_
          refine v_il1 c_102_46 ?_
          refine v_cVi c_102_47 rfl (by decide) rfl rfl (hhd) ?_
          refine v_il2 c_102_48 ?_
          refine v_icmp_ne_F c_102_49 (c2) (by omega) (by omega) ?_
          refine v_il5 c_102_50 ?_
          refine v_ri c_102_51 ?_
          refine ⟨_, rfl, ?_, fy⟩
          rw [← hS]
          exact (fw_hit (fw_in (by omega)) c1 g4 (by rw [← hH]; exact c2)).symm
        · refine v_al0 c_102_45 ?_
          refine v_il1 c_102_46 ?_
          refine v_cVi c_102_47 rfl (by decide) rfl rfl (hhd) ?_
          refine v_il2 c_102_48 ?_
          refine v_icmp_ne_T c_102_49 (c2) (by omega) (by omega) ?_
          refine v_icN (n := 0) c_102_52 rfl ?_
          refine v_is7 c_102_53 rfl ?_
          have hQK : qst M (K + 1) = qex M H (S + 1) (qst M K) (mN M * mN M) := by rw [qst_s c1, ← hH, hS]
          have hd63 := hV.2.2 K c1
          rw [← hH, hS] at hd63
          have hVk := fun k hk => QV1.ex hV hHK hd63 k hk
          refine vv_forS (mN M * mN M) (fun k ls z => (∃ y8 y9 y10, ls = [some (.ref 88), some (.int (nI w)), some (.int (nI t)), some (.int (nI (qex M H (S + 1) (qst M K) k).1)), some (.int (nI K)), some (.int (nI S)), some (.int (nI E)), some (.int (nI k)), y8, y9, y10]) ∧ QM (z.1 89) (wH M H) ∧ QB z (mN M) (qex M H (S + 1) (qst M K) k) ∧ F2 s z) ?_ ?_ _ _ ⟨⟨_, _, _, rfl⟩, v1, By, fy⟩
          · rintro k ls z hkn ⟨⟨y8, y9, y10, rfl⟩, f1, f2, f3⟩ hkk
            exact q_ex1 y8 y9 y10 hw hHK (hVk k (by omega)) ((hVk (k + 1) (by omega)).len hw) hkn f1 f2 fun y8 y9 y10 z' r1 r2 r3 => hkk _ _ ⟨⟨_, _, _, rfl⟩, r1, r2, f3.tr r3⟩
          · rintro ls z ⟨⟨y8, y9, y10, rfl⟩, f1, f2, f3⟩
            have z0 : z.1 89 0 = nI (mN M) := f1.1
            rw [← hQK] at f2 ⊢
            have hE := qst_E (M := M) (K := K) (K + 1) (by omega)
            have hl1 := hE.1
            have hlen1 := qst_len hw (K + 1)
            have hno : ∀ j, j < K + 1 → (qst M (K + 1)).2.1 j w ≠ t := fun j hj => by
              rw [(hE.2 j (by omega)).1]
              by_cases e : j = K
              · rw [e, ← hH]; exact c2
              · exact g4 j (by omega)
            have hnew : ∀ j, (qst M K).1 ≤ j → j < (qst M (K + 1)).1 → (qst M (K + 1)).2.2 j = S + 1 := fun j h1 h2 => by
              rw [hQK] at h2 ⊢
              exact qex_D _ j h1 h2
            by_cases c5 : K + 1 = E
            · refine v_il7 c_102_54 ?_
              refine v_al0 c_102_55 ?_
              refine v_gR (n0 := 89) c_102_56 rfl ?_
              refine v_icN (n := 0) c_102_57 rfl ?_
              refine v_aI c_102_58 rfl (by omega) (z0) ?_
              refine v_al0 c_102_59 ?_
              refine v_gR (n0 := 89) c_102_60 rfl ?_
              refine v_icN (n := 0) c_102_61 rfl ?_
              refine v_aI c_102_62 rfl (by omega) (z0) ?_
              refine v_imulN c_102_63 ?_
              refine v_icmp_ge_T c_102_64 (by omega) (by omega) (by omega) ?_
              refine v_incN4 c_102_122 rfl rfl ?_
              refine v_il4 c_102_123 ?_
              refine v_il6 c_102_124 ?_
              refine v_icmp_ne_F c_102_125 (c5) (by omega) (by omega) ?_
              refine v_il3 c_102_126 ?_
              refine v_is6 c_102_127 rfl ?_
              refine v_incN5 c_102_128 rfl rfl ?_
              refine v_goto c_102_129 ?_
              refine hk _ _ ⟨⟨(qst M (K + 1)).1, S + 1, _, _, _, _, rfl, Nat.le_refl _, by omega, fun j h1 h2 => ?_, fun j h1 h2 => by omega⟩, by omega, ⟨_, f1⟩, f2, hno, f3⟩
              by_cases e : j < (qst M K).1
              · rw [(hE.2 j e).2]
                exact e4 j (by omega) e
              · exact hnew j (by omega) h2
            · refine v_il7 c_102_54 ?_
              refine v_al0 c_102_55 ?_
              refine v_gR (n0 := 89) c_102_56 rfl ?_
              refine v_icN (n := 0) c_102_57 rfl ?_
              refine v_aI c_102_58 rfl (by omega) (z0) ?_
              refine v_al0 c_102_59 ?_
              refine v_gR (n0 := 89) c_102_60 rfl ?_
              refine v_icN (n := 0) c_102_61 rfl ?_
              refine v_aI c_102_62 rfl (by omega) (z0) ?_
              refine v_imulN c_102_63 ?_
              refine v_icmp_ge_T c_102_64 (by omega) (by omega) (by omega) ?_
              refine v_incN4 c_102_122 rfl rfl ?_
              refine v_il4 c_102_123 ?_
              refine v_il6 c_102_124 ?_
              refine v_icmp_ne_T c_102_125 (c5) (by omega) (by omega) ?_
              refine hk _ _ ⟨⟨E, S, _, _, _, _, rfl, by omega, Or.inl (by omega), fun j h1 h2 => ?_, fun j h1 h2 => ?_⟩, by omega, ⟨_, f1⟩, f2, hno, f3⟩
              · rw [(hE.2 j (by omega)).2]
                exact e3 j (by omega) h2
              · by_cases e : j < (qst M K).1
                · rw [(hE.2 j e).2]
                  exact e4 j h1 e
                · exact hnew j (by omega) h2
      · have eK : (qst M K).1 = K := by omega
        refine v_il4 c_102_36 ?_
        refine v_il3 c_102_37 ?_
        refine v_icmp_ge_T c_102_38 (by omega) (by omega) (by omega) ?_
        refine v_bp c_102_130 ?_
        refine v_ri c_102_131 ?_
        exact ⟨_, rfl, (fw_none hw (by omega) (fun j hj => g4 j (by omega))).symm, g5⟩
    · rintro ls x ⟨⟨E, S, y7, y8, y9, y10, rfl, e1, e2, e3, e4⟩, g1, g2, g3, g4, g5⟩
      have hlen := qst_len hw 5040
      refine v_il4 c_102_36 ?_
      refine v_il3 c_102_37 ?_
      refine v_icmp_ge_T c_102_38 (by omega) (by omega) (by omega) ?_
      refine v_bp c_102_130 ?_
      refine v_ri c_102_131 ?_
      exact ⟨_, rfl, (fw_none hw (by omega) (fun j hj => g4 j (by omega))).symm, g5⟩
end SQB
