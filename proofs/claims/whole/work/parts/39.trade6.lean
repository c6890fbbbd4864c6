/-! THE TRADING: the model's rounds -/
section TQT
variable {sc : Nat × (Nat → Int32)} {s : zv_S} {M : zM}
theorem lt_s1 {j i O : Nat} (h1 : O.testBit i = false) : (j < i + 1 ∧ O.testBit j = true) ↔ (j < i ∧ O.testBit j = true) := by
  constructor
  · rintro ⟨a, b⟩
    refine ⟨?_, b⟩
    rcases Nat.lt_or_eq_of_le (Nat.le_of_lt_succ a) with h | h
    · exact h
    · rw [h, h1] at b; cases b
  · rintro ⟨a, b⟩; exact ⟨by omega, b⟩
theorem lt_s2 {j i O : Nat} (e : j ≠ i) : (j < i + 1 ∧ O.testBit j = true) ↔ (j < i ∧ O.testBit j = true) := by
  constructor
  · rintro ⟨a, b⟩; exact ⟨by omega, b⟩
  · rintro ⟨a, b⟩; exact ⟨by omega, b⟩
/-- to and first of a round, from row 52 on -/
theorem q_rd1 {T : zT} {O : Nat} {Q : zm_O → zv_S → Prop} (hM : QM (s.1 89) M) (hw : MW M) (hT : TQ s (mN M) T) (hr : tRo T ≤ 7) (hO : ∀ x, O.testBit x = true → x < mN M) (y2 y3 y4 : Option Value)
    (k : ∀ t y2, TQ t (mN M) (tFs (chs (mN M) (mR M) (mH M) O) O T) → (∀ x, O.testBit x = true → t.1 99 x = nI (chs (mN M) (mR M) (mH M) O x)) → FR 98 100 s t → VV sc 55 96 [some (.ref 88), some (.int (nI O)), y2, y3, y4] [] t Q) :
    VV sc 55 52 [some (.ref 88), some (.int (nI O)), y2, y3, y4] [] s Q := by
  have h7 := hw.1
  have hO128 := O_7 h7 hO
  obtain ⟨q0, q1, q2, q3⟩ := hT
  refine v_icN (n := 0) c_55_52 rfl ?_
  refine v_is2 c_55_53 rfl ?_
  refine vv_forS (mN M) (fun i ls t => ls = [some (.ref 88), some (.int (nI O)), some (.int (nI i)), y3, y4] ∧ (∀ j, j < i → O.testBit j = true → t.1 99 j = nI (chs (mN M) (mR M) (mH M) O j)) ∧ (∀ j, j < mN M → t.1 98 j = if tRo T = 0 ∧ (j < i ∧ O.testBit j = true) then nI (chs (mN M) (mR M) (mH M) O j) else tFi T j) ∧ FR 98 100 s t) ?_ ?_ _ _ ⟨rfl, fun j hj => absurd hj (by omega), fun j hj => ?_, FR.rf⟩
  · rintro i ls t hi ⟨rfl, g1, g2, g4⟩ hk
    have hM' : QM (t.1 89) M := by rw [g4.at (by omega)]; exact hM
    have t1 : t.1 88 17 = nI (tRo T) := by rw [g4.at (by omega)]; exact q1
    cases h1 : O.testBit i
    · have keep : ∀ u : zv_S, u.1 98 = upd (t.1 98) i (t.1 98 i) → ∀ j, j < mN M → u.1 98 j = if tRo T = 0 ∧ (j < i + 1 ∧ O.testBit j = true) then nI (chs (mN M) (mR M) (mH M) O j) else tFi T j := by
        intro u hu j hj
        simp only [lt_s1 h1]
        rw [hu]
        by_cases e : j = i
        · rw [e, pk_us]; exact g2 i hi
        · rw [pk_un e]; exact g2 j hj
      have k99 : ∀ u : zv_S, (∀ j, j ≠ i → u.1 99 j = t.1 99 j) → ∀ j, j < i + 1 → O.testBit j = true → u.1 99 j = nI (chs (mN M) (mR M) (mH M) O j) := by
        intro u hu j hj h2
        rcases Nat.lt_or_eq_of_le (Nat.le_of_lt_succ hj) with h | h
        · rw [hu j (by omega)]; exact g1 j h h2
        · rw [h, h1] at h2; cases h2
      by_cases hz : tRo T = 0
      · refine v_il2 c_55_54 ?_
        refine v_al0 c_55_55 ?_
        refine v_gR (n0 := 89) c_55_56 rfl ?_
        refine v_icN (n := 0) c_55_57 rfl ?_
        refine v_aI c_55_58 rfl (by omega) (hM'.1) ?_
        refine v_icmp_ge_F c_55_59 (by omega) (by omega) (by omega) ?_
        refine v_al0 c_55_60 ?_
        refine v_gR (n0 := 99) c_55_61 rfl ?_
        refine v_il2 c_55_62 ?_
        refine v_il1 c_55_63 ?_
        refine v_il2 c_55_64 ?_
        refine v_cSi c_55_65 rfl rfl rfl (q_has (by omega) (by omega)) ?_
        refine v_if_eq_tb c_55_66 (h1) ?_
        refine v_il2 c_55_72 ?_
        refine v_sI c_55_73 rfl (by omega) ?_
        refine v_al0 c_55_74 ?_
        refine v_gR (n0 := 98) c_55_75 rfl ?_
        refine v_il2 c_55_76 ?_
        refine v_al0 c_55_77 ?_
        refine v_gI c_55_78 rfl (show (sI t 99 i _).1 88 17 = nI (tRo T) by rw [sI_o (by omega)]; exact t1) ?_
        refine v_if_ne_F c_55_79 (hz) (by omega) ?_
        refine v_il1 c_55_80 ?_
        refine v_il2 c_55_81 ?_
        refine v_cSi c_55_82 rfl rfl rfl (q_has (by omega) (by omega)) ?_
        refine v_if_eq_tb c_55_83 (h1) ?_
        refine v_al0 c_55_89 ?_
        refine v_gR (n0 := 98) c_55_90 rfl ?_
        refine v_il2 c_55_91 ?_
        refine v_aI c_55_92 rfl (by omega) (rfl) ?_
        refine v_sI c_55_93 rfl (by omega) ?_
        refine v_incN2 c_55_94 rfl rfl ?_
        refine v_goto c_55_95 ?_
        refine hk _ _ ⟨rfl, k99 _ (fun j hj => by rw [sI_o (by omega), sI_k hj]), keep _ rfl, (g4.tr (FR.sI (by omega) (by omega))).tr (FR.sI (by omega) (by omega))⟩
      · refine v_il2 c_55_54 ?_
        refine v_al0 c_55_55 ?_
        refine v_gR (n0 := 89) c_55_56 rfl ?_
        refine v_icN (n := 0) c_55_57 rfl ?_
        refine v_aI c_55_58 rfl (by omega) (hM'.1) ?_
        refine v_icmp_ge_F c_55_59 (by omega) (by omega) (by omega) ?_
        refine v_al0 c_55_60 ?_
        refine v_gR (n0 := 99) c_55_61 rfl ?_
        refine v_il2 c_55_62 ?_
        refine v_il1 c_55_63 ?_
        refine v_il2 c_55_64 ?_
        refine v_cSi c_55_65 rfl rfl rfl (q_has (by omega) (by omega)) ?_
        refine v_if_eq_tb c_55_66 (h1) ?_
        refine v_il2 c_55_72 ?_
        refine v_sI c_55_73 rfl (by omega) ?_
        refine v_al0 c_55_74 ?_
        refine v_gR (n0 := 98) c_55_75 rfl ?_
        refine v_il2 c_55_76 ?_
        refine v_al0 c_55_77 ?_
        refine v_gI c_55_78 rfl (show (sI t 99 i _).1 88 17 = nI (tRo T) by rw [sI_o (by omega)]; exact t1) ?_
        refine v_if_ne_T c_55_79 (hz) (by omega) ?_
        refine v_al0 c_55_89 ?_
        refine v_gR (n0 := 98) c_55_90 rfl ?_
        refine v_il2 c_55_91 ?_
        refine v_aI c_55_92 rfl (by omega) (rfl) ?_
        refine v_sI c_55_93 rfl (by omega) ?_
        refine v_incN2 c_55_94 rfl rfl ?_
        refine v_goto c_55_95 ?_
        refine hk _ _ ⟨rfl, k99 _ (fun j hj => by rw [sI_o (by omega), sI_k hj]), keep _ rfl, (g4.tr (FR.sI (by omega) (by omega))).tr (FR.sI (by omega) (by omega))⟩
    · have k99 : ∀ u : zv_S, (∀ j, j ≠ i → u.1 99 j = t.1 99 j) → u.1 99 i = nI (chs (mN M) (mR M) (mH M) O i) → ∀ j, j < i + 1 → O.testBit j = true → u.1 99 j = nI (chs (mN M) (mR M) (mH M) O j) := by
        intro u hu hu2 j hj h2
        by_cases e : j = i
        · rw [e]; exact hu2
        · rw [hu j e]; exact g1 j (by omega) h2
      by_cases hz : tRo T = 0
      · refine v_il2 c_55_54 ?_
        refine v_al0 c_55_55 ?_
        refine v_gR (n0 := 89) c_55_56 rfl ?_
        refine v_icN (n := 0) c_55_57 rfl ?_
        refine v_aI c_55_58 rfl (by omega) (hM'.1) ?_
        refine v_icmp_ge_F c_55_59 (by omega) (by omega) (by omega) ?_
        refine v_al0 c_55_60 ?_
        refine v_gR (n0 := 99) c_55_61 rfl ?_
        refine v_il2 c_55_62 ?_
        refine v_il1 c_55_63 ?_
        refine v_il2 c_55_64 ?_
        refine v_cSi c_55_65 rfl rfl rfl (q_has (by omega) (by omega)) ?_
        refine v_if_eq_fb c_55_66 (h1) ?_
        refine v_al0 c_55_67 ?_
        refine v_il2 c_55_68 ?_
        refine v_il1 c_55_69 ?_
        refine v_cVi c_55_70 rfl (by decide) rfl rfl (q_pts hM' hw hO128 hi h1) ?_
        refine v_goto c_55_71 ?_
        refine v_sI c_55_73 rfl (by omega) ?_
        refine v_al0 c_55_74 ?_
        refine v_gR (n0 := 98) c_55_75 rfl ?_
        refine v_il2 c_55_76 ?_
        refine v_al0 c_55_77 ?_
        refine v_gI c_55_78 rfl (show (sI t 99 i _).1 88 17 = nI (tRo T) by rw [sI_o (by omega)]; exact t1) ?_
        refine v_if_ne_F c_55_79 (hz) (by omega) ?_
        refine v_il1 c_55_80 ?_
        refine v_il2 c_55_81 ?_
        refine v_cSi c_55_82 rfl rfl rfl (q_has (by omega) (by omega)) ?_
        refine v_if_eq_fb c_55_83 (h1) ?_
        refine v_al0 c_55_84 ?_
        refine v_gR (n0 := 99) c_55_85 rfl ?_
        refine v_il2 c_55_86 ?_
        refine v_aI c_55_87 rfl (by omega) (sI_s) ?_
        refine v_goto c_55_88 ?_
        refine v_sI c_55_93 rfl (by omega) ?_
        refine v_incN2 c_55_94 rfl rfl ?_
        refine v_goto c_55_95 ?_
        refine hk _ _ ⟨rfl, k99 _ (fun j hj => by rw [sI_o (by omega), sI_k hj]) (by rw [sI_o (by omega), sI_s]), fun j hj => ?_, (g4.tr (FR.sI (by omega) (by omega))).tr (FR.sI (by omega) (by omega))⟩
        by_cases e : j = i
        · rw [e, sI_s, if_pos ⟨hz, by omega, h1⟩]
        · rw [sI_k e, sI_o (by omega), g2 j hj]
          simp only [lt_s2 e]
      · refine v_il2 c_55_54 ?_
        refine v_al0 c_55_55 ?_
        refine v_gR (n0 := 89) c_55_56 rfl ?_
        refine v_icN (n := 0) c_55_57 rfl ?_
        refine v_aI c_55_58 rfl (by omega) (hM'.1) ?_
        refine v_icmp_ge_F c_55_59 (by omega) (by omega) (by omega) ?_
        refine v_al0 c_55_60 ?_
        refine v_gR (n0 := 99) c_55_61 rfl ?_
        refine v_il2 c_55_62 ?_
        refine v_il1 c_55_63 ?_
        refine v_il2 c_55_64 ?_
        refine v_cSi c_55_65 rfl rfl rfl (q_has (by omega) (by omega)) ?_
        refine v_if_eq_fb c_55_66 (h1) ?_
        refine v_al0 c_55_67 ?_
        refine v_il2 c_55_68 ?_
        refine v_il1 c_55_69 ?_
        refine v_cVi c_55_70 rfl (by decide) rfl rfl (q_pts hM' hw hO128 hi h1) ?_
        refine v_goto c_55_71 ?_
        refine v_sI c_55_73 rfl (by omega) ?_
        refine v_al0 c_55_74 ?_
        refine v_gR (n0 := 98) c_55_75 rfl ?_
        refine v_il2 c_55_76 ?_
        refine v_al0 c_55_77 ?_
        refine v_gI c_55_78 rfl (show (sI t 99 i _).1 88 17 = nI (tRo T) by rw [sI_o (by omega)]; exact t1) ?_
        refine v_if_ne_T c_55_79 (hz) (by omega) ?_
        refine v_al0 c_55_89 ?_
        refine v_gR (n0 := 98) c_55_90 rfl ?_
        refine v_il2 c_55_91 ?_
        refine v_aI c_55_92 rfl (by omega) (rfl) ?_
        refine v_sI c_55_93 rfl (by omega) ?_
        refine v_incN2 c_55_94 rfl rfl ?_
        refine v_goto c_55_95 ?_
        refine hk _ _ ⟨rfl, k99 _ (fun j hj => by rw [sI_o (by omega), sI_k hj]) (by rw [sI_o (by omega), sI_s]), fun j hj => ?_, (g4.tr (FR.sI (by omega) (by omega))).tr (FR.sI (by omega) (by omega))⟩
        rw [if_neg (fun h => hz h.1)]
        have h9 := g2 j hj
        rw [if_neg (fun h => hz h.1)] at h9
        by_cases e : j = i
        · rw [e, sI_s, sI_o (by omega), ← e]; exact h9
        · rw [sI_k e, sI_o (by omega)]; exact h9
  · rintro ls t ⟨rfl, g1, g2, g4⟩
    have hM' : QM (t.1 89) M := by rw [g4.at (by omega)]; exact hM
    refine v_il2 c_55_54 ?_
    refine v_al0 c_55_55 ?_
    refine v_gR (n0 := 89) c_55_56 rfl ?_
    refine v_icN (n := 0) c_55_57 rfl ?_
    refine v_aI c_55_58 rfl (by omega) (hM'.1) ?_
    refine v_icmp_ge_T c_55_59 (by omega) (by omega) (by omega) ?_
    refine k t _ ⟨by rw [g4.at (by omega)]; exact q0, by rw [g4.at (by omega)]; exact q1, fun i hi => ?_, fun k hk => by rw [g4.at (by omega), g4.at (by omega)]; exact q3 k hk⟩ (fun x hx => g1 x (hO x hx) hx) g4
    rw [g4.at (a := 95) (by omega), g4.at (a := 96) (by omega), g4.at (a := 97) (by omega), g2 i hi]
    refine ⟨(q2 i hi).1, (q2 i hi).2.1, (q2 i hi).2.2.1, ?_⟩
    show _ = if tRo T = 0 ∧ O.testBit i = true then nI (chs (mN M) (mR M) (mH M) O i) else tFi T i
    have e2 : (tRo T = 0 ∧ (i < mN M ∧ O.testBit i = true)) ↔ (tRo T = 0 ∧ O.testBit i = true) := ⟨fun h => ⟨h.1, h.2.2⟩, fun h => ⟨h.1, hi, h.2⟩⟩
    simp only [e2]
  · rw [if_neg (fun h => absurd h.2.1 (by omega))]
    exact (q2 j hj).2.2.2
/-- the rings of a round, from row 96 on -/
theorem q_rd2 {T : zT} {O D : Nat} {p : Nat → Nat} {Q : zm_O → zv_S → Prop} (hM : QM (s.1 89) M) (hw : MW M) (hT : TQ s (mN M) T) (hTI : TI (mN M) (mH M) T D) (hD : ∀ x, D.testBit x = true → x < mN M) (hO : ∀ x, O.testBit x = true → x < mN M) (hdis : ∀ x, D.testBit x = true → O.testBit x = true → False)
    (hp : ∀ x, O.testBit x = true → O.testBit (p x) = true) (hP : ∀ x, O.testBit x = true → s.1 99 x = nI (p x)) (y2 y3 y4 : Option Value)
    (k : ∀ t y3 y4, TQ t (mN M) (tCl (mH M) p O T (mN M)).1 → FT s t → VV sc 55 150 [some (.ref 88), some (.int (nI O)), some (.int (nI (tCl (mH M) p O T (mN M)).2)), y3, y4] [] t Q) :
    VV sc 55 96 [some (.ref 88), some (.int (nI O)), y2, y3, y4] [] s Q := by
  have h7 := hw.1
  have hO128 := O_7 h7 hO
  have hinv := tCl_ok h7 hw.2.2.2.1 hw.2.2.2.2 hTI hD hO hdis hp
  refine v_icN (n := 0) c_55_96 rfl ?_
  refine v_is2 c_55_97 rfl ?_
  refine v_icN (n := 0) c_55_98 rfl ?_
  refine v_is3 c_55_99 rfl ?_
  refine vv_forS (mN M) (fun i ls t => (∃ y, ls = [some (.ref 88), some (.int (nI O)), some (.int (nI (tCl (mH M) p O T i).2)), some (.int (nI i)), y]) ∧ TQ t (mN M) (tCl (mH M) p O T i).1 ∧ t.1 99 = s.1 99 ∧ FT s t) ?_ ?_ _ _ ⟨⟨y4, rfl⟩, hT, rfl, FT.rf⟩
  · rintro i ls t hi ⟨⟨y, rfl⟩, g1, g2, g3⟩ hk
    have hM' := hM.ft g3
    have hP' : ∀ x, O.testBit x = true → t.1 99 x = nI (p x) := fun x hx => by rw [g2]; exact hP x hx
    obtain ⟨a1, a2, a3, a4, a5, a6⟩ := hinv i (by omega)
    have e : tCl (mH M) p O T (i + 1) = if O.testBit i && (!(tCl (mH M) p O T i).2.testBit i && decide (rgF p i ≠ 0)) then (tAdd (mH M) p (tCl (mH M) p O T i).1 (rgF p i), (tCl (mH M) p O T i).2 ||| rgF p i) else tCl (mH M) p O T i := rfl
    have hd128 : (tCl (mH M) p O T i).2 < 128 := tb_sub (n := 7) hO128 a2
    cases h1 : O.testBit i
    · have e2 : tCl (mH M) p O T (i + 1) = tCl (mH M) p O T i := by rw [e, h1]; rfl
      refine v_il3 c_55_100 ?_
      refine v_al0 c_55_101 ?_
      refine v_gR (n0 := 89) c_55_102 rfl ?_
      refine v_icN (n := 0) c_55_103 rfl ?_
      refine v_aI c_55_104 rfl (by omega) (hM'.1) ?_
      refine v_icmp_ge_F c_55_105 (by omega) (by omega) (by omega) ?_
      refine v_il1 c_55_106 ?_
      refine v_il3 c_55_107 ?_
      refine v_cSi c_55_108 rfl rfl rfl (q_has (by omega) (by omega)) ?_
      refine v_if_eq_tb c_55_109 (h1) ?_
      refine v_icN (n := 0) c_55_118 rfl ?_
      refine v_is4 c_55_119 rfl ?_
      refine v_il4 c_55_120 ?_
      refine v_if_eq_T c_55_121 (by omega) (by omega) ?_
      refine v_incN3 c_55_148 rfl rfl ?_
      refine v_goto c_55_149 ?_
      exact hk _ _ ⟨⟨_, by rw [e2]⟩, by rw [e2]; exact g1, g2, g3⟩
    · cases h2 : (tCl (mH M) p O T i).2.testBit i
      · refine v_il3 c_55_100 ?_
        refine v_al0 c_55_101 ?_
        refine v_gR (n0 := 89) c_55_102 rfl ?_
        refine v_icN (n := 0) c_55_103 rfl ?_
        refine v_aI c_55_104 rfl (by omega) (hM'.1) ?_
        refine v_icmp_ge_F c_55_105 (by omega) (by omega) (by omega) ?_
        refine v_il1 c_55_106 ?_
        refine v_il3 c_55_107 ?_
        refine v_cSi c_55_108 rfl rfl rfl (q_has (by omega) (by omega)) ?_
        refine v_if_eq_fb c_55_109 (h1) ?_
        refine v_il2 c_55_110 ?_
        refine v_il3 c_55_111 ?_
        refine v_cSi c_55_112 rfl rfl rfl (q_has (by omega) (by omega)) ?_
        refine v_if_ne_fb c_55_113 (h2) ?_
        refine v_al0 c_55_114 ?_
        refine v_il3 c_55_115 ?_
        refine v_cVi c_55_116 rfl (by decide) rfl rfl (q_rgw hO128 hP' hp h1) ?_
        refine v_goto c_55_117 ?_
        refine v_is4 c_55_119 rfl ?_
        by_cases c3 : rgF p i = 0
        · have e2 : tCl (mH M) p O T (i + 1) = tCl (mH M) p O T i := by rw [e, h1, h2, c3]; rfl
          refine v_il4 c_55_120 ?_
          refine v_if_eq_t c_55_121 ((by rw [c3]; rfl)) ?_
          refine v_incN3 c_55_148 rfl rfl ?_
          refine v_goto c_55_149 ?_
          exact hk _ _ ⟨⟨_, by rw [e2]⟩, by rw [e2]; exact g1, g2, g3⟩
        · have e2 : tCl (mH M) p O T (i + 1) = (tAdd (mH M) p (tCl (mH M) p O T i).1 (rgF p i), (tCl (mH M) p O T i).2 ||| rgF p i) := by
            rw [e, h1, h2, if_pos]
            simpa using c3
          have hri : tRi (tCl (mH M) p O T i).1 < 7 := by
            obtain ⟨b1, -⟩ := hinv (i + 1) hi
            rw [e2] at b1
            have b2 := b1.2.2.2.2
            have b3 := pc_le (D ||| ((tCl (mH M) p O T i).2 ||| rgF p i))
            have b4 : tRi (tCl (mH M) p O T i).1 + 1 ≤ pc (D ||| ((tCl (mH M) p O T i).2 ||| rgF p i)) := b2
            omega
          have hrO : ∀ x, (rgF p i).testBit x = true → x < mN M := fun x hx => hO x (rgF_in hp h1 c3 hx)
          have hr128 := O_7 h7 hrO
          obtain ⟨q0, q1, q2, q3⟩ := g1
          obtain ⟨u, hu⟩ : ∃ u, u = sI (sI t 100 (tRi (tCl (mH M) p O T i).1) (nI (rgF p i))) 101 (tRi (tCl (mH M) p O T i).1) (nI (tRo (tCl (mH M) p O T i).1)) := ⟨_, rfl⟩
          have fu : FT t u := by rw [hu]; exact (FT.wr (by omega)).tr (FT.wr (by omega))
          have uo : ∀ a, a ≠ 100 → a ≠ 101 → u.1 a = t.1 a := fun a x y => by rw [hu, sI_o y, sI_o x]
          refine v_il4 c_55_120 ?_
          refine v_if_eq_f c_55_121 ((nI_ne0 (by omega) (by omega))) ?_
          refine v_al0 c_55_122 ?_
          refine v_gR (n0 := 100) c_55_123 rfl ?_
          refine v_al0 c_55_124 ?_
          refine v_gI c_55_125 rfl (q0) ?_
          refine v_il4 c_55_126 ?_
          refine v_sI c_55_127 rfl (by omega) ?_
          refine v_al0 c_55_128 ?_
          refine v_gR (n0 := 101) c_55_129 rfl ?_
          refine v_al0 c_55_130 ?_
          refine v_gI c_55_131 rfl (show (sI t 100 _ _).1 88 16 = nI (tRi (tCl (mH M) p O T i).1) by rw [sI_o (by omega)]; exact q0) ?_
          refine v_al0 c_55_132 ?_
          refine v_gI c_55_133 rfl (show (sI t 100 _ _).1 88 17 = nI (tRo (tCl (mH M) p O T i).1) by rw [sI_o (by omega)]; exact q1) ?_
          refine v_sI c_55_134 rfl (by omega) ?_
          rw [← hu]
          have gu : TQ u (mN M) (tCl (mH M) p O T i).1 := by
            refine ⟨by rw [uo 88 (by omega) (by omega)]; exact q0, by rw [uo 88 (by omega) (by omega)]; exact q1, fun j hj => ?_, fun k hk => ?_⟩
            · rw [uo 95 (by omega) (by omega), uo 96 (by omega) (by omega), uo 97 (by omega) (by omega), uo 98 (by omega) (by omega)]; exact q2 j hj
            · have hk : k < tRi (tCl (mH M) p O T i).1 := hk
              obtain ⟨b1, b2⟩ := q3 k hk
              exact ⟨by rw [hu, sI_o (by omega), sI_k (by omega)]; exact b1, by rw [hu, sI_k (by omega), sI_o (by omega)]; exact b2⟩
          refine v_al0 c_55_135 ?_
          refine v_il4 c_55_136 ?_
          refine v_cVV c_55_137 rfl (by decide) rfl rfl (q_fin (hM'.ft fu) hw gu hrO (fun x hx => by rw [uo 99 (by omega) (by omega)]; exact hP' x (rgF_in hp h1 c3 hx)) (fun x hx => rgF_cl c3 hx)) ?_
          rintro v ⟨r1, r2⟩
          refine v_il2 c_55_138 ?_
          refine v_il4 c_55_139 ?_
          refine v_iorN c_55_140 ?_
          refine v_is2 c_55_141 rfl ?_
          refine v_al0 c_55_142 ?_
          refine v_dupr c_55_143 ?_
          refine v_gI c_55_144 rfl (show v.1 88 16 = nI (tRi (tCl (mH M) p O T i).1) by rw [r2.at (by omega), uo 88 (by omega) (by omega)]; exact q0) ?_
          refine v_icN (n := 1) c_55_145 rfl ?_
          refine v_iaddN c_55_146 ?_
          refine v_pI c_55_147 rfl ?_
          refine v_incN3 c_55_148 rfl rfl ?_
          refine v_goto c_55_149 ?_
          refine hk _ _ ⟨⟨_, by rw [e2]⟩, ?_, by rw [sI_o (by omega), r2.at (by omega), uo 99 (by omega) (by omega)]; exact g2, ((g3.tr fu).tr (FT.of r2 (by omega))).tr (FT.fl (by omega))⟩
          rw [e2]
          refine ⟨sI_s, by rw [sI_k (by omega), r2.at (by omega), uo 88 (by omega) (by omega)]; exact q1, fun j hj => ?_, fun k hk => ?_⟩
          · rw [sI_o (by omega), sI_o (by omega), sI_o (by omega), sI_o (by omega), r2.at (a := 98) (by omega), uo 98 (by omega) (by omega)]
            obtain ⟨b1, b2, b3⟩ := r1 j hj
            exact ⟨b1, b2, b3, (q2 j hj).2.2.2⟩
          · have hk : k < tRi (tCl (mH M) p O T i).1 + 1 := hk
            rw [sI_o (by omega), sI_o (by omega), r2.at (a := 100) (by omega), r2.at (a := 101) (by omega)]
            show _ = upd (tTo (tCl (mH M) p O T i).1) (tRi (tCl (mH M) p O T i).1) (nI (rgF p i)) k ∧ _ = upd (tRr (tCl (mH M) p O T i).1) (tRi (tCl (mH M) p O T i).1) (nI (tRo (tCl (mH M) p O T i).1)) k
            by_cases ek : k = tRi (tCl (mH M) p O T i).1
            · subst ek
              rw [pk_us, pk_us, hu]
              exact ⟨by rw [sI_o (by omega), sI_s], sI_s⟩
            · obtain ⟨b1, b2⟩ := q3 k (by omega)
              rw [pk_un ek, pk_un ek, hu]
              exact ⟨by rw [sI_o (by omega), sI_k ek]; exact b1, by rw [sI_k ek, sI_o (by omega)]; exact b2⟩
      · have e2 : tCl (mH M) p O T (i + 1) = tCl (mH M) p O T i := by rw [e, h1, h2]; rfl
        refine v_il3 c_55_100 ?_
        refine v_al0 c_55_101 ?_
        refine v_gR (n0 := 89) c_55_102 rfl ?_
        refine v_icN (n := 0) c_55_103 rfl ?_
        refine v_aI c_55_104 rfl (by omega) (hM'.1) ?_
        refine v_icmp_ge_F c_55_105 (by omega) (by omega) (by omega) ?_
        refine v_il1 c_55_106 ?_
        refine v_il3 c_55_107 ?_
        refine v_cSi c_55_108 rfl rfl rfl (q_has (by omega) (by omega)) ?_
        refine v_if_eq_fb c_55_109 (h1) ?_
        refine v_il2 c_55_110 ?_
        refine v_il3 c_55_111 ?_
        refine v_cSi c_55_112 rfl rfl rfl (q_has (by omega) (by omega)) ?_
        refine v_if_ne_tb c_55_113 (h2) ?_
        refine v_icN (n := 0) c_55_118 rfl ?_
        refine v_is4 c_55_119 rfl ?_
        refine v_il4 c_55_120 ?_
        refine v_if_eq_T c_55_121 (by omega) (by omega) ?_
        refine v_incN3 c_55_148 rfl rfl ?_
        refine v_goto c_55_149 ?_
        exact hk _ _ ⟨⟨_, by rw [e2]⟩, by rw [e2]; exact g1, g2, g3⟩
  · rintro ls t ⟨⟨y, rfl⟩, g1, g2, g3⟩
    have hM' := hM.ft g3
    refine v_il3 c_55_100 ?_
    refine v_al0 c_55_101 ?_
    refine v_gR (n0 := 89) c_55_102 rfl ?_
    refine v_icN (n := 0) c_55_103 rfl ?_
    refine v_aI c_55_104 rfl (by omega) (hM'.1) ?_
    refine v_icmp_ge_T c_55_105 (by omega) (by omega) (by omega) ?_
    exact k t _ _ g1 g3
theorem q_fnd0 (hM : QM (s.1 89) M) (hw : MW M) : CC sc 55 [.ref 88] s (QV fun t => TQ t (mN M) (tF (mN M) (mR M) (mH M) (mP M)) ∧ FT s t) := by
  refine cc_of ml_55 rfl rfl ?_
  have h7 := hw.1
  refine v_icN (n := 0) c_55_0 rfl ?_
  refine v_is1 c_55_1 rfl ?_
  refine v_icN (n := 0) c_55_2 rfl ?_
  refine v_is2 c_55_3 rfl ?_
  refine vv_forS (mN M) (fun i ls t => (∃ y3 y4, ls = [some (.ref 88), some (.int (nI (orS (fun i => if (mL M).testBit i then 0 else 1 * 2 ^ i) i))), some (.int (nI i)), y3, y4]) ∧ (∀ j, j < i → t.1 95 j = -9 ∧ t.1 96 j = -9 ∧ t.1 97 j = -9 ∧ t.1 98 j = -9) ∧ FT s t) ?_ ?_ _ _ ⟨⟨none, none, rfl⟩, fun j hj => absurd hj (by omega), FT.rf⟩
  · rintro i ls t hi ⟨⟨y3, y4, rfl⟩, g1, g2⟩ hk
    have hM' := hM.ft g2
    have nx : ∀ j, j < i + 1 → (sI (sI (sI (sI t 95 i (-9)) 96 i (-9)) 97 i (-9)) 98 i (-9)).1 95 j = -9 ∧ (sI (sI (sI (sI t 95 i (-9)) 96 i (-9)) 97 i (-9)) 98 i (-9)).1 96 j = -9 ∧ (sI (sI (sI (sI t 95 i (-9)) 96 i (-9)) 97 i (-9)) 98 i (-9)).1 97 j = -9 ∧ (sI (sI (sI (sI t 95 i (-9)) 96 i (-9)) 97 i (-9)) 98 i (-9)).1 98 j = -9 := by
      intro j hj
      by_cases e : j = i
      · subst e
        refine ⟨?_, ?_, ?_, ?_⟩
        · rw [sI_o (by omega), sI_o (by omega), sI_o (by omega), sI_s]
        · rw [sI_o (by omega), sI_o (by omega), sI_s]
        · rw [sI_o (by omega), sI_s]
        · rw [sI_s]
      · obtain ⟨b1, b2, b3, b4⟩ := g1 j (by omega)
        refine ⟨?_, ?_, ?_, ?_⟩
        · rw [sI_o (by omega), sI_o (by omega), sI_o (by omega), sI_k e]; exact b1
        · rw [sI_o (by omega), sI_o (by omega), sI_k e, sI_o (by omega)]; exact b2
        · rw [sI_o (by omega), sI_k e, sI_o (by omega), sI_o (by omega)]; exact b3
        · rw [sI_k e, sI_o (by omega), sI_o (by omega), sI_o (by omega)]; exact b4
    have fx : FT s (sI (sI (sI (sI t 95 i (-9)) 96 i (-9)) 97 i (-9)) 98 i (-9)) := (((g2.tr (FT.wr (by omega))).tr (FT.wr (by omega))).tr (FT.wr (by omega))).tr (FT.wr (by omega))
    cases h1 : (mL M).testBit i
    · refine v_il2 c_55_4 ?_
      refine v_al0 c_55_5 ?_
      refine v_gR (n0 := 89) c_55_6 rfl ?_
      refine v_icN (n := 0) c_55_7 rfl ?_
      refine v_aI c_55_8 rfl (by omega) (hM'.1) ?_
      refine v_icmp_ge_F c_55_9 (by omega) (by omega) (by omega) ?_
      refine v_il1 c_55_10 ?_
      refine v_al0 c_55_11 ?_
      refine v_il2 c_55_12 ?_
      refine v_cVi c_55_13 rfl (by decide) rfl rfl (q_isP hM' hw (by omega)) ?_
      refine v_if_eq_fb c_55_14 ((by rw [h1]; rfl)) ?_
      refine v_icN (n := 1) c_55_15 rfl ?_
      refine v_il2 c_55_16 ?_
      refine v_ishlN c_55_17 (by omega) ?_
      refine v_goto c_55_18 ?_
      refine v_iorN c_55_20 ?_
      refine v_is1 c_55_21 rfl ?_
      refine v_al0 c_55_22 ?_
      refine v_gR (n0 := 95) c_55_23 rfl ?_
      refine v_il2 c_55_24 ?_
      refine v_bp c_55_25 ?_
      refine v_sI c_55_26 rfl (by omega) ?_
      refine v_al0 c_55_27 ?_
      refine v_gR (n0 := 96) c_55_28 rfl ?_
      refine v_il2 c_55_29 ?_
      refine v_bp c_55_30 ?_
      refine v_sI c_55_31 rfl (by omega) ?_
      refine v_al0 c_55_32 ?_
      refine v_gR (n0 := 97) c_55_33 rfl ?_
      refine v_il2 c_55_34 ?_
      refine v_bp c_55_35 ?_
      refine v_sI c_55_36 rfl (by omega) ?_
      refine v_al0 c_55_37 ?_
      refine v_gR (n0 := 98) c_55_38 rfl ?_
      refine v_il2 c_55_39 ?_
      refine v_bp c_55_40 ?_
      refine v_sI c_55_41 rfl (by omega) ?_
      refine v_incN2 c_55_42 rfl rfl ?_
      refine v_goto c_55_43 ?_
      exact hk _ _ ⟨⟨y3, y4, by rw [orS_s, h1]; rfl⟩, nx, fx⟩
    · refine v_il2 c_55_4 ?_
      refine v_al0 c_55_5 ?_
      refine v_gR (n0 := 89) c_55_6 rfl ?_
      refine v_icN (n := 0) c_55_7 rfl ?_
      refine v_aI c_55_8 rfl (by omega) (hM'.1) ?_
      refine v_icmp_ge_F c_55_9 (by omega) (by omega) (by omega) ?_
      refine v_il1 c_55_10 ?_
      refine v_al0 c_55_11 ?_
      refine v_il2 c_55_12 ?_
      refine v_cVi c_55_13 rfl (by decide) rfl rfl (q_isP hM' hw (by omega)) ?_
      refine v_if_eq_tb c_55_14 ((by rw [h1]; rfl)) ?_
      refine v_icN (n := 0) c_55_19 rfl ?_
      refine v_iorN c_55_20 ?_
      refine v_is1 c_55_21 rfl ?_
      refine v_al0 c_55_22 ?_
      refine v_gR (n0 := 95) c_55_23 rfl ?_
      refine v_il2 c_55_24 ?_
      refine v_bp c_55_25 ?_
      refine v_sI c_55_26 rfl (by omega) ?_
      refine v_al0 c_55_27 ?_
      refine v_gR (n0 := 96) c_55_28 rfl ?_
      refine v_il2 c_55_29 ?_
      refine v_bp c_55_30 ?_
      refine v_sI c_55_31 rfl (by omega) ?_
      refine v_al0 c_55_32 ?_
      refine v_gR (n0 := 97) c_55_33 rfl ?_
      refine v_il2 c_55_34 ?_
      refine v_bp c_55_35 ?_
      refine v_sI c_55_36 rfl (by omega) ?_
      refine v_al0 c_55_37 ?_
      refine v_gR (n0 := 98) c_55_38 rfl ?_
      refine v_il2 c_55_39 ?_
      refine v_bp c_55_40 ?_
      refine v_sI c_55_41 rfl (by omega) ?_
      refine v_incN2 c_55_42 rfl rfl ?_
      refine v_goto c_55_43 ?_
      exact hk _ _ ⟨⟨y3, y4, by rw [orS_s, h1]; rfl⟩, nx, fx⟩
  · rintro ls t ⟨⟨y3, y4, rfl⟩, g1, g2⟩
    have hM' := hM.ft g2
    rw [mP_or]
    have hO : ∀ x, (mP M).testBit x = true → x < mN M := fun x hx => by
      rw [mP_tb, Bool.and_eq_true, decide_eq_true_eq] at hx
      exact hx.1
    have hall := tRs_ok (rk := mR M) h7 hw.2.2.2.1 hw.2.2.2.2 hO
    refine v_il2 c_55_4 ?_
    refine v_al0 c_55_5 ?_
    refine v_gR (n0 := 89) c_55_6 rfl ?_
    refine v_icN (n := 0) c_55_7 rfl ?_
    refine v_aI c_55_8 rfl (by omega) (hM'.1) ?_
    refine v_icmp_ge_T c_55_9 (by omega) (by omega) (by omega) ?_
    refine v_al0 c_55_44 ?_
    refine v_icN (n := 0) c_55_45 rfl ?_
    refine v_pI c_55_46 rfl ?_
    refine v_al0 c_55_47 ?_
    refine v_icN (n := 0) c_55_48 rfl ?_
    refine v_pI c_55_49 rfl ?_
    refine vv_while (fun z ls t => (∃ k y2 y3 y4, k ≤ 7 ∧ z = pc (tRs (mN M) (mR M) (mH M) (mP M) k).2 ∧ ls = [some (.ref 88), some (.int (nI (tRs (mN M) (mR M) (mH M) (mP M) k).2)), y2, y3, y4] ∧ TQ t (mN M) (tRs (mN M) (mR M) (mH M) (mP M) k).1) ∧ FT s t) ?_ _ _ _ ⟨⟨0, _, _, _, by omega, rfl, rfl, ⟨by rw [sI_k (by omega), sI_s]; rfl, sI_s, fun i hi => by rw [sI_o (by omega), sI_o (by omega), sI_o (by omega), sI_o (by omega), sI_o (by omega), sI_o (by omega), sI_o (by omega), sI_o (by omega)]; exact g1 i hi, fun k hk => absurd hk (Nat.not_lt_zero _)⟩⟩, (g2.tr (FT.fl (by omega))).tr (FT.fl (by omega))⟩
    rintro z ls t ⟨⟨k, y2, y3, y4, hk7, rfl, rfl, g1⟩, g2⟩ hk
    obtain ⟨D, a1, a2, a3, a4, a5, a6⟩ := hall k
    have hM' := hM.ft g2
    by_cases c : (tRs (mN M) (mR M) (mH M) (mP M) k).2 = 0
    · refine v_il1 c_55_50 ?_
      refine v_if_eq_T c_55_51 (c) (by omega) ?_
      refine v_rv c_55_163 ?_
      refine ⟨rfl, ?_, g2⟩
      have e := tRs_stop c (7 - k)
      rw [show k + (7 - k) = 7 by omega] at e
      unfold tF
      rw [e]
      exact g1
    · have hpos : 0 < pc (tRs (mN M) (mR M) (mH M) (mP M) k).2 := by
        rcases Nat.eq_zero_or_pos (pc (tRs (mN M) (mR M) (mH M) (mP M) k).2) with h | h
        · exact absurd (pc_0 _ a4 h) c
        · exact h
      have hk1 : k + 1 ≤ 7 := by omega
      obtain ⟨q, hq⟩ : ∃ q, q = tRs (mN M) (mR M) (mH M) (mP M) k := ⟨_, rfl⟩
      have e9 : tRs (mN M) (mR M) (mH M) (mP M) (k + 1) = tRd (mN M) (mR M) (mH M) q := by rw [hq]; rfl
      rw [← hq] at g1 a1 a2 a3 a4 a5 a6 c hpos ⊢
      obtain ⟨p, hp⟩ : ∃ p, p = chs (mN M) (mR M) (mH M) q.2 := ⟨_, rfl⟩
      have hqO : ∀ x, q.2.testBit x = true → x < mN M := fun x hx => hO x ((a2 x).mp (Or.inr hx))
      have hpc : ∀ x, q.2.testBit x = true → q.2.testBit (p x) = true := fun x hx => by rw [hp]; exact (chs_in (hqO x hx) hx).2
      have e2 : tRd (mN M) (mR M) (mH M) q = (((tCl (mH M) p q.2 (tFs p q.2 q.1) (mN M)).1.1, (tCl (mH M) p q.2 (tFs p q.2 q.1) (mN M)).1.2.1 + 1, (tCl (mH M) p q.2 (tFs p q.2 q.1) (mN M)).1.2.2), zdf q.2 (tCl (mH M) p q.2 (tFs p q.2 q.1) (mN M)).2) := by
        rw [hp]
        exact if_neg c
      have a6' : tRo q.1 ≤ k := a6
      refine v_il1 c_55_50 ?_
      refine v_if_eq_F c_55_51 (c) (by omega) ?_
      refine q_rd1 hM' hw g1 (by omega) hqO _ _ _ fun t2 y2 u1 u2 u3 => ?_
      rw [← hp] at u1 u2
      have f2 : FT t t2 := FT.of u3 (by omega)
      refine q_rd2 (hM'.ft f2) hw u1 (TI.first a1) (fun x hx => hO x ((a2 x).mp (Or.inl hx))) hqO a3 hpc u2 _ _ _ fun t3 y3 y4 v1 v2 => ?_
      refine v_il1 c_55_150 ?_
      refine v_il2 c_55_151 ?_
      refine v_ic c_55_152 ?_
      refine v_ixor c_55_153 ?_
      refine v_iand c_55_154 ?_
      refine v_is1 c_55_155 rfl ?_
      refine v_al0 c_55_156 ?_
      refine v_dupr c_55_157 ?_
      refine v_gI c_55_158 rfl (v1.2.1) ?_
      refine v_icN (n := 1) c_55_159 rfl ?_
      refine v_iaddN c_55_160 ?_
      refine v_pI c_55_161 rfl ?_
      refine v_goto c_55_162 ?_
      rw [nI_not]
      refine hk (pc (tRs (mN M) (mR M) (mH M) (mP M) (k + 1)).2) _ _ ?_ ⟨⟨k + 1, _, _, _, hk1, rfl, by rw [e9, e2], ?_⟩, ((g2.tr f2).tr v2).tr (FT.fl (by omega))⟩
      · rw [e9, e2, ← hq]
        obtain ⟨x0, hx0⟩ := Nat.exists_testBit_of_ne_zero c
        obtain ⟨j, j1, j2⟩ := rgF_ex a4 hpc hx0
        obtain ⟨y1, y2, y3, y4, y5, y6⟩ := tCl_ok h7 hw.2.2.2.1 hw.2.2.2.2 (TI.first (p := p) (O := q.2) a1) (fun x hx => hO x ((a2 x).mp (Or.inl hx))) hqO a3 hpc (mN M) (Nat.le_refl _)
        have hdj2 := y4 j (hqO j j1) j1 j2
        refine pc_zdf _ a4 _ (tb_sub (n := 7) a4 y2) fun z => ?_
        have : (q.2 &&& (tCl (mH M) p q.2 (tFs p q.2 q.1) (mN M)).2).testBit j = true := by rw [Nat.testBit_and, j1, hdj2]; rfl
        rw [z] at this
        simp at this
      · rw [e9, e2]
        obtain ⟨w0, w1, w2, w3⟩ := v1
        refine ⟨by rw [sI_k (by omega)]; exact w0, sI_s, fun i hi => ?_, fun k hk => ?_⟩
        · rw [sI_o (by omega), sI_o (by omega), sI_o (by omega), sI_o (by omega)]; exact w2 i hi
        · rw [sI_o (by omega), sI_o (by omega)]; exact w3 k hk
theorem q_fnd (hM : QM (s.1 89) M) (hw : MW M) : CC sc 55 [.ref 88] s (QV fun t => TQ t (mN M) (tF (mN M) (mR M) (mH M) (mP M)) ∧ FW s t) := (q_fnd0 hM hw).mono fun o t h => ⟨h.1, h.2.1, h.2.2.1⟩
end TQT
