/-! SHARING: the class's counting -/
def lkB (M : zM) (how i : Nat) : Nat := orS (fun t => if lkM M how i t then 2 ^ t else 0) (mN M)
theorem orT_tb {c : Nat → Bool} {n x : Nat} : (orS (fun t => if c t then 2 ^ t else 0) n).testBit x = (decide (x < n) && c x) := by
  cases e : decide (x < n) && c x
  · cases e2 : (orS (fun t => if c t then 2 ^ t else 0) n).testBit x
    · rfl
    · obtain ⟨i, h1, h2⟩ := (orS_tb n).mp e2
      cases h3 : c i
      · rw [h3] at h2; simp at h2
      · rw [h3, if_pos rfl, Nat.testBit_two_pow] at h2
        have h4 : i = x := of_decide_eq_true h2
        subst h4
        rw [h3, decide_eq_true h1] at e
        cases e
  · rw [Bool.and_eq_true, decide_eq_true_eq] at e
    refine (orS_tb n).mpr ⟨x, e.1, ?_⟩
    rw [e.2, if_pos rfl, Nat.testBit_two_pow_self]
theorem lkB_tb (M : zM) (how i x : Nat) : (lkB M how i).testBit x = (decide (x < mN M) && lkM M how i x) := orT_tb
theorem lkB_lt (M : zM) (hw : MW M) (how i : Nat) : lkB M how i < 128 := O_7 hw.1 fun x hx => by
  rw [lkB_tb, Bool.and_eq_true, decide_eq_true_eq] at hx
  exact hx.1
theorem lkB_or (M : zM) (i : Nat) : lkB M 2 i ||| lkB M 1 i = lkB M 0 i := by
  apply Nat.eq_of_testBit_eq
  intro x
  rw [Nat.testBit_or, lkB_tb, lkB_tb, lkB_tb]
  cases decide (x < mN M)
  · rfl
  · show (decide (mR M i x < mR M i (mH M i)) || decide (mR M i x = mR M i (mH M i))) = decide (mR M i x ≤ mR M i (mH M i))
    rw [← Bool.decide_or]
    exact decide_eq_decide.mpr (by omega)
def LKS (s : zv_S) (M : zM) : Prop := ∀ i, i < mN M → s.1 78 i = nI (lkB M 2 i) ∧ s.1 79 i = nI (lkB M 1 i) ∧ s.1 80 i = nI (lkB M 0 i)
def LN (s : zv_S) (S n : Nat) : Prop := s.1 77 4 = nI (bS S n) ∧ ∀ k, k < bS S n → s.1 81 k = nI (selF S n k)
section SC
variable {sc : Nat × (Nat → Int32)} {s : zv_S} {m : Nat} {M : zM}
theorem s_lik (hm : isM m = true) (hmr : m + 3 ≤ 77 ∨ 83 ≤ m) (hM : MK s m M) (hw : MW M) : CC sc 158 [.ref 77, .ref m] s (QV fun t => LKS t M ∧ FR 78 81 s t) := by
  refine cc_of ml_158 rfl rfl ?_
  have h7 := hw.1
  refine v_icN (n := 0) c_158_0 rfl ?_
  refine v_is2 c_158_1 rfl ?_
  refine vv_forS (mN M) (fun i ls t => (∃ y3 y4 y5 y6, ls = [some (.ref 77), some (.ref m), some (.int (nI i)), y3, y4, y5, y6]) ∧ (∀ j, j < i → t.1 78 j = nI (lkB M 2 j) ∧ t.1 79 j = nI (lkB M 1 j) ∧ t.1 80 j = nI (lkB M 0 j)) ∧ FR 78 81 s t) ?_ ?_ _ _ ⟨⟨none, none, none, none, rfl⟩, fun j hj => absurd hj (by omega), FR.rf⟩
  · rintro i ls t hi ⟨⟨y3, y4, y5, y6, rfl⟩, g1, g2⟩ hk
    have hM' := hM.fr g2 (by omega)
    have bi := hw.2.2.2.1 i hi
    have e1 := hw.2.2.1 i _ hi bi
    refine v_il2 c_158_2 ?_
    refine v_al1 c_158_3 ?_
    refine v_gI c_158_4 (kM_f0 hm) (hM'.1) ?_
    refine v_icmp_ge_F c_158_5 (by omega) (by omega) (by omega) ?_
    refine v_icN (n := 0) c_158_6 rfl ?_
    refine v_is3 c_158_7 rfl ?_
    refine v_icN (n := 0) c_158_8 rfl ?_
    refine v_is4 c_158_9 rfl ?_
    refine v_icN (n := 0) c_158_10 rfl ?_
    refine v_is5 c_158_11 rfl ?_
    refine vv_forS (mN M) (fun j ls u => (∃ y6, ls = [some (.ref 77), some (.ref m), some (.int (nI i)), some (.int (nI (orS (fun t => if lkM M 2 i t then 2 ^ t else 0) j))), some (.int (nI (orS (fun t => if lkM M 1 i t then 2 ^ t else 0) j))), some (.int (nI j)), y6]) ∧ u = t) ?_ ?_ _ _ ⟨⟨y6, rfl⟩, rfl⟩
    · rintro j ls u hj ⟨⟨y6, rfl⟩, rfl⟩ hkk
      have e2 := hw.2.2.1 i j hi hj
      have l2 : lkM M 2 i j = decide (mR M i j < mR M i (mH M i)) := rfl
      have l1 : lkM M 1 i j = decide (mR M i j = mR M i (mH M i)) := rfl
      rcases Nat.lt_trichotomy (mR M i j) (mR M i (mH M i)) with c | c | c
      · have q2 : orS (fun t => if lkM M 2 i t then 2 ^ t else 0) (j + 1) = orS (fun t => if lkM M 2 i t then 2 ^ t else 0) j ||| 2 ^ j := by rw [orS_s, l2, decide_eq_true c]; rfl
        have q1 : orS (fun t => if lkM M 1 i t then 2 ^ t else 0) (j + 1) = orS (fun t => if lkM M 1 i t then 2 ^ t else 0) j := by rw [orS_s, l1, decide_eq_false (by omega)]; simp
        rw [q2, q1] at hkk
        refine v_il5 c_158_12 ?_
        refine v_al1 c_158_13 ?_
        refine v_gI c_158_14 (kM_f0 hm) (hM'.1) ?_
        refine v_icmp_ge_F c_158_15 (by omega) (by omega) (by omega) ?_
        refine v_al1 c_158_16 ?_
        refine v_il2 c_158_17 ?_
        refine v_il5 c_158_18 ?_
        refine v_cVi c_158_19 rfl (kM_lt hm) (kM_is hm) rfl (k_lss hm hM' hw hi hj) ?_
        refine v_is6 c_158_20 rfl ?_
        refine v_il6 c_158_21 ?_
        refine v_if_ge_f c_158_22 ((fun z => absurd ((ls_ge e2 e1).mp z) (by omega))) ?_
        refine v_il3 c_158_23 ?_
        refine v_il5 c_158_24 ?_
        refine v_cSi c_158_25 rfl rfl rfl (k_bit (by omega)) ?_
        refine v_iorN c_158_26 ?_
        refine v_is3 c_158_27 rfl ?_
        refine v_goto c_158_28 ?_
        refine v_incN5 c_158_36 rfl rfl ?_
        refine v_goto c_158_37 ?_
        exact hkk _ _ ⟨⟨_, rfl⟩, rfl⟩
      · have q2 : orS (fun t => if lkM M 2 i t then 2 ^ t else 0) (j + 1) = orS (fun t => if lkM M 2 i t then 2 ^ t else 0) j := by rw [orS_s, l2, decide_eq_false (by omega)]; simp
        have q1 : orS (fun t => if lkM M 1 i t then 2 ^ t else 0) (j + 1) = orS (fun t => if lkM M 1 i t then 2 ^ t else 0) j ||| 2 ^ j := by rw [orS_s, l1, decide_eq_true c]; rfl
        rw [q2, q1] at hkk
        refine v_il5 c_158_12 ?_
        refine v_al1 c_158_13 ?_
        refine v_gI c_158_14 (kM_f0 hm) (hM'.1) ?_
        refine v_icmp_ge_F c_158_15 (by omega) (by omega) (by omega) ?_
        refine v_al1 c_158_16 ?_
        refine v_il2 c_158_17 ?_
        refine v_il5 c_158_18 ?_
        refine v_cVi c_158_19 rfl (kM_lt hm) (kM_is hm) rfl (k_lss hm hM' hw hi hj) ?_
        refine v_is6 c_158_20 rfl ?_
        refine v_il6 c_158_21 ?_
        refine v_if_ge_t c_158_22 (((ls_ge e2 e1).mpr (by omega))) ?_
        refine v_il6 c_158_29 ?_
        refine v_if_ne_f c_158_30 (((ls_eq e2 e1).mpr c)) ?_
        refine v_il4 c_158_31 ?_
        refine v_il5 c_158_32 ?_
        refine v_cSi c_158_33 rfl rfl rfl (k_bit (by omega)) ?_
        refine v_iorN c_158_34 ?_
        refine v_is4 c_158_35 rfl ?_
        refine v_incN5 c_158_36 rfl rfl ?_
        refine v_goto c_158_37 ?_
        exact hkk _ _ ⟨⟨_, rfl⟩, rfl⟩
      · have q2 : orS (fun t => if lkM M 2 i t then 2 ^ t else 0) (j + 1) = orS (fun t => if lkM M 2 i t then 2 ^ t else 0) j := by rw [orS_s, l2, decide_eq_false (by omega)]; simp
        have q1 : orS (fun t => if lkM M 1 i t then 2 ^ t else 0) (j + 1) = orS (fun t => if lkM M 1 i t then 2 ^ t else 0) j := by rw [orS_s, l1, decide_eq_false (by omega)]; simp
        rw [q2, q1] at hkk
        refine v_il5 c_158_12 ?_
        refine v_al1 c_158_13 ?_
        refine v_gI c_158_14 (kM_f0 hm) (hM'.1) ?_
        refine v_icmp_ge_F c_158_15 (by omega) (by omega) (by omega) ?_
        refine v_al1 c_158_16 ?_
        refine v_il2 c_158_17 ?_
        refine v_il5 c_158_18 ?_
        refine v_cVi c_158_19 rfl (kM_lt hm) (kM_is hm) rfl (k_lss hm hM' hw hi hj) ?_
        refine v_is6 c_158_20 rfl ?_
        refine v_il6 c_158_21 ?_
        refine v_if_ge_t c_158_22 (((ls_ge e2 e1).mpr (by omega))) ?_
        refine v_il6 c_158_29 ?_
        refine v_if_ne_t c_158_30 ((fun z => absurd ((ls_eq e2 e1).mp z) (by omega))) ?_
        refine v_incN5 c_158_36 rfl rfl ?_
        refine v_goto c_158_37 ?_
        exact hkk _ _ ⟨⟨_, rfl⟩, rfl⟩
    · rintro ls u ⟨⟨y6, rfl⟩, rfl⟩
      refine v_il5 c_158_12 ?_
      refine v_al1 c_158_13 ?_
      refine v_gI c_158_14 (kM_f0 hm) (hM'.1) ?_
      refine v_icmp_ge_T c_158_15 (by omega) (by omega) (by omega) ?_
      refine v_al0 c_158_38 ?_
      refine v_gR (n0 := 78) c_158_39 rfl ?_
      refine v_il2 c_158_40 ?_
      refine v_il3 c_158_41 ?_
      refine v_put c_158_42 rfl (by omega) rfl ?_
      refine v_al0 c_158_43 ?_
      refine v_gR (n0 := 79) c_158_44 rfl ?_
      refine v_il2 c_158_45 ?_
      refine v_il4 c_158_46 ?_
      refine v_put c_158_47 rfl (by omega) rfl ?_
      refine v_al0 c_158_48 ?_
      refine v_gR (n0 := 80) c_158_49 rfl ?_
      refine v_il2 c_158_50 ?_
      refine v_il3 c_158_51 ?_
      refine v_il4 c_158_52 ?_
      refine v_iorN c_158_53 ?_
      refine v_put c_158_54 rfl (by omega) rfl ?_
      refine v_incN2 c_158_55 rfl rfl ?_
      refine v_goto c_158_56 ?_
      refine hk _ _ ⟨⟨_, _, _, _, rfl⟩, fun k hk => ?_, ((g2.tr (FR.sI (by omega) (by omega))).tr (FR.sI (by omega) (by omega))).tr (FR.sI (by omega) (by omega))⟩
      by_cases e : k = i
      · subst e
        exact ⟨by rw [sI_o (by omega), sI_o (by omega), sI_s]; rfl, by rw [sI_o (by omega), sI_s]; rfl, by rw [sI_s]; exact congrArg nI (lkB_or M k)⟩
      · obtain ⟨b1, b2, b3⟩ := g1 k (by omega)
        exact ⟨by rw [sI_o (by omega), sI_o (by omega), sI_k e]; exact b1, by rw [sI_o (by omega), sI_k e, sI_o (by omega)]; exact b2, by rw [sI_k e, sI_o (by omega), sI_o (by omega)]; exact b3⟩
  · rintro ls t ⟨⟨y3, y4, y5, y6, rfl⟩, g1, g2⟩
    have hM' := hM.fr g2 (by omega)
    refine v_il2 c_158_2 ?_
    refine v_al1 c_158_3 ?_
    refine v_gI c_158_4 (kM_f0 hm) (hM'.1) ?_
    refine v_icmp_ge_T c_158_5 (by omega) (by omega) (by omega) ?_
    exact v_rv c_158_57 ⟨rfl, ⟨g1, g2⟩⟩
theorem s_lin (hm : isM m = true) (hmr : m + 3 ≤ 77 ∨ 83 ≤ m) (hM : MK s m M) (hw : MW M) {S : Nat} (hS : S < 128) : CC sc 159 [.ref 77, .ref m, .int (nI S)] s (QV fun t => LN t S (mN M) ∧ (∀ a, a ≠ 77 → a ≠ 81 → t.1 a = s.1 a) ∧ FR 77 82 s t) := by
  refine cc_of ml_159 rfl rfl ?_
  have h7 := hw.1
  refine v_al0 c_159_0 ?_
  refine v_icN (n := 0) c_159_1 rfl ?_
  refine v_pI c_159_2 rfl ?_
  refine v_icN (n := 0) c_159_3 rfl ?_
  refine v_is3 c_159_4 rfl ?_
  refine vv_forS (mN M) (fun i ls t => ls = [some (.ref 77), some (.ref m), some (.int (nI S)), some (.int (nI i))] ∧ LN t S i ∧ (∀ a, a ≠ 77 → a ≠ 81 → t.1 a = s.1 a) ∧ FR 77 82 s t) ?_ ?_ _ _ ⟨rfl, ⟨by rw [sI_s]; rfl, fun k hk => absurd hk (Nat.not_lt_zero _)⟩, fun a x y => sI_o x, FR.sI (by omega) (by omega)⟩
  · rintro i ls t hi ⟨rfl, ⟨g1, g2⟩, g3, g4⟩ hk
    have hM' := hM.fr g4 (by omega)
    have hb : bS S i ≤ i := cnt_le _ i
    cases h1 : S.testBit i
    · refine v_il3 c_159_5 ?_
      refine v_al1 c_159_6 ?_
      refine v_gI c_159_7 (kM_f0 hm) (hM'.1) ?_
      refine v_icmp_ge_F c_159_8 (by omega) (by omega) (by omega) ?_
      refine v_il2 c_159_9 ?_
      refine v_il3 c_159_10 ?_
      refine v_cSi c_159_11 rfl rfl rfl (k_con (by omega) (by omega)) ?_
      refine v_if_eq_tb c_159_12 (h1) ?_
      refine v_incN3 c_159_25 rfl rfl ?_
      refine v_goto c_159_26 ?_
      refine hk _ _ ⟨rfl, ⟨by rw [bS_f h1]; exact g1, fun k hk => ?_⟩, g3, g4⟩
      rw [bS_f h1] at hk
      rw [g2 k hk]
      show _ = nI (if S.testBit i && decide (k = bS S i) then i else selF S i k)
      rw [h1]; rfl
    · refine v_il3 c_159_5 ?_
      refine v_al1 c_159_6 ?_
      refine v_gI c_159_7 (kM_f0 hm) (hM'.1) ?_
      refine v_icmp_ge_F c_159_8 (by omega) (by omega) (by omega) ?_
      refine v_il2 c_159_9 ?_
      refine v_il3 c_159_10 ?_
      refine v_cSi c_159_11 rfl rfl rfl (k_con (by omega) (by omega)) ?_
      refine v_if_eq_fb c_159_12 (h1) ?_
      refine v_al0 c_159_13 ?_
      refine v_gR (n0 := 81) c_159_14 rfl ?_
      refine v_al0 c_159_15 ?_
      refine v_gI c_159_16 rfl (g1) ?_
      refine v_il3 c_159_17 ?_
      refine v_put c_159_18 rfl (by omega) rfl ?_
      refine v_al0 c_159_19 ?_
      refine v_dupr c_159_20 ?_
      refine v_gI c_159_21 rfl (show (sI t 81 _ _).1 77 4 = nI (bS S i) by rw [sI_o (by omega)]; exact g1) ?_
      refine v_icN (n := 1) c_159_22 rfl ?_
      refine v_iaddN c_159_23 ?_
      refine v_pI c_159_24 rfl ?_
      refine v_incN3 c_159_25 rfl rfl ?_
      refine v_goto c_159_26 ?_
      refine hk _ _ ⟨rfl, ⟨by rw [bS_t h1, sI_s], fun k hk => ?_⟩, fun a x y => by rw [sI_o x, sI_o y]; exact g3 a x y, (g4.tr (FR.sI (by omega) (by omega))).tr (FR.sI (by omega) (by omega))⟩
      rw [bS_t h1] at hk
      show _ = nI (if S.testBit i && decide (k = bS S i) then i else selF S i k)
      rw [h1, Bool.true_and, sI_o (by omega)]
      by_cases e : k = bS S i
      · rw [e, decide_eq_true rfl, if_pos rfl, sI_s]
      · rw [decide_eq_false e, if_neg (by decide), sI_k e]
        exact g2 k (by omega)
  · rintro ls t ⟨rfl, g1, g3, g4⟩
    have hM' := hM.fr g4 (by omega)
    refine v_il3 c_159_5 ?_
    refine v_al1 c_159_6 ?_
    refine v_gI c_159_7 (kM_f0 hm) (hM'.1) ?_
    refine v_icmp_ge_T c_159_8 (by omega) (by omega) (by omega) ?_
    exact v_rv c_159_27 ⟨rfl, ⟨g1, g3, g4⟩⟩
theorem any_s (j : Nat) (p : Nat → Bool) : (List.range (j + 1)).any p = ((List.range j).any p || p j) := by
  rw [List.range_succ, List.any_append]
  simp
theorem s_spr {T O th w : Nat} {f : Nat → Nat} (hth : th < 128) (hO : O < 128) (hOT : ∀ t, O.testBit t = true → T.testBit t = false ∧ T ||| 2 ^ t ≤ th) (hf : ∀ X, X ≤ th → s.1 82 X = nI (f X)) :
    CC sc 161 [.ref 77, .int (nI T), .int (nI w), .int (nI O)] s (QV fun t => (∀ X, X ≤ th → t.1 82 X = nI (f X + (if (List.range 7).any (fun t => O.testBit t && decide (X = T ||| 2 ^ t)) then w else 0))) ∧ FR 82 83 s t) := by
  refine cc_of ml_161 rfl rfl ?_
  refine v_icN (n := 0) c_161_0 rfl ?_
  refine v_is4 c_161_1 rfl ?_
  refine vv_forS 7 (fun j ls u => (∃ y, ls = [some (.ref 77), some (.int (nI T)), some (.int (nI w)), some (.int (nI O)), some (.int (nI j)), y]) ∧ (∀ X, X ≤ th → u.1 82 X = nI (f X + (if (List.range j).any (fun t => O.testBit t && decide (X = T ||| 2 ^ t)) then w else 0))) ∧ FR 82 83 s u) ?_ ?_ _ _ ⟨⟨none, rfl⟩, fun X hX => hf X hX, FR.rf⟩
  · rintro j ls u hj ⟨⟨y, rfl⟩, g1, g2⟩ hk
    cases h1 : O.testBit j
    · refine v_il4 c_161_2 ?_
      refine v_bpN (n := 7) c_161_3 rfl ?_
      refine v_icmp_ge_F c_161_4 (by omega) (by omega) (by omega) ?_
      refine v_il3 c_161_5 ?_
      refine v_il4 c_161_6 ?_
      refine v_cSi c_161_7 rfl rfl rfl (k_con (by omega) (by omega)) ?_
      refine v_if_eq_tb c_161_8 (h1) ?_
      refine v_incN4 c_161_24 rfl rfl ?_
      refine v_goto c_161_25 ?_
      refine hk _ _ ⟨⟨_, rfl⟩, fun X hX => ?_, g2⟩
      rw [any_s, h1, Bool.false_and, Bool.or_false]
      exact g1 X hX
    · obtain ⟨o1, o2⟩ := hOT j h1
      have uX : u.1 82 (T ||| 2 ^ j) = nI (f (T ||| 2 ^ j)) := by
        rw [g1 _ o2, if_neg, Nat.add_zero]
        rw [Bool.not_eq_true, List.any_eq_false]
        intro t ht
        rw [Bool.and_eq_true, decide_eq_true_eq]
        rintro ⟨h2, h3⟩
        have := or_inj o1 h3 (hOT t h2).1
        have := List.mem_range.mp ht
        omega
      refine v_il4 c_161_2 ?_
      refine v_bpN (n := 7) c_161_3 rfl ?_
      refine v_icmp_ge_F c_161_4 (by omega) (by omega) (by omega) ?_
      refine v_il3 c_161_5 ?_
      refine v_il4 c_161_6 ?_
      refine v_cSi c_161_7 rfl rfl rfl (k_con (by omega) (by omega)) ?_
      refine v_if_eq_fb c_161_8 (h1) ?_
      refine v_il1 c_161_9 ?_
      refine v_il4 c_161_10 ?_
      refine v_cSi c_161_11 rfl rfl rfl (k_bit (by omega)) ?_
      refine v_iorN c_161_12 ?_
      refine v_is5 c_161_13 rfl ?_
      refine v_al0 c_161_14 ?_
      refine v_gR (n0 := 82) c_161_15 rfl ?_
      refine v_il5 c_161_16 ?_
      refine v_al0 c_161_17 ?_
      refine v_gR (n0 := 82) c_161_18 rfl ?_
      refine v_il5 c_161_19 ?_
      refine v_at c_161_20 rfl (by omega) (uX) rfl ?_
      refine v_il2 c_161_21 ?_
      refine v_iaddN c_161_22 ?_
      refine v_put c_161_23 rfl (by omega) rfl ?_
      refine v_incN4 c_161_24 rfl rfl ?_
      refine v_goto c_161_25 ?_
      refine hk _ _ ⟨⟨_, rfl⟩, fun X hX => ?_, g2.tr (FR.sI (by omega) (by omega))⟩
      rw [any_s, h1, Bool.true_and]
      by_cases e : X = T ||| 2 ^ j
      · subst e
        rw [sI_s, decide_eq_true rfl, Bool.or_true, if_pos rfl]
      · rw [sI_k e, decide_eq_false e, Bool.or_false]
        exact g1 X hX
  · rintro ls u ⟨⟨y, rfl⟩, g1, g2⟩
    refine v_il4 c_161_2 ?_
    refine v_bpN (n := 7) c_161_3 rfl ?_
    refine v_icmp_ge_T c_161_4 (by omega) (by omega) (by omega) ?_
    exact v_rv c_161_26 ⟨rfl, ⟨g1, g2⟩⟩
def wyS (M : zM) (S th how : Nat) : Nat := FX (lkM M how) (selF S (mN M)) (bS S (mN M)) th th
theorem FX_b {lk : Nat → Nat → Bool} {line : Nat → Nat} {q th X : Nat} : FX lk line q th X < 2147483648 := by
  unfold FX
  split
  · exact WL_b (pc_le X)
  · omega
theorem s_cw {h how S th : Nat} (hA : zl_aI h = some 7) (hh : h < 82) (hw : MW M) (hth : th < 128) (hthn : ∀ x, th.testBit x = true → x < mN M) (hLN : LN s S (mN M)) (hl : ∀ i, i < mN M → s.1 h i = nI (lkB M how i)) :
    CC sc 160 [.ref 77, .int (nI th), .ref h] s (QI fun x t => x = nI (wyS M S th how) ∧ FR 82 83 s t) := by
  refine cc_of ml_160 rfl rfl ?_
  have h7 := hw.1
  obtain ⟨l1, l2⟩ := hLN
  have hq7 : bS S (mN M) ≤ mN M := cnt_le _ _
  refine v_icN (n := 1) c_160_0 rfl ?_
  refine v_is3 c_160_1 rfl ?_
  refine vv_forS th (fun i ls t => ls = [some (.ref 77), some (.int (nI th)), some (.ref h), some (.int (nI (1 + i))), none, none] ∧ (∀ X, 1 ≤ X → X < 1 + i → t.1 82 X = nI 0) ∧ FR 82 83 s t) ?_ ?_ _ _ ⟨rfl, fun X h1 h2 => by omega, FR.rf⟩
  · rintro i ls t hi ⟨rfl, g1, g2⟩ hk
    refine v_il3 c_160_2 ?_
    refine v_il1 c_160_3 ?_
    refine v_icmp_gt_F c_160_4 (by omega) (by omega) (by omega) ?_
    refine v_al0 c_160_5 ?_
    refine v_gR (n0 := 82) c_160_6 rfl ?_
    refine v_il3 c_160_7 ?_
    refine v_icN (n := 0) c_160_8 rfl ?_
    refine v_put c_160_9 rfl (by omega) rfl ?_
    refine v_incN3 c_160_10 rfl rfl ?_
    refine v_goto c_160_11 ?_
    refine hk _ _ ⟨rfl, fun X h1 h2 => ?_, g2.tr (FR.sI (by omega) (by omega))⟩
    by_cases e : X = 1 + i
    · rw [e, sI_s]
    · rw [sI_k e]; exact g1 X h1 (by omega)
  · rintro ls t ⟨rfl, g1, g2⟩
    refine v_il3 c_160_2 ?_
    refine v_il1 c_160_3 ?_
    refine v_icmp_gt_T c_160_4 (by omega) (by omega) (by omega) ?_
    refine v_al0 c_160_12 ?_
    refine v_gR (n0 := 82) c_160_13 rfl ?_
    refine v_icN (n := 0) c_160_14 rfl ?_
    refine v_icN (n := 1) c_160_15 rfl ?_
    refine v_put c_160_16 rfl (by omega) rfl ?_
    refine v_icN (n := 0) c_160_17 rfl ?_
    refine v_is3 c_160_18 rfl ?_
    obtain ⟨P, hP⟩ : ∃ P, P = PX (lkM M how) (selF S (mN M)) (bS S (mN M)) th := ⟨_, rfl⟩
    refine vv_forS th (fun T ls t => (∃ y y2, ls = [some (.ref 77), some (.int (nI th)), some (.ref h), some (.int (nI T)), y, y2]) ∧ (∀ X, X ≤ th → t.1 82 X = nI (P T X)) ∧ FR 82 83 s t) ?_ ?_ _ _ ⟨⟨none, none, rfl⟩, fun X hX => ?_, g2.tr (FR.sI (by omega) (by omega))⟩
    · rintro T ls t hT ⟨⟨y, y2, rfl⟩, g1, g2⟩ hk
      have eF : P T T = FX (lkM M how) (selF S (mN M)) (bS S (mN M)) th T := by rw [hP]; exact PX_fin (by omega) (Nat.le_refl _)
      have eS : ∀ X, X ≤ th → P (T + 1) X = P T X + (if decide (pc T < bS S (mN M)) && ((List.range 7).any fun t => !T.testBit t && (th.testBit t && (lkM M how (selF S (mN M) (pc T)) t && decide (X = T ||| 2 ^ t)))) then FX (lkM M how) (selF S (mN M)) (bS S (mN M)) th T else 0) := fun X hX => by rw [hP]; exact PX_s (by omega)
      have hFb := FX_b (lk := lkM M how) (line := selF S (mN M)) (q := bS S (mN M)) (th := th) (X := T)
      have hpcT := pc_le T
      have t4 : t.1 77 4 = nI (bS S (mN M)) := by rw [g2.at (by omega)]; exact l1
      have tT : t.1 82 T = nI (FX (lkM M how) (selF S (mN M)) (bS S (mN M)) th T) := by rw [g1 T (by omega), eF]
      by_cases c0 : FX (lkM M how) (selF S (mN M)) (bS S (mN M)) th T = 0
      · refine v_il3 c_160_19 ?_
        refine v_il1 c_160_20 ?_
        refine v_icmp_ge_F c_160_21 (by omega) (by omega) (by omega) ?_
        refine v_al0 c_160_22 ?_
        refine v_gR (n0 := 82) c_160_23 rfl ?_
        refine v_il3 c_160_24 ?_
        refine v_at c_160_25 rfl (by omega) (tT) rfl ?_
        refine v_is4 c_160_26 rfl ?_
        refine v_il3 c_160_27 ?_
        refine v_cSi c_160_28 rfl rfl rfl (k_bc (by omega)) ?_
        refine v_is5 c_160_29 rfl ?_
        refine v_il4 c_160_30 ?_
        refine v_if_eq_T c_160_31 (c0) (by omega) ?_
        refine v_incN3 c_160_52 rfl rfl ?_
        refine v_goto c_160_53 ?_
        refine hk _ _ ⟨⟨_, _, rfl⟩, fun X hX => ?_, g2⟩
        rw [eS X hX, c0]
        simpa using g1 X hX
      · by_cases c1 : pc T < bS S (mN M)
        · have hsub : sub T th = true := by
            unfold FX at c0
            cases e : sub T th
            · rw [e] at c0; exact absurd rfl c0
            · rfl
          obtain ⟨n1, n2, n3, n4⟩ := selF_lt (n := mN M) (mN M) (Nat.le_refl _) c1
          have hlk := lkB_lt M hw how (selF S (mN M) (pc T))
          have hO : zdf (lkB M how (selF S (mN M) (pc T)) &&& th) T < 128 := zdf_lt (n := 7) (Nat.lt_of_le_of_lt Nat.and_le_left hlk)
          have hOtb : ∀ t, (zdf (lkB M how (selF S (mN M) (pc T)) &&& th) T).testBit t = (!T.testBit t && (th.testBit t && lkM M how (selF S (mN M) (pc T)) t)) := by
            intro t
            rw [zdf_tb, Nat.testBit_and, lkB_tb]
            cases e1 : th.testBit t
            · simp
            · rw [decide_eq_true (hthn t e1)]
              cases T.testBit t <;> cases lkM M how (selF S (mN M) (pc T)) t <;> rfl
          have hOT : ∀ t, (zdf (lkB M how (selF S (mN M) (pc T)) &&& th) T).testBit t = true → T.testBit t = false ∧ T ||| 2 ^ t ≤ th := by
            intro t ht
            rw [hOtb, Bool.and_eq_true, Bool.and_eq_true, Bool.not_eq_true'] at ht
            refine ⟨ht.1, sub_le (sub_iff.mpr fun x hx => ?_)⟩
            rw [Nat.testBit_or, Bool.or_eq_true] at hx
            rcases hx with hx | hx
            · exact sub_iff.mp hsub x hx
            · rw [Nat.testBit_two_pow] at hx
              rw [← of_decide_eq_true hx]
              exact ht.2.1
          refine v_il3 c_160_19 ?_
          refine v_il1 c_160_20 ?_
          refine v_icmp_ge_F c_160_21 (by omega) (by omega) (by omega) ?_
          refine v_al0 c_160_22 ?_
          refine v_gR (n0 := 82) c_160_23 rfl ?_
          refine v_il3 c_160_24 ?_
          refine v_at c_160_25 rfl (by omega) (tT) rfl ?_
          refine v_is4 c_160_26 rfl ?_
          refine v_il3 c_160_27 ?_
          refine v_cSi c_160_28 rfl rfl rfl (k_bc (by omega)) ?_
          refine v_is5 c_160_29 rfl ?_
          refine v_il4 c_160_30 ?_
          refine v_if_eq_F c_160_31 (c0) (by omega) ?_
          refine v_il5 c_160_32 ?_
          refine v_al0 c_160_33 ?_
          refine v_gI c_160_34 rfl (t4) ?_
          refine v_icmp_ge_F c_160_35 (by omega) (by omega) (by omega) ?_
          refine v_al0 c_160_36 ?_
          refine v_il3 c_160_37 ?_
          refine v_il4 c_160_38 ?_
          refine v_al2 c_160_39 ?_
          refine v_al0 c_160_40 ?_
          refine v_gR (n0 := 81) c_160_41 rfl ?_
          refine v_il5 c_160_42 ?_
          refine v_at c_160_43 rfl (by omega) (show t.1 81 (pc T) = nI (selF S (mN M) (pc T)) by rw [g2.at (by omega)]; exact l2 _ c1) rfl ?_
          refine v_at c_160_44 hA (by omega) (show t.1 h (selF S (mN M) (pc T)) = nI (lkB M how (selF S (mN M) (pc T))) by rw [g2.at (by omega)]; exact hl _ n1) rfl ?_
          refine v_il1 c_160_45 ?_
          refine v_iandN c_160_46 ?_
          refine v_il3 c_160_47 ?_
          refine v_ic c_160_48 ?_
          refine v_ixor c_160_49 ?_
          refine v_iand c_160_50 ?_
          rw [nI_not]
          refine v_cVV c_160_51 rfl (by decide) rfl rfl (s_spr (f := P T) hth hO hOT g1) ?_
          rintro u ⟨r1, r2⟩
          refine v_incN3 c_160_52 rfl rfl ?_
          refine v_goto c_160_53 ?_
          refine hk _ _ ⟨⟨_, _, rfl⟩, fun X hX => ?_, g2.tr r2⟩
          rw [r1 X hX, eS X hX, decide_eq_true c1, Bool.true_and]
          have ea : ((List.range 7).any fun t => (zdf (lkB M how (selF S (mN M) (pc T)) &&& th) T).testBit t && decide (X = T ||| 2 ^ t)) = ((List.range 7).any fun t => !T.testBit t && (th.testBit t && (lkM M how (selF S (mN M) (pc T)) t && decide (X = T ||| 2 ^ t)))) := by
            congr 1
            funext t
            rw [hOtb]
            simp only [Bool.and_assoc]
          rw [ea]
        · refine v_il3 c_160_19 ?_
          refine v_il1 c_160_20 ?_
          refine v_icmp_ge_F c_160_21 (by omega) (by omega) (by omega) ?_
          refine v_al0 c_160_22 ?_
          refine v_gR (n0 := 82) c_160_23 rfl ?_
          refine v_il3 c_160_24 ?_
          refine v_at c_160_25 rfl (by omega) (tT) rfl ?_
          refine v_is4 c_160_26 rfl ?_
          refine v_il3 c_160_27 ?_
          refine v_cSi c_160_28 rfl rfl rfl (k_bc (by omega)) ?_
          refine v_is5 c_160_29 rfl ?_
          refine v_il4 c_160_30 ?_
          refine v_if_eq_F c_160_31 (c0) (by omega) ?_
          refine v_il5 c_160_32 ?_
          refine v_al0 c_160_33 ?_
          refine v_gI c_160_34 rfl (t4) ?_
          refine v_icmp_ge_T c_160_35 (by omega) (by omega) (by omega) ?_
          refine v_incN3 c_160_52 rfl rfl ?_
          refine v_goto c_160_53 ?_
          refine hk _ _ ⟨⟨_, _, rfl⟩, fun X hX => ?_, g2⟩
          rw [eS X hX, decide_eq_false c1]
          simpa using g1 X hX
    · rintro ls t ⟨⟨y, y2, rfl⟩, g1, g2⟩
      have e9 : P th th = wyS M S th how := by rw [hP]; exact PX_fin hth (Nat.le_refl _)
      refine v_il3 c_160_19 ?_
      refine v_il1 c_160_20 ?_
      refine v_icmp_ge_T c_160_21 (by omega) (by omega) (by omega) ?_
      refine v_al0 c_160_54 ?_
      refine v_gR (n0 := 82) c_160_55 rfl ?_
      refine v_il1 c_160_56 ?_
      refine v_at c_160_57 rfl (by omega) (g1 th (Nat.le_refl _)) rfl ?_
      refine v_ri c_160_58 ?_
      exact ⟨_, rfl, by rw [e9], g2⟩
    · rw [hP, PX_0]
      by_cases e : X = 0
      · rw [e, sI_s]; rfl
      · rw [sI_k e, if_neg e]
        exact g1 X (by omega) (by omega)
end SC
