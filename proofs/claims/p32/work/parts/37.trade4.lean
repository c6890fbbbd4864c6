/-! THE TRADING: the class's rounds -/
section TD
variable {sc : Nat × (Nat → Int32)} {s : zv_S} {m o : Nat} {M : zM} {T : zT}
theorem c_fgt (ho : isT o = true) {n : Nat} (h7 : n ≤ 7) : CC sc 179 [.ref o] s (QV fun t => TR t o n tZ ∧ FR o (o + 8) s t) := by
  refine cc_of ml_179 rfl rfl ?_
  refine v_al0 c_179_0 ?_
  refine v_icN (n := 0) c_179_1 rfl ?_
  refine v_pI c_179_2 (kT_f0 ho) ?_
  refine v_al0 c_179_3 ?_
  refine v_icN (n := 0) c_179_4 rfl ?_
  refine v_pI c_179_5 (kT_f1 ho) ?_
  refine v_icN (n := 0) c_179_6 rfl ?_
  refine v_is1 c_179_7 rfl ?_
  refine vv_forS 7 (fun i ls t => ls = [some (.ref o), some (.int (nI i))] ∧ t.1 o 0 = nI 0 ∧ t.1 o 1 = nI 0 ∧ (∀ j, j < i → t.1 (o + 1) j = -9 ∧ t.1 (o + 2) j = -9 ∧ t.1 (o + 3) j = -9 ∧ t.1 (o + 4) j = -9) ∧ FR o (o + 8) s t) ?_ ?_ _ _ ⟨rfl, by rw [sI_k (by omega), sI_s], sI_s, fun j hj => absurd hj (by omega), (FR.sI (by omega) (by omega)).tr (FR.sI (by omega) (by omega))⟩
  · rintro i ls t hi ⟨rfl, g0, g1, g2, g3⟩ hk
    refine v_il1 c_179_8 ?_
    refine v_bpN (n := 7) c_179_9 rfl ?_
    refine v_icmp_ge_F c_179_10 (by omega) (by omega) (by omega) ?_
    refine v_al0 c_179_11 ?_
    refine v_gR c_179_12 (kT_r2 ho) ?_
    refine v_il1 c_179_13 ?_
    refine v_bp c_179_14 ?_
    refine v_put c_179_15 (kT_a1 ho) (by omega) rfl ?_
    refine v_al0 c_179_16 ?_
    refine v_gR c_179_17 (kT_r3 ho) ?_
    refine v_il1 c_179_18 ?_
    refine v_bp c_179_19 ?_
    refine v_put c_179_20 (kT_a2 ho) (by omega) rfl ?_
    refine v_al0 c_179_21 ?_
    refine v_gR c_179_22 (kT_r4 ho) ?_
    refine v_il1 c_179_23 ?_
    refine v_bp c_179_24 ?_
    refine v_put c_179_25 (kT_a3 ho) (by omega) rfl ?_
    refine v_al0 c_179_26 ?_
    refine v_gR c_179_27 (kT_r5 ho) ?_
    refine v_il1 c_179_28 ?_
    refine v_bp c_179_29 ?_
    refine v_put c_179_30 (kT_a4 ho) (by omega) rfl ?_
    refine v_incN1 c_179_31 rfl rfl ?_
    refine v_goto c_179_32 ?_
    refine hk _ _ ⟨rfl, ?_, ?_, fun j hj => ?_, (((g3.tr (FR.sI (by omega) (by omega))).tr (FR.sI (by omega) (by omega))).tr (FR.sI (by omega) (by omega))).tr (FR.sI (by omega) (by omega))⟩
    · rw [sI_o (by omega), sI_o (by omega), sI_o (by omega), sI_o (by omega)]; exact g0
    · rw [sI_o (by omega), sI_o (by omega), sI_o (by omega), sI_o (by omega)]; exact g1
    · by_cases e : j = i
      · subst e
        refine ⟨?_, ?_, ?_, ?_⟩
        · rw [sI_o (by omega), sI_o (by omega), sI_o (by omega), sI_s]
        · rw [sI_o (by omega), sI_o (by omega), sI_s]
        · rw [sI_o (by omega), sI_s]
        · rw [sI_s]
      · obtain ⟨b1, b2, b3, b4⟩ := g2 j (by omega)
        refine ⟨?_, ?_, ?_, ?_⟩
        · rw [sI_o (by omega), sI_o (by omega), sI_o (by omega), sI_k e]; exact b1
        · rw [sI_o (by omega), sI_o (by omega), sI_k e, sI_o (by omega)]; exact b2
        · rw [sI_o (by omega), sI_k e, sI_o (by omega), sI_o (by omega)]; exact b3
        · rw [sI_k e, sI_o (by omega), sI_o (by omega), sI_o (by omega)]; exact b4
  · rintro ls t ⟨rfl, g0, g1, g2, g3⟩
    refine v_il1 c_179_8 ?_
    refine v_bpN (n := 7) c_179_9 rfl ?_
    refine v_icmp_ge_T c_179_10 (by omega) (by omega) (by omega) ?_
    refine v_rv c_179_33 ?_
    exact ⟨rfl, ⟨g0, g1, fun i hi => g2 i (by omega), fun k hk => absurd hk (Nat.not_lt_zero _)⟩, g3⟩
theorem c_pnt (hm : isM m = true) (ho : isT o = true) (hM : MK s m M) (hw : MW M) {O : Nat} (hT : TR s o (mN M) T) (hr : tRo T ≤ 7) (hO : ∀ x, O.testBit x = true → x < mN M) :
    CC sc 180 [.ref o, .ref m, .int (nI O)] s (QV fun t => TR t o (mN M) (tFs (chs (mN M) (mR M) (mH M) O) O T) ∧ PT t o O (chs (mN M) (mR M) (mH M) O) ∧ FR o (o + 8) s t) := by
  refine cc_of ml_180 rfl rfl ?_
  have h7 := hw.1
  have hdj := kMT_dj hm ho
  have hO128 := O_7 h7 hO
  obtain ⟨q0, q1, q2, q3⟩ := hT
  refine v_icN (n := 0) c_180_0 rfl ?_
  refine v_is3 c_180_1 rfl ?_
  refine vv_forS (mN M) (fun i ls t => (∃ y, ls = [some (.ref o), some (.ref m), some (.int (nI O)), some (.int (nI i)), y]) ∧ (∀ j, j < i → O.testBit j = true → t.1 (o + 7) j = nI (chs (mN M) (mR M) (mH M) O j)) ∧ (∀ j, j < mN M → t.1 (o + 4) j = if tRo T = 0 ∧ (j < i ∧ O.testBit j = true) then nI (chs (mN M) (mR M) (mH M) O j) else tFi T j) ∧ (∀ a, a ≠ o + 4 → a ≠ o + 7 → t.1 a = s.1 a) ∧ FR (o + 4) (o + 8) s t) ?_ ?_ _ _ ⟨⟨_, rfl⟩, fun j hj => absurd hj (by omega), fun j hj => ?_, fun _ _ _ => rfl, FR.rf⟩
  · rintro i ls t hi ⟨⟨y, rfl⟩, g1, g2, g3, g4⟩ hk
    have h0 : t.1 m 0 = nI (mN M) := by rw [g4.at (by omega)]; exact hM.1
    have hM' := hM.fr g4 (by omega)
    have t1 : t.1 o 1 = nI (tRo T) := by rw [g3 o (by omega) (by omega)]; exact q1
    cases h1 : O.testBit i
    · refine v_il3 c_180_2 ?_
      refine v_al1 c_180_3 ?_
      refine v_gI c_180_4 (kM_f0 hm) (h0) ?_
      refine v_icmp_ge_F c_180_5 (by omega) (by omega) (by omega) ?_
      refine v_il2 c_180_6 ?_
      refine v_il3 c_180_7 ?_
      refine v_cSi c_180_8 rfl rfl rfl (k_con (by omega) (by omega)) ?_
      refine v_if_eq_tb c_180_9 (h1) ?_
      refine v_incN3 c_180_28 rfl rfl ?_
      refine v_goto c_180_29 ?_
      refine hk _ _ ⟨⟨_, rfl⟩, fun j hj h2 => ?_, fun j hj => ?_, g3, g4⟩
      · rcases Nat.lt_or_eq_of_le (Nat.le_of_lt_succ hj) with h | h
        · exact g1 j h h2
        · rw [h, h1] at h2; cases h2
      · rw [g2 j hj]
        have e : (j < i + 1 ∧ O.testBit j = true) ↔ (j < i ∧ O.testBit j = true) := by
          constructor
          · rintro ⟨a, b⟩
            refine ⟨?_, b⟩
            rcases Nat.lt_or_eq_of_le (Nat.le_of_lt_succ a) with h | h
            · exact h
            · rw [h, h1] at b; cases b
          · rintro ⟨a, b⟩; exact ⟨by omega, b⟩
        simp only [e]
    · have hci := chs_in (rk := mR M) (hd := mH M) hi h1
      by_cases hz : tRo T = 0
      · refine v_il3 c_180_2 ?_
        refine v_al1 c_180_3 ?_
        refine v_gI c_180_4 (kM_f0 hm) (h0) ?_
        refine v_icmp_ge_F c_180_5 (by omega) (by omega) (by omega) ?_
        refine v_il2 c_180_6 ?_
        refine v_il3 c_180_7 ?_
        refine v_cSi c_180_8 rfl rfl rfl (k_con (by omega) (by omega)) ?_
        refine v_if_eq_fb c_180_9 (h1) ?_
        refine v_al1 c_180_10 ?_
        refine v_il3 c_180_11 ?_
        refine v_il2 c_180_12 ?_
        refine v_cSi c_180_13 rfl rfl rfl (c_cho hm hM' hw hO128 hi) ?_
        refine v_is4 c_180_14 rfl ?_
        refine v_al0 c_180_15 ?_
        refine v_gR c_180_16 (kT_r8 ho) ?_
        refine v_il3 c_180_17 ?_
        refine v_il4 c_180_18 ?_
        refine v_put c_180_19 (kT_a7 ho) (by omega) rfl ?_
        refine v_al0 c_180_20 ?_
        refine v_gI c_180_21 (kT_f1 ho) (show (sI t (o + 7) i _).1 o 1 = nI (tRo T) by rw [sI_o (by omega)]; exact t1) ?_
        refine v_if_ne_F c_180_22 (hz) (by omega) ?_
        refine v_al0 c_180_23 ?_
        refine v_gR c_180_24 (kT_r5 ho) ?_
        refine v_il3 c_180_25 ?_
        refine v_il4 c_180_26 ?_
        refine v_put c_180_27 (kT_a4 ho) (by omega) rfl ?_
        refine v_incN3 c_180_28 rfl rfl ?_
        refine v_goto c_180_29 ?_
        refine hk _ _ ⟨⟨_, rfl⟩, fun j hj h2 => ?_, fun j hj => ?_, fun a x y => by rw [sI_o x, sI_o y]; exact g3 a x y, (g4.tr (FR.sI (by omega) (by omega))).tr (FR.sI (by omega) (by omega))⟩
        · rw [sI_o (by omega)]
          by_cases e : j = i
          · rw [e, sI_s]
          · rw [sI_k e]; exact g1 j (by omega) h2
        · by_cases e : j = i
          · rw [e, sI_s, if_pos ⟨hz, by omega, h1⟩]
          · rw [sI_k e, sI_o (by omega), g2 j hj]
            have e2 : (j < i + 1 ∧ O.testBit j = true) ↔ (j < i ∧ O.testBit j = true) := by
              constructor
              · rintro ⟨a, b⟩; exact ⟨by omega, b⟩
              · rintro ⟨a, b⟩; exact ⟨by omega, b⟩
            simp only [e2]
      · refine v_il3 c_180_2 ?_
        refine v_al1 c_180_3 ?_
        refine v_gI c_180_4 (kM_f0 hm) (h0) ?_
        refine v_icmp_ge_F c_180_5 (by omega) (by omega) (by omega) ?_
        refine v_il2 c_180_6 ?_
        refine v_il3 c_180_7 ?_
        refine v_cSi c_180_8 rfl rfl rfl (k_con (by omega) (by omega)) ?_
        refine v_if_eq_fb c_180_9 (h1) ?_
        refine v_al1 c_180_10 ?_
        refine v_il3 c_180_11 ?_
        refine v_il2 c_180_12 ?_
        refine v_cSi c_180_13 rfl rfl rfl (c_cho hm hM' hw hO128 hi) ?_
        refine v_is4 c_180_14 rfl ?_
        refine v_al0 c_180_15 ?_
        refine v_gR c_180_16 (kT_r8 ho) ?_
        refine v_il3 c_180_17 ?_
        refine v_il4 c_180_18 ?_
        refine v_put c_180_19 (kT_a7 ho) (by omega) rfl ?_
        refine v_al0 c_180_20 ?_
        refine v_gI c_180_21 (kT_f1 ho) (show (sI t (o + 7) i _).1 o 1 = nI (tRo T) by rw [sI_o (by omega)]; exact t1) ?_
        refine v_if_ne_T c_180_22 (hz) (by omega) ?_
        refine v_incN3 c_180_28 rfl rfl ?_
        refine v_goto c_180_29 ?_
        refine hk _ _ ⟨⟨_, rfl⟩, fun j hj h2 => ?_, fun j hj => ?_, fun a x y => by rw [sI_o y]; exact g3 a x y, g4.tr (FR.sI (by omega) (by omega))⟩
        · by_cases e : j = i
          · rw [e, sI_s]
          · rw [sI_k e]; exact g1 j (by omega) h2
        · rw [sI_o (by omega), g2 j hj, if_neg (fun h => hz h.1), if_neg (fun h => hz h.1)]
  · rintro ls t ⟨⟨y, rfl⟩, g1, g2, g3, g4⟩
    have h0 : t.1 m 0 = nI (mN M) := by rw [g4.at (by omega)]; exact hM.1
    refine v_il3 c_180_2 ?_
    refine v_al1 c_180_3 ?_
    refine v_gI c_180_4 (kM_f0 hm) (h0) ?_
    refine v_icmp_ge_T c_180_5 (by omega) (by omega) (by omega) ?_
    refine v_rv c_180_30 ?_
    refine ⟨rfl, ⟨by rw [g3 o (by omega) (by omega)]; exact q0, by rw [g3 o (by omega) (by omega)]; exact q1, fun i hi => ?_, fun k hk => by rw [g3 _ (by omega) (by omega), g3 _ (by omega) (by omega)]; exact q3 k hk⟩, fun x hx => g1 x (hO x hx) hx, g4.up (by omega) (by omega)⟩
    rw [g3 _ (by omega) (by omega), g3 _ (by omega) (by omega), g3 _ (by omega) (by omega), g2 i hi]
    refine ⟨(q2 i hi).1, (q2 i hi).2.1, (q2 i hi).2.2.1, ?_⟩
    show _ = if tRo T = 0 ∧ O.testBit i = true then nI (chs (mN M) (mR M) (mH M) O i) else tFi T i
    have e2 : (tRo T = 0 ∧ (i < mN M ∧ O.testBit i = true)) ↔ (tRo T = 0 ∧ O.testBit i = true) := ⟨fun h => ⟨h.1, h.2.2⟩, fun h => ⟨h.1, hi, h.2⟩⟩
    simp only [e2]
  · rw [if_neg (fun h => absurd h.2.1 (by omega))]
    exact (q2 j hj).2.2.2
theorem c_cls (hm : isM m = true) (ho : isT o = true) (hM : MK s m M) (hw : MW M) {O D : Nat} {p : Nat → Nat} (hT : TR s o (mN M) T) (hTI : TI (mN M) (mH M) T D) (hD : ∀ x, D.testBit x = true → x < mN M) (hO : ∀ x, O.testBit x = true → x < mN M) (hdis : ∀ x, D.testBit x = true → O.testBit x = true → False)
    (hp : ∀ x, O.testBit x = true → O.testBit (p x) = true) (hP : PT s o O p) :
    CC sc 182 [.ref o, .ref m, .int (nI O)] s (QI fun x t => x = nI (tCl (mH M) p O T (mN M)).2 ∧ TR t o (mN M) (tCl (mH M) p O T (mN M)).1 ∧ FR o (o + 8) s t) := by
  refine cc_of ml_182 rfl rfl ?_
  have h7 := hw.1
  have hdj := kMT_dj hm ho
  have hO128 := O_7 h7 hO
  have hinv := tCl_ok h7 hw.2.2.2.1 hw.2.2.2.2 hTI hD hO hdis hp
  refine v_icN (n := 0) c_182_0 rfl ?_
  refine v_is3 c_182_1 rfl ?_
  refine v_icN (n := 0) c_182_2 rfl ?_
  refine v_is4 c_182_3 rfl ?_
  refine vv_forS (mN M) (fun i ls t => (∃ y, ls = [some (.ref o), some (.ref m), some (.int (nI O)), some (.int (nI (tCl (mH M) p O T i).2)), some (.int (nI i)), y]) ∧ TR t o (mN M) (tCl (mH M) p O T i).1 ∧ t.1 (o + 7) = s.1 (o + 7) ∧ FR o (o + 8) s t) ?_ ?_ _ _ ⟨⟨none, rfl⟩, hT, rfl, FR.rf⟩
  · rintro i ls t hi ⟨⟨y, rfl⟩, g1, g2, g3⟩ hk
    have h0 : t.1 m 0 = nI (mN M) := by rw [g3.at (by omega)]; exact hM.1
    have hM' := hM.fr g3 (by omega)
    have hP' : PT t o O p := fun x hx => by rw [g2]; exact hP x hx
    obtain ⟨a1, a2, a3, a4, a5, a6⟩ := hinv i (by omega)
    have e : tCl (mH M) p O T (i + 1) = if O.testBit i && (!(tCl (mH M) p O T i).2.testBit i && decide (rgF p i ≠ 0)) then (tAdd (mH M) p (tCl (mH M) p O T i).1 (rgF p i), (tCl (mH M) p O T i).2 ||| rgF p i) else tCl (mH M) p O T i := rfl
    have hzl : zdf O (tCl (mH M) p O T i).2 < 2147483648 := Nat.lt_trans (zdf_lt (n := 7) hO128) (by decide)
    have htb := zdf_tb O (tCl (mH M) p O T i).2 i
    refine v_il4 c_182_4 ?_
    refine v_al1 c_182_5 ?_
    refine v_gI c_182_6 (kM_f0 hm) (h0) ?_
    refine v_icmp_ge_F c_182_7 (by omega) (by omega) (by omega) ?_
    refine v_il2 c_182_8 ?_
    refine v_il3 c_182_9 ?_
    refine v_ic c_182_10 ?_
    refine v_ixor c_182_11 ?_
    refine v_iand c_182_12 ?_
    rw [nI_not]
    cases h1 : O.testBit i && !(tCl (mH M) p O T i).2.testBit i
    · have e2 : tCl (mH M) p O T (i + 1) = tCl (mH M) p O T i := by
        rw [e, if_neg]
        rw [← Bool.and_assoc, h1]
        simp
      refine v_il4 c_182_13 ?_
      refine v_cSi c_182_14 rfl rfl rfl (k_con hzl (by omega)) ?_
      refine v_if_eq_tb c_182_15 ((by rw [htb, h1])) ?_
      refine v_incN4 c_182_30 rfl rfl ?_
      refine v_goto c_182_31 ?_
      exact hk _ _ ⟨⟨y, by rw [e2]⟩, by rw [e2]; exact g1, g2, g3⟩
    · have h2 := h1
      rw [Bool.and_eq_true, Bool.not_eq_true'] at h2
      obtain ⟨c1, c2⟩ := h2
      have hrl : rgF p i < 2147483648 := by
        by_cases c3 : rgF p i = 0
        · omega
        · exact Nat.lt_trans (O_7 h7 fun x hx => hO x (rgF_in hp c1 c3 hx)) (by decide)
      refine v_il4 c_182_13 ?_
      refine v_cSi c_182_14 rfl rfl rfl (k_con hzl (by omega)) ?_
      refine v_if_eq_fb c_182_15 ((by rw [htb, h1])) ?_
      refine v_al0 c_182_16 ?_
      refine v_il4 c_182_17 ?_
      refine v_cVi c_182_18 rfl (kT_lt ho) (kT_is ho) rfl (c_thr ho hO128 hP' hp c1) ?_
      refine v_is5 c_182_19 rfl ?_
      refine v_il5 c_182_20 ?_
      by_cases c3 : rgF p i = 0
      · have e2 : tCl (mH M) p O T (i + 1) = tCl (mH M) p O T i := by
          rw [e, if_neg]
          rw [c3]
          simp
        refine v_if_eq_T c_182_21 (c3) (by omega) ?_
        refine v_incN4 c_182_30 rfl rfl ?_
        refine v_goto c_182_31 ?_
        exact hk _ _ ⟨⟨_, by rw [e2]⟩, by rw [e2]; exact g1, g2, g3⟩
      · have e2 : tCl (mH M) p O T (i + 1) = (tAdd (mH M) p (tCl (mH M) p O T i).1 (rgF p i), (tCl (mH M) p O T i).2 ||| rgF p i) := by
          rw [e, if_pos]
          rw [← Bool.and_assoc, h1]
          simpa using c3
        have hri : tRi (tCl (mH M) p O T i).1 < 7 := by
          obtain ⟨b1, -⟩ := hinv (i + 1) hi
          rw [e2] at b1
          have b2 := b1.2.2.2.2
          have b3 := pc_le (D ||| ((tCl (mH M) p O T i).2 ||| rgF p i))
          have b4 : tRi (tCl (mH M) p O T i).1 + 1 ≤ pc (D ||| ((tCl (mH M) p O T i).2 ||| rgF p i)) := b2
          omega
        refine v_if_eq_F c_182_21 (c3) (by omega) ?_
        refine v_al0 c_182_22 ?_
        refine v_al1 c_182_23 ?_
        refine v_il5 c_182_24 ?_
        refine v_cVV c_182_25 rfl (kT_lt ho) (kT_is ho) rfl (c_add hm ho hM' hw g1 hri (fun x hx => hO x (rgF_in hp c1 c3 hx)) (fun x hx => hP' x (rgF_in hp c1 c3 hx)) (fun x hx => rgF_cl c3 hx)) ?_
        rintro u ⟨r1, r2, r3⟩
        refine v_il3 c_182_26 ?_
        refine v_il5 c_182_27 ?_
        refine v_iorN c_182_28 ?_
        refine v_is3 c_182_29 rfl ?_
        refine v_incN4 c_182_30 rfl rfl ?_
        refine v_goto c_182_31 ?_
        refine hk _ _ ⟨⟨_, by rw [e2]⟩, by rw [e2]; exact r1, r2.trans g2, g3.tr r3⟩
  · rintro ls t ⟨⟨y, rfl⟩, g1, g2, g3⟩
    have h0 : t.1 m 0 = nI (mN M) := by rw [g3.at (by omega)]; exact hM.1
    refine v_il4 c_182_4 ?_
    refine v_al1 c_182_5 ?_
    refine v_gI c_182_6 (kM_f0 hm) (h0) ?_
    refine v_icmp_ge_T c_182_7 (by omega) (by omega) (by omega) ?_
    refine v_il3 c_182_32 ?_
    refine v_ri c_182_33 ?_
    exact ⟨_, rfl, rfl, g1, g3⟩
theorem c_fnd (hm : isM m = true) (ho : isT o = true) (hM : MK s m M) (hw : MW M) {O : Nat} (hO : ∀ x, O.testBit x = true → x < mN M) :
    CC sc 175 [.ref o, .ref m, .int (nI O)] s (QV fun t => TR t o (mN M) (tF (mN M) (mR M) (mH M) O) ∧ FR o (o + 8) s t) := by
  refine cc_of ml_175 rfl rfl ?_
  have h7 := hw.1
  have hdj := kMT_dj hm ho
  have hall := tRs_ok (rk := mR M) h7 hw.2.2.2.1 hw.2.2.2.2 hO
  refine v_al0 c_175_0 ?_
  refine v_cVV c_175_1 rfl (kT_lt ho) (kT_is ho) rfl (c_fgt ho h7) ?_
  rintro t0 ⟨f1, f2⟩
  refine v_il2 c_175_2 ?_
  refine v_is3 c_175_3 rfl ?_
  refine vv_while (fun z ls t => (∃ k, k ≤ 7 ∧ z = pc (tRs (mN M) (mR M) (mH M) O k).2 ∧ ls = [some (.ref o), some (.ref m), some (.int (nI O)), some (.int (nI (tRs (mN M) (mR M) (mH M) O k).2))] ∧ TR t o (mN M) (tRs (mN M) (mR M) (mH M) O k).1) ∧ FR o (o + 8) s t) ?_ _ _ _ ⟨⟨0, by omega, rfl, rfl, f1⟩, f2⟩
  rintro z ls t ⟨⟨k, hk7, rfl, rfl, g1⟩, g2⟩ hk
  obtain ⟨D, a1, a2, a3, a4, a5, a6⟩ := hall k
  have hM' := hM.fr g2 (by omega)
  by_cases c : (tRs (mN M) (mR M) (mH M) O k).2 = 0
  · refine v_il3 c_175_4 ?_
    refine v_if_eq_T c_175_5 (c) (by omega) ?_
    refine v_rv c_175_30 ?_
    refine ⟨rfl, ?_, g2⟩
    have e := tRs_stop c (7 - k)
    rw [show k + (7 - k) = 7 by omega] at e
    unfold tF
    rw [e]
    exact g1
  · have hpos : 0 < pc (tRs (mN M) (mR M) (mH M) O k).2 := by
      rcases Nat.eq_zero_or_pos (pc (tRs (mN M) (mR M) (mH M) O k).2) with h | h
      · exact absurd (pc_0 _ a4 h) c
      · exact h
    have hk1 : k + 1 ≤ 7 := by omega
    obtain ⟨D', b1, b2, b3, b4, b5, b6⟩ := hall (k + 1)
    obtain ⟨q, hq⟩ : ∃ q, q = tRs (mN M) (mR M) (mH M) O k := ⟨_, rfl⟩
    have e9 : tRs (mN M) (mR M) (mH M) O (k + 1) = tRd (mN M) (mR M) (mH M) q := by rw [hq]; rfl
    rw [← hq] at g1 a1 a2 a3 a4 a5 a6 c hpos ⊢
    obtain ⟨p, hp⟩ : ∃ p, p = chs (mN M) (mR M) (mH M) q.2 := ⟨_, rfl⟩
    have hqO : ∀ x, q.2.testBit x = true → x < mN M := fun x hx => hO x ((a2 x).mp (Or.inr hx))
    have hpc : ∀ x, q.2.testBit x = true → q.2.testBit (p x) = true := fun x hx => by rw [hp]; exact (chs_in (hqO x hx) hx).2
    have e2 : tRd (mN M) (mR M) (mH M) q = (((tCl (mH M) p q.2 (tFs p q.2 q.1) (mN M)).1.1, (tCl (mH M) p q.2 (tFs p q.2 q.1) (mN M)).1.2.1 + 1, (tCl (mH M) p q.2 (tFs p q.2 q.1) (mN M)).1.2.2), zdf q.2 (tCl (mH M) p q.2 (tFs p q.2 q.1) (mN M)).2) := by
      rw [hp]
      exact if_neg c
    have a6' : tRo q.1 ≤ k := a6
    refine v_il3 c_175_4 ?_
    refine v_if_eq_F c_175_5 (c) (by omega) ?_
    refine v_al0 c_175_6 ?_
    refine v_gI c_175_7 (kT_f1 ho) (g1.2.1) ?_
    refine v_bpN (n := 7) c_175_8 rfl ?_
    refine v_icmp_ge_F c_175_9 (by omega) (by omega) (by omega) ?_
    refine v_al0 c_175_10 ?_
    refine v_al1 c_175_11 ?_
    refine v_il3 c_175_12 ?_
    refine v_cVV c_175_13 rfl (kT_lt ho) (kT_is ho) rfl (c_pnt hm ho hM' hw g1 (by omega) hqO) ?_
    rintro t2 ⟨u1, u2, u3⟩
    rw [← hp] at u1 u2
    have hM2 := hM'.fr u3 (by omega)
    refine v_il3 c_175_14 ?_
    refine v_al0 c_175_15 ?_
    refine v_al1 c_175_16 ?_
    refine v_il3 c_175_17 ?_
    refine v_cVI c_175_18 rfl (kT_lt ho) (kT_is ho) rfl (c_cls hm ho hM2 hw u1 (TI.first a1) (fun x hx => hO x ((a2 x).mp (Or.inl hx))) hqO a3 hpc u2) ?_
    rintro x t3 ⟨rfl, v1, v2⟩
    refine v_ic c_175_19 ?_
    refine v_ixor c_175_20 ?_
    refine v_iand c_175_21 ?_
    refine v_is3 c_175_22 rfl ?_
    refine v_al0 c_175_23 ?_
    refine v_dupr c_175_24 ?_
    refine v_gI c_175_25 (kT_f1 ho) (v1.2.1) ?_
    refine v_icN (n := 1) c_175_26 rfl ?_
    refine v_iaddN c_175_27 ?_
    refine v_pI c_175_28 (kT_f1 ho) ?_
    refine v_goto c_175_29 ?_
    rw [nI_not]
    refine hk (pc (tRs (mN M) (mR M) (mH M) O (k + 1)).2) _ _ ?_ ⟨⟨k + 1, hk1, rfl, by rw [e9, e2], ?_⟩, ((g2.tr u3).tr v2).tr (FR.sI (by omega) (by omega))⟩
    · -- fewer are open
      rw [e9, e2, ← hq]
      obtain ⟨x0, hx0⟩ := Nat.exists_testBit_of_ne_zero c
      obtain ⟨j, j1, j2⟩ := rgF_ex a4 hpc hx0
      obtain ⟨y1, y2, y3, y4, y5, y6⟩ := tCl_ok h7 hw.2.2.2.1 hw.2.2.2.2 (TI.first (p := p) (O := q.2) a1) (fun x hx => hO x ((a2 x).mp (Or.inl hx))) hqO a3 hpc (mN M) (Nat.le_refl _)
      have hdj2 := y4 j (hqO j j1) j1 j2
      refine pc_zdf _ a4 _ (tb_sub (n := 7) a4 y2) fun z => ?_
      have : (q.2 &&& (tCl (mH M) p q.2 (tFs p q.2 q.1) (mN M)).2).testBit j = true := by rw [Nat.testBit_and, j1, hdj2]; rfl
      rw [z] at this
      simp at this
    · rw [e9, e2]
      obtain ⟨w0, w1, w2, w3⟩ := v1
      refine ⟨by rw [sI_k (by omega)]; exact w0, sI_s, fun i hi => ?_, fun k hk => ?_⟩
      · rw [sI_o (by omega), sI_o (by omega), sI_o (by omega), sI_o (by omega)]; exact w2 i hi
      · rw [sI_o (by omega), sI_o (by omega)]; exact w3 k hk
end TD
