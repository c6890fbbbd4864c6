/-! THE TRADING: the class's methods -/
def TR (s : zv_S) (o n : Nat) (T : zT) : Prop := s.1 o 0 = nI (tRi T) ∧ s.1 o 1 = nI (tRo T) ∧ (∀ i, i < n → s.1 (o + 1) i = tGe T i ∧ s.1 (o + 2) i = tRf T i ∧ s.1 (o + 3) i = tGf T i ∧ s.1 (o + 4) i = tFi T i) ∧ ∀ k, k < tRi T → s.1 (o + 5) k = tTo T k ∧ s.1 (o + 6) k = tRr T k
def PT (s : zv_S) (o O : Nat) (p : Nat → Nat) : Prop := ∀ x, O.testBit x = true → s.1 (o + 7) x = nI (p x)
theorem TR.fr {s t : zv_S} {o n lo hi : Nat} {T : zT} (h : TR s o n T) (hf : FR lo hi s t) (h1 : o + 8 ≤ lo ∨ hi ≤ o) : TR t o n T := by
  unfold TR
  rw [hf.at (a := o) (by omega), hf.at (a := o + 1) (by omega), hf.at (a := o + 2) (by omega), hf.at (a := o + 3) (by omega), hf.at (a := o + 4) (by omega), hf.at (a := o + 5) (by omega), hf.at (a := o + 6) (by omega)]
  exact h
theorem O_7 {O n : Nat} (h7 : n ≤ 7) (hO : ∀ x, O.testBit x = true → x < n) : O < 128 := Nat.lt_pow_two_of_testBit (n := 7) _ fun i hi => by
  cases e : O.testBit i
  · rfl
  · have := hO i e; omega
section TC
variable {sc : Nat × (Nat → Int32)} {s : zv_S} {m o : Nat} {M : zM} {T : zT}
theorem c_has (ho : isT o = true) {n : Nat} (hT : TR s o n T) (h7 : tRi T ≤ 7) (x : Int32) : RI sc 176 [.ref o, .int x] s (bI (decide (0 ≤ x) && decide (x < nI (tRi T)))) s := by
  refine cc_of ml_176 rfl rfl ?_
  have hn := hT.1
  by_cases h0 : x < 0
  · have h1 : ¬ 0 ≤ x := Int32.not_le.mpr h0
    refine v_il1 c_176_0 ?_
    refine v_if_lt_t c_176_1 (h0) ?_
    refine v_icN (n := 0) c_176_8 rfl ?_
    exact v_rb (B := false) c_176_9 rfl ⟨_, rfl, by simp [h1], rfl⟩
  · have h1 : 0 ≤ x := Int32.not_lt.mp h0
    by_cases h2 : nI (tRi T) ≤ x
    · have h3 : ¬ x < nI (tRi T) := Int32.not_lt.mpr h2
      refine v_il1 c_176_0 ?_
      refine v_if_lt_f c_176_1 (h0) ?_
      refine v_il1 c_176_2 ?_
      refine v_al0 c_176_3 ?_
      refine v_gI c_176_4 (kT_f0 ho) (hn) ?_
      refine v_icmp_ge_t c_176_5 (h2) ?_
      refine v_icN (n := 0) c_176_8 rfl ?_
      exact v_rb (B := false) c_176_9 rfl ⟨_, rfl, by simp [h3], rfl⟩
    · have h3 : x < nI (tRi T) := Int32.not_le.mp h2
      refine v_il1 c_176_0 ?_
      refine v_if_lt_f c_176_1 (h0) ?_
      refine v_il1 c_176_2 ?_
      refine v_al0 c_176_3 ?_
      refine v_gI c_176_4 (kT_f0 ho) (hn) ?_
      refine v_icmp_ge_f c_176_5 (h2) ?_
      refine v_icN (n := 1) c_176_6 rfl ?_
      refine v_goto c_176_7 ?_
      exact v_rb (B := true) c_176_9 rfl ⟨_, rfl, by simp [h1, h3], rfl⟩
theorem c_cho (ho : isM m = true) (hM : MK s m M) (hw : MW M) {O i : Nat} (hO : O < 128) (hi : i < mN M) : RI sc 181 [.ref m, .int (nI i), .int (nI O)] s (nI (chs (mN M) (mR M) (mH M) O i)) s := by
  refine cc_of ml_181 rfl rfl ?_
  have h7 := hw.1
  refine v_il1 c_181_0 ?_
  refine v_is3 c_181_1 rfl ?_
  refine v_icN (n := 0) c_181_2 rfl ?_
  refine v_is4 c_181_3 rfl ?_
  refine vv_for (mN M) (fun j => [some (.ref m), some (.int (nI i)), some (.int (nI O)), some (.int (nI (chF (mR M) (mH M) O i j))), some (.int (nI j))]) ?_ ?_
  · intro j hj hk
    have bj := hw.2.2.2.1 j hj
    have hb : chF (mR M) (mH M) O i j < mN M := by
      rcases (chF_is (rk := mR M) (hd := mH M) (O := O) (i := i) j).1 with h | h
      · omega
      · omega
    have bb := hw.2.2.2.1 _ hb
    have e1 := hw.2.2.1 i _ hi bj
    have e2 := hw.2.2.1 i _ hi bb
    have e : chF (mR M) (mH M) O i (j + 1) = if O.testBit j && decide (mR M i (mH M j) < mR M i (mH M (chF (mR M) (mH M) O i j))) then j else chF (mR M) (mH M) O i j := rfl
    rw [e] at hk
    cases h1 : O.testBit j
    · rw [h1] at hk
      simp only [Bool.false_and, Bool.false_eq_true, if_false] at hk
      refine v_il4 c_181_4 ?_
      refine v_al0 c_181_5 ?_
      refine v_gI c_181_6 (kM_f0 ho) (hM.1) ?_
      refine v_icmp_ge_F c_181_7 (by omega) (by omega) (by omega) ?_
      refine v_il2 c_181_8 ?_
      refine v_il4 c_181_9 ?_
      refine v_cSi c_181_10 rfl rfl rfl (k_con (by omega) (by omega)) ?_
      refine v_if_eq_tb c_181_11 (h1) ?_
      refine v_incN4 c_181_29 rfl rfl ?_
      refine v_goto c_181_30 ?_
      exact hk
    · rw [h1] at hk
      by_cases h2 : mR M i (mH M j) < mR M i (mH M (chF (mR M) (mH M) O i j))
      · rw [decide_eq_true h2] at hk
        simp only [Bool.true_and, if_true] at hk
        refine v_il4 c_181_4 ?_
        refine v_al0 c_181_5 ?_
        refine v_gI c_181_6 (kM_f0 ho) (hM.1) ?_
        refine v_icmp_ge_F c_181_7 (by omega) (by omega) (by omega) ?_
        refine v_il2 c_181_8 ?_
        refine v_il4 c_181_9 ?_
        refine v_cSi c_181_10 rfl rfl rfl (k_con (by omega) (by omega)) ?_
        refine v_if_eq_fb c_181_11 (h1) ?_
        refine v_al0 c_181_12 ?_
        refine v_il1 c_181_13 ?_
        refine v_al0 c_181_14 ?_
        refine v_gR c_181_15 (kM_r3 ho) ?_
        refine v_il4 c_181_16 ?_
        refine v_at c_181_17 (kM_a2 ho) (by omega) (hM.2.2.2 j hj) rfl ?_
        refine v_cVi c_181_18 rfl (kM_lt ho) (kM_is ho) rfl (k_rkB ho hM hw hi bj) ?_
        refine v_al0 c_181_19 ?_
        refine v_il1 c_181_20 ?_
        refine v_al0 c_181_21 ?_
        refine v_gR c_181_22 (kM_r3 ho) ?_
        refine v_il3 c_181_23 ?_
        refine v_at c_181_24 (kM_a2 ho) (by omega) (hM.2.2.2 _ hb) rfl ?_
        refine v_cVi c_181_25 rfl (kM_lt ho) (kM_is ho) rfl (k_rkB ho hM hw hi bb) ?_
        refine v_icmp_ge_F c_181_26 (by omega) (by omega) (by omega) ?_
        refine v_il4 c_181_27 ?_
        refine v_is3 c_181_28 rfl ?_
        refine v_incN4 c_181_29 rfl rfl ?_
        refine v_goto c_181_30 ?_
        exact hk
      · rw [decide_eq_false h2] at hk
        simp only [Bool.true_and, Bool.false_eq_true, if_false] at hk
        refine v_il4 c_181_4 ?_
        refine v_al0 c_181_5 ?_
        refine v_gI c_181_6 (kM_f0 ho) (hM.1) ?_
        refine v_icmp_ge_F c_181_7 (by omega) (by omega) (by omega) ?_
        refine v_il2 c_181_8 ?_
        refine v_il4 c_181_9 ?_
        refine v_cSi c_181_10 rfl rfl rfl (k_con (by omega) (by omega)) ?_
        refine v_if_eq_fb c_181_11 (h1) ?_
        refine v_al0 c_181_12 ?_
        refine v_il1 c_181_13 ?_
        refine v_al0 c_181_14 ?_
        refine v_gR c_181_15 (kM_r3 ho) ?_
        refine v_il4 c_181_16 ?_
        refine v_at c_181_17 (kM_a2 ho) (by omega) (hM.2.2.2 j hj) rfl ?_
        refine v_cVi c_181_18 rfl (kM_lt ho) (kM_is ho) rfl (k_rkB ho hM hw hi bj) ?_
        refine v_al0 c_181_19 ?_
        refine v_il1 c_181_20 ?_
        refine v_al0 c_181_21 ?_
        refine v_gR c_181_22 (kM_r3 ho) ?_
        refine v_il3 c_181_23 ?_
        refine v_at c_181_24 (kM_a2 ho) (by omega) (hM.2.2.2 _ hb) rfl ?_
        refine v_cVi c_181_25 rfl (kM_lt ho) (kM_is ho) rfl (k_rkB ho hM hw hi bb) ?_
        refine v_icmp_ge_T c_181_26 (by omega) (by omega) (by omega) ?_
        refine v_incN4 c_181_29 rfl rfl ?_
        refine v_goto c_181_30 ?_
        exact hk
  · refine v_il4 c_181_4 ?_
    refine v_al0 c_181_5 ?_
    refine v_gI c_181_6 (kM_f0 ho) (hM.1) ?_
    refine v_icmp_ge_T c_181_7 (by omega) (by omega) (by omega) ?_
    refine v_il3 c_181_31 ?_
    exact v_ri c_181_32 ⟨_, rfl, rfl, rfl⟩
theorem c_thr (ho : isT o = true) {O : Nat} {p : Nat → Nat} (hO : O < 128) (hP : PT s o O p) (hp : ∀ x, O.testBit x = true → O.testBit (p x) = true) {i : Nat} (hi : O.testBit i = true) : RI sc 183 [.ref o, .int (nI i)] s (nI (rgF p i)) s := by
  refine cc_of ml_183 rfl rfl ?_
  have i7 := tb_7 hO hi
  refine v_icN (n := 0) c_183_0 rfl ?_
  refine v_is2 c_183_1 rfl ?_
  refine v_il1 c_183_2 ?_
  refine v_is3 c_183_3 rfl ?_
  refine v_icN (n := 0) c_183_4 rfl ?_
  refine v_is4 c_183_5 rfl ?_
  refine vv_forS 7 (fun k ls t => ls = [some (.ref o), some (.int (nI i)), some (.int (nI (mtS p i k))), some (.int (nI (itr p k i))), some (.int (nI k))] ∧ t = s ∧ ∀ a, a < k → itr p (a + 1) i ≠ i) ?_ ?_ _ _ ⟨rfl, rfl, fun a ha => absurd ha (by omega)⟩
  · rintro k ls t hk ⟨rfl, rfl, g⟩ hkk
    have hin := itr_cl (P := fun x => O.testBit x = true) hp hi k
    have hin2 := hp _ hin
    have h7 := tb_7 hO hin
    have h72 := tb_7 hO hin2
    have em : mtS p i k ||| 2 ^ itr p k i = mtS p i (k + 1) := rfl
    by_cases e : p (itr p k i) = i
    · have hK := rgK_at g e hk
      refine v_il4 c_183_6 ?_
      refine v_bpN (n := 7) c_183_7 rfl ?_
      refine v_icmp_ge_F c_183_8 (by omega) (by omega) (by omega) ?_
      refine v_il2 c_183_9 ?_
      refine v_il3 c_183_10 ?_
      refine v_cSi c_183_11 rfl rfl rfl (k_bit (by omega)) ?_
      refine v_iorN c_183_12 ?_
      refine v_is2 c_183_13 rfl ?_
      refine v_al0 c_183_14 ?_
      refine v_gR c_183_15 (kT_r8 ho) ?_
      refine v_il3 c_183_16 ?_
      refine v_at c_183_17 (kT_a7 ho) (by omega) (hP _ hin) rfl ?_
      refine v_is3 c_183_18 rfl ?_
      refine v_il3 c_183_19 ?_
      refine v_il1 c_183_20 ?_
      refine v_icmp_ne_F c_183_21 (e) (by omega) (by omega) ?_
      refine v_il2 c_183_22 ?_
      exact v_ri c_183_23 ⟨_, rfl, by rw [em]; unfold rgF; rw [hK, if_pos hk], rfl⟩
    · refine v_il4 c_183_6 ?_
      refine v_bpN (n := 7) c_183_7 rfl ?_
      refine v_icmp_ge_F c_183_8 (by omega) (by omega) (by omega) ?_
      refine v_il2 c_183_9 ?_
      refine v_il3 c_183_10 ?_
      refine v_cSi c_183_11 rfl rfl rfl (k_bit (by omega)) ?_
      refine v_iorN c_183_12 ?_
      refine v_is2 c_183_13 rfl ?_
      refine v_al0 c_183_14 ?_
      refine v_gR c_183_15 (kT_r8 ho) ?_
      refine v_il3 c_183_16 ?_
      refine v_at c_183_17 (kT_a7 ho) (by omega) (hP _ hin) rfl ?_
      refine v_is3 c_183_18 rfl ?_
      refine v_il3 c_183_19 ?_
      refine v_il1 c_183_20 ?_
      refine v_icmp_ne_T c_183_21 (e) (by omega) (by omega) ?_
      refine v_incN4 c_183_24 rfl rfl ?_
      refine v_goto c_183_25 ?_
      refine hkk _ _ ⟨rfl, rfl, fun a ha => ?_⟩
      rcases Nat.lt_or_eq_of_le (Nat.le_of_lt_succ ha) with h | h
      · exact g a h
      · rw [h]; exact e
  · rintro ls t ⟨rfl, rfl, g⟩
    have hK : rgK p i = 7 := lf_all 7 fun a ha => by simpa using g a ha
    refine v_il4 c_183_6 ?_
    refine v_bpN (n := 7) c_183_7 rfl ?_
    refine v_icmp_ge_T c_183_8 (by omega) (by omega) (by omega) ?_
    refine v_icN (n := 0) c_183_26 rfl ?_
    exact v_ri c_183_27 ⟨_, rfl, by unfold rgF; rw [hK]; rfl, rfl⟩
theorem c_add (hm : isM m = true) (ho : isT o = true) (hM : MK s m M) (hw : MW M) {R : Nat} {p : Nat → Nat} (hT : TR s o (mN M) T) (hri : tRi T < 7) (hR : ∀ x, R.testBit x = true → x < mN M) (hP : PT s o R p) (hp : ∀ x, R.testBit x = true → R.testBit (p x) = true) :
    CC sc 184 [.ref o, .ref m, .int (nI R)] s (QV fun t => TR t o (mN M) (tAdd (mH M) p T R) ∧ t.1 (o + 7) = s.1 (o + 7) ∧ FR o (o + 8) s t) := by
  refine cc_of ml_184 rfl rfl ?_
  have h7 := hw.1
  have hdj := kMT_dj hm ho
  have hR128 := O_7 h7 hR
  obtain ⟨q0, q1, q2, q3⟩ := hT
  refine v_icN (n := 0) c_184_0 rfl ?_
  refine v_is3 c_184_1 rfl ?_
  refine vv_forS (mN M) (fun i ls t => ls = [some (.ref o), some (.ref m), some (.int (nI R)), some (.int (nI i))] ∧ (∀ j, j < mN M → t.1 (o + 1) j = (if j < i ∧ R.testBit j = true then nI (mH M (p j)) else tGe T j) ∧ t.1 (o + 2) j = (if j < i ∧ R.testBit j = true then nI (tRo T) else tRf T j) ∧ t.1 (o + 3) j = (if j < i ∧ R.testBit j = true then nI (tRi T) else tGf T j)) ∧ FR (o + 1) (o + 4) s t) ?_ ?_ _ _ ⟨rfl, fun j hj => ?_, FR.rf⟩
  · rintro i ls t hi ⟨rfl, g1, g2⟩ hk
    have h0 : t.1 m 0 = nI (mN M) := by rw [g2.at (by omega)]; exact hM.1
    have t0 : t.1 o 0 = nI (tRi T) := by rw [g2.at (by omega)]; exact q0
    have t1 : t.1 o 1 = nI (tRo T) := by rw [g2.at (by omega)]; exact q1
    have nx : ∀ (c : Prop) (dc : Decidable c) (x y : Int32), (i < i ∧ c ∨ i < i + 1 ∧ c) = c := fun c _ _ _ => by simp
    cases h1 : R.testBit i
    · refine v_il3 c_184_2 ?_
      refine v_al1 c_184_3 ?_
      refine v_gI c_184_4 (kM_f0 hm) (h0) ?_
      refine v_icmp_ge_F c_184_5 (by omega) (by omega) (by omega) ?_
      refine v_il2 c_184_6 ?_
      refine v_il3 c_184_7 ?_
      refine v_cSi c_184_8 rfl rfl rfl (k_con (by omega) (by omega)) ?_
      refine v_if_eq_tb c_184_9 (h1) ?_
      refine v_incN3 c_184_33 rfl rfl ?_
      refine v_goto c_184_34 ?_
      refine hk _ _ ⟨rfl, fun j hj => ?_, g2⟩
      have e : (j < i + 1 ∧ R.testBit j = true) ↔ (j < i ∧ R.testBit j = true) := by
        constructor
        · rintro ⟨a, b⟩
          refine ⟨?_, b⟩
          rcases Nat.lt_or_eq_of_le (Nat.le_of_lt_succ a) with h | h
          · exact h
          · rw [h, h1] at b; cases b
        · rintro ⟨a, b⟩; exact ⟨by omega, b⟩
      simp only [e]
      exact g1 j hj
    · have hpi := hR _ (hp i h1)
      have bp := hw.2.2.2.1 _ hpi
      refine v_il3 c_184_2 ?_
      refine v_al1 c_184_3 ?_
      refine v_gI c_184_4 (kM_f0 hm) (h0) ?_
      refine v_icmp_ge_F c_184_5 (by omega) (by omega) (by omega) ?_
      refine v_il2 c_184_6 ?_
      refine v_il3 c_184_7 ?_
      refine v_cSi c_184_8 rfl rfl rfl (k_con (by omega) (by omega)) ?_
      refine v_if_eq_fb c_184_9 (h1) ?_
      refine v_al0 c_184_10 ?_
      refine v_gR c_184_11 (kT_r2 ho) ?_
      refine v_il3 c_184_12 ?_
      refine v_al1 c_184_13 ?_
      refine v_gR c_184_14 (kM_r3 hm) ?_
      refine v_al0 c_184_15 ?_
      refine v_gR c_184_16 (kT_r8 ho) ?_
      refine v_il3 c_184_17 ?_
      refine v_at c_184_18 (kT_a7 ho) (by omega) (show t.1 (o + 7) i = nI (p i) by rw [g2.at (by omega)]; exact hP i h1) rfl ?_
      refine v_at c_184_19 (kM_a2 hm) (by omega) (show t.1 (m + 2) (p i) = nI (mH M (p i)) by rw [g2.at (by omega)]; exact hM.2.2.2 _ hpi) rfl ?_
      refine v_put c_184_20 (kT_a1 ho) (by omega) rfl ?_
      refine v_al0 c_184_21 ?_
      refine v_gR c_184_22 (kT_r3 ho) ?_
      refine v_il3 c_184_23 ?_
      refine v_al0 c_184_24 ?_
      refine v_gI c_184_25 (kT_f1 ho) (show (sI t (o + 1) i _).1 o 1 = nI (tRo T) by rw [sI_o (by omega)]; exact t1) ?_
      refine v_put c_184_26 (kT_a2 ho) (by omega) rfl ?_
      refine v_al0 c_184_27 ?_
      refine v_gR c_184_28 (kT_r4 ho) ?_
      refine v_il3 c_184_29 ?_
      refine v_al0 c_184_30 ?_
      refine v_gI c_184_31 (kT_f0 ho) (show (sI (sI t (o + 1) i _) (o + 2) i _).1 o 0 = nI (tRi T) by rw [sI_o (by omega), sI_o (by omega)]; exact t0) ?_
      refine v_put c_184_32 (kT_a3 ho) (by omega) rfl ?_
      refine v_incN3 c_184_33 rfl rfl ?_
      refine v_goto c_184_34 ?_
      refine hk _ _ ⟨rfl, fun j hj => ?_, ((g2.tr (FR.sI (by omega) (by omega))).tr (FR.sI (by omega) (by omega))).tr (FR.sI (by omega) (by omega))⟩
      by_cases e : j = i
      · subst e
        have c : j < j + 1 ∧ R.testBit j = true := ⟨by omega, h1⟩
        rw [if_pos c, if_pos c, if_pos c]
        refine ⟨?_, ?_, ?_⟩
        · rw [sI_o (by omega), sI_o (by omega), sI_s]
        · rw [sI_o (by omega), sI_s]
        · rw [sI_s]
      · have e2 : (j < i + 1 ∧ R.testBit j = true) ↔ (j < i ∧ R.testBit j = true) := by
          constructor
          · rintro ⟨a, b⟩; exact ⟨by omega, b⟩
          · rintro ⟨a, b⟩; exact ⟨by omega, b⟩
        simp only [e2]
        refine ⟨?_, ?_, ?_⟩
        · rw [sI_o (by omega), sI_o (by omega), sI_k e]; exact (g1 j hj).1
        · rw [sI_o (by omega), sI_k e, sI_o (by omega)]; exact (g1 j hj).2.1
        · rw [sI_k e, sI_o (by omega), sI_o (by omega)]; exact (g1 j hj).2.2
  · rintro ls t ⟨rfl, g1, g2⟩
    have h0 : t.1 m 0 = nI (mN M) := by rw [g2.at (by omega)]; exact hM.1
    have t0 : t.1 o 0 = nI (tRi T) := by rw [g2.at (by omega)]; exact q0
    have t1 : t.1 o 1 = nI (tRo T) := by rw [g2.at (by omega)]; exact q1
    refine v_il3 c_184_2 ?_
    refine v_al1 c_184_3 ?_
    refine v_gI c_184_4 (kM_f0 hm) (h0) ?_
    refine v_icmp_ge_T c_184_5 (by omega) (by omega) (by omega) ?_
    refine v_al0 c_184_35 ?_
    refine v_gR c_184_36 (kT_r6 ho) ?_
    refine v_al0 c_184_37 ?_
    refine v_gI c_184_38 (kT_f0 ho) (t0) ?_
    refine v_il2 c_184_39 ?_
    refine v_put c_184_40 (kT_a5 ho) (by omega) rfl ?_
    refine v_al0 c_184_41 ?_
    refine v_gR c_184_42 (kT_r7 ho) ?_
    refine v_al0 c_184_43 ?_
    refine v_gI c_184_44 (kT_f0 ho) (show (sI t (o + 5) _ _).1 o 0 = nI (tRi T) by rw [sI_o (by omega)]; exact t0) ?_
    refine v_al0 c_184_45 ?_
    refine v_gI c_184_46 (kT_f1 ho) (show (sI t (o + 5) _ _).1 o 1 = nI (tRo T) by rw [sI_o (by omega)]; exact t1) ?_
    refine v_put c_184_47 (kT_a6 ho) (by omega) rfl ?_
    refine v_al0 c_184_48 ?_
    refine v_dupr c_184_49 ?_
    refine v_gI c_184_50 (kT_f0 ho) (show (sI (sI t (o + 5) _ _) (o + 6) _ _).1 o 0 = nI (tRi T) by rw [sI_o (by omega), sI_o (by omega)]; exact t0) ?_
    refine v_icN (n := 1) c_184_51 rfl ?_
    refine v_iaddN c_184_52 ?_
    refine v_pI c_184_53 (kT_f0 ho) ?_
    refine v_rv c_184_54 ?_
    refine ⟨rfl, ⟨sI_s, ?_, fun i hi => ?_, fun k hk => ?_⟩, ?_, ?_⟩
    · rw [sI_k (by omega), sI_o (by omega), sI_o (by omega)]; exact t1
    · obtain ⟨b1, b2, b3⟩ := g1 i hi
      have e2 : (i < mN M ∧ R.testBit i = true) ↔ (R.testBit i = true) := ⟨fun h => h.2, fun h => ⟨hi, h⟩⟩
      simp only [e2] at b1 b2 b3
      refine ⟨?_, ?_, ?_, ?_⟩
      · rw [sI_o (by omega), sI_o (by omega), sI_o (by omega)]; exact b1
      · rw [sI_o (by omega), sI_o (by omega), sI_o (by omega)]; exact b2
      · rw [sI_o (by omega), sI_o (by omega), sI_o (by omega)]; exact b3
      · rw [sI_o (by omega), sI_o (by omega), sI_o (by omega), g2.at (by omega)]; exact (q2 i hi).2.2.2
    · have hk : k < tRi T + 1 := hk
      show _ = upd (tTo T) (tRi T) (nI R) k ∧ _ = upd (tRr T) (tRi T) (nI (tRo T)) k
      by_cases e : k = tRi T
      · subst e
        rw [pk_us, pk_us]
        exact ⟨by rw [sI_o (by omega), sI_o (by omega), sI_s], by rw [sI_o (by omega), sI_s]⟩
      · obtain ⟨b1, b2⟩ := q3 k (by omega)
        rw [pk_un e, pk_un e]
        exact ⟨by rw [sI_o (by omega), sI_o (by omega), sI_k e, g2.at (by omega)]; exact b1, by rw [sI_o (by omega), sI_k e, sI_o (by omega), g2.at (by omega)]; exact b2⟩
    · rw [sI_o (by omega), sI_o (by omega), sI_o (by omega), g2.at (by omega)]
    · exact (((g2.up (by omega) (by omega)).tr (FR.sI (by omega) (by omega))).tr (FR.sI (by omega) (by omega))).tr (FR.sI (by omega) (by omega))
  · have c : ¬ (j < 0 ∧ R.testBit j = true) := fun h => absurd h.1 (by omega)
    rw [if_neg c, if_neg c, if_neg c]
    exact ⟨(q2 j hj).1, (q2 j hj).2.1, (q2 j hj).2.2.1⟩
end TC
