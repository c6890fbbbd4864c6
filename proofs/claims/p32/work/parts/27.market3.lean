/-! THE MARKET: what changes it; counting bits -/
theorem k_bc {sc : Nat × (Nat → Int32)} {s : zv_S} {x : Nat} (hx : x < 128) : RI sc 207 [.int (nI x)] s (nI (pc x)) s := by
  refine cc_of ml_207 rfl rfl ?_
  refine v_il0 c_207_0 ?_
  refine v_il0 c_207_1 ?_
  refine v_ic c_207_2 ?_
  refine v_iushr c_207_3 ?_
  refine v_lw c_207_4 ?_
  refine v_iand c_207_5 ?_
  refine v_isub c_207_6 ?_
  refine v_is0 c_207_7 ?_
  refine v_il0 c_207_8 ?_
  refine v_lw c_207_9 ?_
  refine v_iand c_207_10 ?_
  refine v_il0 c_207_11 ?_
  refine v_ic c_207_12 ?_
  refine v_iushr c_207_13 ?_
  refine v_lw c_207_14 ?_
  refine v_iand c_207_15 ?_
  refine v_iadd c_207_16 ?_
  refine v_is0 c_207_17 ?_
  refine v_il0 c_207_18 ?_
  refine v_il0 c_207_19 ?_
  refine v_ic c_207_20 ?_
  refine v_iushr c_207_21 ?_
  refine v_iadd c_207_22 ?_
  refine v_lw c_207_23 ?_
  refine v_iand c_207_24 ?_
  refine v_is0 c_207_25 ?_
  refine v_il0 c_207_26 ?_
  refine v_il0 c_207_27 ?_
  refine v_bp c_207_28 ?_
  refine v_iushr c_207_29 ?_
  refine v_iadd c_207_30 ?_
  refine v_is0 c_207_31 ?_
  refine v_il0 c_207_32 ?_
  refine v_il0 c_207_33 ?_
  refine v_bp c_207_34 ?_
  refine v_iushr c_207_35 ?_
  refine v_iadd c_207_36 ?_
  refine v_is0 c_207_37 ?_
  refine v_il0 c_207_38 ?_
  refine v_bp c_207_39 ?_
  refine v_iand c_207_40 ?_
  exact v_ri c_207_41 ⟨_, rfl, by revert hx; revert x; decide +kernel, rfl⟩
section KM3
variable {sc : Nat × (Nat → Int32)} {s : zv_S} {o : Nat} {M : zM}
theorem k_pct (ho : isM o = true) (hM : MK s o M) (hw : MW M) : RI sc 120 [.ref o] s (nI (pc (mP M))) s := by
  refine cc_of ml_120 rfl rfl ?_
  refine v_al0 c_120_0 ?_
  refine v_cVi c_120_1 rfl (kM_lt ho) (kM_is ho) rfl (k_pre ho hM hw) ?_
  refine v_cSi c_120_2 rfl rfl rfl (k_bc (mP_128 hw)) ?_
  exact v_ri c_120_3 ⟨_, rfl, rfl, rfl⟩
theorem k_snd (ho : isM o = true) (hM : MK s o M) (hw : MW M) {i : Nat} (hi : i < 7) : RV sc 133 [.ref o, .int (nI i)] s (sI s o 1 (nI (mL M ||| 2 ^ i))) := by
  refine cc_of ml_133 rfl rfl ?_
  refine v_al0 c_133_0 ?_
  refine v_dupr c_133_1 ?_
  refine v_gI c_133_2 (kM_f1 ho) (hM.2.1) ?_
  refine v_il1 c_133_3 ?_
  refine v_cSi c_133_4 rfl rfl rfl (k_bit (by omega)) ?_
  refine v_iorN c_133_5 ?_
  refine v_pI c_133_6 (kM_f1 ho) ?_
  exact v_rv c_133_7 ⟨rfl, rfl⟩
theorem MK.snd {i : Nat} (hM : MK s o M) : MK (sI s o 1 (nI (mL M ||| 2 ^ i))) o (mLv M i) := by
  refine ⟨?_, sI_s, fun a b ha hb => ?_, fun a ha => ?_⟩
  · rw [sI_k (by decide)]; exact hM.1
  · rw [sI_o (by omega)]; exact hM.2.2.1 a b ha hb
  · rw [sI_o (by omega)]; exact hM.2.2.2 a ha
theorem MW.lv {i : Nat} (hw : MW M) (hi : i < mN M) : MW (mLv M i) := ⟨hw.1, Nat.or_lt_two_pow hw.2.1 (Nat.pow_lt_pow_right (by omega) hi), hw.2.2⟩
theorem MW.rk {i t r : Nat} (hw : MW M) (hr : r ≤ 9) : MW (mRk M i t r) := by
  refine ⟨hw.1, hw.2.1, fun a b ha hb => ?_, hw.2.2.2⟩
  show (if a = i ∧ b = t then r else mR M a b) ≤ 9
  split
  · exact hr
  · exact hw.2.2.1 a b ha hb
theorem MW.ho (hw : MW M) : MW (mHo M) := ⟨hw.1, Nat.two_pow_pos _, hw.2.2.1, fun a ha => ha, fun a b _ _ h => h⟩
theorem MW.ad (hw : MW M) (h6 : mN M ≤ 6) : MW (mAd M) := by
  refine ⟨?_, ?_, fun a b ha hb => ?_, fun a ha => ?_, fun a b ha hb h => ?_⟩
  · show mN M + 1 ≤ 7
    omega
  · have := hw.2.1
    show mL M < 2 ^ (mN M + 1)
    rw [Nat.pow_succ]
    omega
  · have ha : a < mN M + 1 := ha
    have hb : b < mN M + 1 := hb
    show (if a = mN M ∧ b = mN M then 6 else if a = mN M ∨ b = mN M then 5 else mR M a b) ≤ 9
    split
    · omega
    · split
      · omega
      · exact hw.2.2.1 a b (by omega) (by omega)
  · have ha : a < mN M + 1 := ha
    show (if a = mN M then mN M else mH M a) < mN M + 1
    split
    · omega
    · exact Nat.lt_succ_of_lt (hw.2.2.2.1 a (by omega))
  · have ha : a < mN M + 1 := ha
    have hb : b < mN M + 1 := hb
    have h : (if a = mN M then mN M else mH M a) = (if b = mN M then mN M else mH M b) := h
    by_cases a1 : a = mN M
    · by_cases b1 : b = mN M
      · omega
      · rw [if_pos a1, if_neg b1] at h
        have := hw.2.2.2.1 b (by omega)
        omega
    · rw [if_neg a1] at h
      by_cases b1 : b = mN M
      · rw [if_pos b1] at h
        have := hw.2.2.2.1 a (by omega)
        omega
      · rw [if_neg b1] at h
        exact hw.2.2.2.2 a b (by omega) (by omega) h
/-- everybody at home -/
theorem k_hom0 (ho : isM o = true) {n : Nat} (hn : s.1 o 0 = nI n) (h7 : n ≤ 7) : CC sc 134 [.ref o] s (QI fun x t => x = nI (cnt (fun i => !(s.1 (o + 2) i == nI i)) n) ∧ t.1 o 0 = nI n ∧ t.1 o 1 = nI 0 ∧ t.1 (o + 1) = s.1 (o + 1) ∧ (∀ i, i < n → t.1 (o + 2) i = nI i) ∧ FR o (o + 3) s t) := by
  refine cc_of ml_134 rfl rfl ?_
  refine v_al0 c_134_0 ?_
  refine v_icN (n := 0) c_134_1 rfl ?_
  refine v_pI c_134_2 (kM_f1 ho) ?_
  refine v_icN (n := 0) c_134_3 rfl ?_
  refine v_is1 c_134_4 rfl ?_
  refine v_icN (n := 0) c_134_5 rfl ?_
  refine v_is2 c_134_6 rfl ?_
  refine vv_forS n (fun i ls t => ls = [some (.ref o), some (.int (nI (cnt (fun i => !(s.1 (o + 2) i == nI i)) i))), some (.int (nI i))] ∧ t.1 o 0 = nI n ∧ t.1 o 1 = nI 0 ∧ t.1 (o + 1) = s.1 (o + 1) ∧ (∀ k, k < i → t.1 (o + 2) k = nI k) ∧ (∀ k, i ≤ k → t.1 (o + 2) k = s.1 (o + 2) k) ∧ FR o (o + 3) s t) ?_ ?_ _ _ ⟨rfl, ?_, sI_s, sI_o (by omega), fun k hk => absurd hk (by omega), fun k _ => by rw [sI_o (by omega)], FR.sI (by omega) (by omega)⟩
  · rintro i ls t hi ⟨rfl, h0, h1, h2, h3, h4, h5⟩ hk
    by_cases h : s.1 (o + 2) i = nI i
    · refine v_il2 c_134_7 ?_
      refine v_al0 c_134_8 ?_
      refine v_gI c_134_9 (kM_f0 ho) (h0) ?_
      refine v_icmp_ge_F c_134_10 (by omega) (by omega) (by omega) ?_
      refine v_al0 c_134_11 ?_
      refine v_gR c_134_12 (kM_r3 ho) ?_
      refine v_il2 c_134_13 ?_
      refine v_at c_134_14 (kM_a2 ho) (by omega) ((h4 i (by omega))) rfl ?_
      refine v_il2 c_134_15 ?_
      refine v_icmp_eq_t c_134_16 (h) ?_
      refine v_incN2 c_134_23 rfl rfl ?_
      refine v_goto c_134_24 ?_
      refine hk _ _ ⟨by rw [cnt_f (by simp [h])], h0, h1, h2, fun k hk => ?_, fun k hk => h4 k (by omega), h5⟩
      rcases Nat.lt_or_eq_of_le (Nat.le_of_lt_succ hk) with h6 | h6
      · exact h3 k h6
      · subst h6
        rw [h4 k (by omega)]
        exact h
    · refine v_il2 c_134_7 ?_
      refine v_al0 c_134_8 ?_
      refine v_gI c_134_9 (kM_f0 ho) (h0) ?_
      refine v_icmp_ge_F c_134_10 (by omega) (by omega) (by omega) ?_
      refine v_al0 c_134_11 ?_
      refine v_gR c_134_12 (kM_r3 ho) ?_
      refine v_il2 c_134_13 ?_
      refine v_at c_134_14 (kM_a2 ho) (by omega) ((h4 i (by omega))) rfl ?_
      refine v_il2 c_134_15 ?_
      refine v_icmp_eq_f c_134_16 (h) ?_
      refine v_al0 c_134_17 ?_
      refine v_gR c_134_18 (kM_r3 ho) ?_
      refine v_il2 c_134_19 ?_
      refine v_il2 c_134_20 ?_
      refine v_put c_134_21 (kM_a2 ho) (by omega) rfl ?_
      refine v_incN1 c_134_22 rfl rfl ?_
      refine v_incN2 c_134_23 rfl rfl ?_
      refine v_goto c_134_24 ?_
      refine hk _ _ ⟨by rw [cnt_t (by simp [h])], by rw [sI_o (by omega)]; exact h0, by rw [sI_o (by omega)]; exact h1, by rw [sI_o (by omega)]; exact h2, fun k hk => ?_, fun k hk => ?_, h5.tr (FR.sI (by omega) (by omega))⟩
      · rcases Nat.lt_or_eq_of_le (Nat.le_of_lt_succ hk) with h6 | h6
        · rw [sI_k (by omega)]
          exact h3 k h6
        · subst h6
          exact sI_s
      · rw [sI_k (by omega)]
        exact h4 k (by omega)
  · rintro ls t ⟨rfl, h0, h1, h2, h3, h4, h5⟩
    refine v_il2 c_134_7 ?_
    refine v_al0 c_134_8 ?_
    refine v_gI c_134_9 (kM_f0 ho) (h0) ?_
    refine v_icmp_ge_T c_134_10 (by omega) (by omega) (by omega) ?_
    refine v_il1 c_134_25 ?_
    refine v_ri c_134_26 ?_
    exact ⟨_, rfl, rfl, h0, h1, h2, h3, h5⟩
  · rw [sI_k (by decide)]
    exact hn
def mHc (M : zM) : Nat := cnt (fun i => !decide (mH M i = i)) (mN M)
theorem cnt_cg {p q : Nat → Bool} : ∀ n, (∀ i, i < n → p i = q i) → cnt p n = cnt q n
  | 0, _ => rfl
  | n + 1, h => by rw [cnt_s, cnt_s, cnt_cg n (fun i hi => h i (by omega)), h n (by omega)]
theorem nI_beq {a b : Nat} (ha : a < 2147483648) (hb : b < 2147483648) : (nI a == nI b) = decide (a = b) := by
  by_cases h : a = b
  · subst h; simp
  · have : nI a ≠ nI b := fun e => h ((nI_eq ha hb).mp e)
    simp [h, this]
theorem k_hom (ho : isM o = true) (hM : MK s o M) (hw : MW M) : CC sc 134 [.ref o] s (QI fun x t => x = nI (mHc M) ∧ MK t o (mHo M) ∧ FR o (o + 3) s t) := by
  have h7 := hw.1
  refine (k_hom0 ho hM.1 h7).mono ?_
  rintro _ t ⟨x, rfl, rfl, h0, h1, h2, h3, h4⟩
  refine ⟨_, rfl, ?_, ⟨h0, h1, fun a b ha hb => by rw [h2]; exact hM.2.2.1 a b ha hb, h3⟩, h4⟩
  unfold mHc
  congr 1
  refine cnt_cg _ fun i hi => ?_
  have := hw.2.2.2.1 i hi
  rw [hM.2.2.2 i hi, nI_beq (by omega) (by omega)]
theorem k_tak (ho : isM o = true) {p : Nat} (hp : isT p = true) (hM : MK s o M) (hw : MW M) {S : Nat} (hS : S < 2147483648) {g : Nat → Nat} (hg : ∀ i, i < mN M → S.testBit i = true → s.1 (p + 1) i = nI (g i) ∧ g i < 7) :
    CC sc 132 [.ref o, .ref p, .int (nI S)] s (QI fun x t => x = nI (cnt (fun i => S.testBit i && !decide (mH M i = g i)) (mN M)) ∧ MK t o (mTk M S g) ∧ FR o (o + 3) s t) := by
  refine cc_of ml_132 rfl rfl ?_
  have h7 := hw.1
  have hdj := kMT_dj ho hp
  refine v_icN (n := 0) c_132_0 rfl ?_
  refine v_is3 c_132_1 rfl ?_
  refine v_icN (n := 0) c_132_2 rfl ?_
  refine v_is4 c_132_3 rfl ?_
  refine vv_forS (mN M) (fun i ls t => (∃ y, ls = [some (.ref o), some (.ref p), some (.int (nI S)), some (.int (nI (cnt (fun i => S.testBit i && !decide (mH M i = g i)) i))), some (.int (nI i)), y]) ∧ (∀ k, k < mN M → t.1 (o + 2) k = nI (if k < i then mH (mTk M S g) k else mH M k)) ∧ FR (o + 2) (o + 3) s t) ?_ ?_ _ _ ⟨⟨_, rfl⟩, fun k hk => by rw [if_neg (by omega)]; exact hM.2.2.2 k hk, FR.rf⟩
  · rintro i ls t hi ⟨⟨y, rfl⟩, h3, h5⟩ hk
    have b1 := hw.2.2.2.1 i hi
    have h0 : t.1 o 0 = nI (mN M) := by rw [h5.at (by omega)]; exact hM.1
    have h3i := h3 i hi
    rw [if_neg (by omega)] at h3i
    have nxt : ∀ u : zv_S, (∀ k, k < mN M → k ≠ i → u.1 (o + 2) k = t.1 (o + 2) k) → u.1 (o + 2) i = nI (mH (mTk M S g) i) → ∀ k, k < mN M → u.1 (o + 2) k = nI (if k < i + 1 then mH (mTk M S g) k else mH M k) := by
      intro u h1 h2 k hk
      by_cases e : k = i
      · subst e
        rw [if_pos (by omega)]
        exact h2
      · rw [h1 k hk e, h3 k hk]
        by_cases e2 : k < i
        · rw [if_pos e2, if_pos (by omega)]
        · rw [if_neg e2, if_neg (by omega)]
    cases hb : S.testBit i
    · refine v_il4 c_132_4 ?_
      refine v_al0 c_132_5 ?_
      refine v_gI c_132_6 (kM_f0 ho) (h0) ?_
      refine v_icmp_ge_F c_132_7 (by omega) (by omega) (by omega) ?_
      refine v_al1 c_132_8 ?_
      refine v_gR c_132_9 (kT_r2 hp) ?_
      refine v_il4 c_132_10 ?_
      refine v_at c_132_11 (kT_a1 hp) (by omega) rfl rfl ?_
      refine v_is5 c_132_12 rfl ?_
      refine v_il2 c_132_13 ?_
      refine v_il4 c_132_14 ?_
      refine v_cSi c_132_15 rfl rfl rfl (k_con hS (by omega)) ?_
      refine v_if_eq_tb c_132_16 (hb) ?_
      refine v_incN4 c_132_29 rfl rfl ?_
      refine v_goto c_132_30 ?_
      refine hk _ _ ⟨⟨_, by rw [cnt_f (by simp [hb])]⟩, nxt _ (fun _ _ _ => rfl) ?_, h5⟩
      rw [h3i]
      show nI (mH M i) = nI (if S.testBit i then g i else mH M i)
      rw [hb]; rfl
    · obtain ⟨hg1, hg2⟩ := hg i hi hb
      have hg3 : t.1 (p + 1) i = nI (g i) := by rw [h5.at (by omega)]; exact hg1
      by_cases e : mH M i = g i
      · refine v_il4 c_132_4 ?_
        refine v_al0 c_132_5 ?_
        refine v_gI c_132_6 (kM_f0 ho) (h0) ?_
        refine v_icmp_ge_F c_132_7 (by omega) (by omega) (by omega) ?_
        refine v_al1 c_132_8 ?_
        refine v_gR c_132_9 (kT_r2 hp) ?_
        refine v_il4 c_132_10 ?_
        refine v_at c_132_11 (kT_a1 hp) (by omega) (hg3) rfl ?_
        refine v_is5 c_132_12 rfl ?_
        refine v_il2 c_132_13 ?_
        refine v_il4 c_132_14 ?_
        refine v_cSi c_132_15 rfl rfl rfl (k_con hS (by omega)) ?_
        refine v_if_eq_fb c_132_16 (hb) ?_
        refine v_al0 c_132_17 ?_
        refine v_gR c_132_18 (kM_r3 ho) ?_
        refine v_il4 c_132_19 ?_
        refine v_at c_132_20 (kM_a2 ho) (by omega) (h3i) rfl ?_
        refine v_il5 c_132_21 ?_
        refine v_icmp_eq_T c_132_22 (e) (by omega) (by omega) ?_
        refine v_incN4 c_132_29 rfl rfl ?_
        refine v_goto c_132_30 ?_
        refine hk _ _ ⟨⟨_, by rw [cnt_f (by simp [e])]⟩, nxt _ (fun _ _ _ => rfl) ?_, h5⟩
        rw [h3i]
        show nI (mH M i) = nI (if S.testBit i then g i else mH M i)
        rw [hb, if_pos rfl, e]
      · refine v_il4 c_132_4 ?_
        refine v_al0 c_132_5 ?_
        refine v_gI c_132_6 (kM_f0 ho) (h0) ?_
        refine v_icmp_ge_F c_132_7 (by omega) (by omega) (by omega) ?_
        refine v_al1 c_132_8 ?_
        refine v_gR c_132_9 (kT_r2 hp) ?_
        refine v_il4 c_132_10 ?_
        refine v_at c_132_11 (kT_a1 hp) (by omega) (hg3) rfl ?_
        refine v_is5 c_132_12 rfl ?_
        refine v_il2 c_132_13 ?_
        refine v_il4 c_132_14 ?_
        refine v_cSi c_132_15 rfl rfl rfl (k_con hS (by omega)) ?_
        refine v_if_eq_fb c_132_16 (hb) ?_
        refine v_al0 c_132_17 ?_
        refine v_gR c_132_18 (kM_r3 ho) ?_
        refine v_il4 c_132_19 ?_
        refine v_at c_132_20 (kM_a2 ho) (by omega) (h3i) rfl ?_
        refine v_il5 c_132_21 ?_
        refine v_icmp_eq_F c_132_22 (e) (by omega) (by omega) ?_
        refine v_al0 c_132_23 ?_
        refine v_gR c_132_24 (kM_r3 ho) ?_
        refine v_il4 c_132_25 ?_
        refine v_il5 c_132_26 ?_
        refine v_put c_132_27 (kM_a2 ho) (by omega) rfl ?_
        refine v_incN3 c_132_28 rfl rfl ?_
        refine v_incN4 c_132_29 rfl rfl ?_
        refine v_goto c_132_30 ?_
        refine hk _ _ ⟨⟨_, by rw [cnt_t (by simp [e, hb])]⟩, nxt _ (fun k _ hk => sI_k hk) ?_, h5.tr (FR.sI (by omega) (by omega))⟩
        rw [sI_s]
        show nI (g i) = nI (if S.testBit i then g i else mH M i)
        rw [hb, if_pos rfl]
  · rintro ls t ⟨⟨y, rfl⟩, h3, h5⟩
    have h0 : t.1 o 0 = nI (mN M) := by rw [h5.at (by omega)]; exact hM.1
    refine v_il4 c_132_4 ?_
    refine v_al0 c_132_5 ?_
    refine v_gI c_132_6 (kM_f0 ho) (h0) ?_
    refine v_icmp_ge_T c_132_7 (by omega) (by omega) (by omega) ?_
    refine v_il3 c_132_31 ?_
    refine v_ri c_132_32 ?_
    refine ⟨_, rfl, rfl, ⟨h0, by rw [h5.at (by omega)]; exact hM.2.1, fun a b ha hb => by rw [h5.at (by omega)]; exact hM.2.2.1 a b ha hb, fun a ha => ?_⟩, h5.up (by omega) (by omega)⟩
    rw [h3 a ha, if_pos (show a < mN M from ha)]
theorem k_bec {p : Nat} (ho : isM o = true) (hp : isM p = true) (hne : o ≠ p) : CC sc 115 [.ref o, .ref p] s (QV fun t => t.1 o 0 = s.1 p 0 ∧ t.1 o 1 = s.1 p 1 ∧ (∀ j, j < 49 → t.1 (o + 1) j = s.1 (p + 1) j) ∧ (∀ j, j < 7 → t.1 (o + 2) j = s.1 (p + 2) j) ∧ FR o (o + 3) s t) := by
  refine cc_of ml_115 rfl rfl ?_
  have hdj := kM_dj ho hp hne
  refine v_al0 c_115_0 ?_
  refine v_al1 c_115_1 ?_
  refine v_gI c_115_2 (kM_f0 hp) rfl ?_
  refine v_pI c_115_3 (kM_f0 ho) ?_
  refine v_al0 c_115_4 ?_
  refine v_al1 c_115_5 ?_
  refine v_gI c_115_6 (kM_f1 hp) rfl ?_
  refine v_pI c_115_7 (kM_f1 ho) ?_
  refine v_al1 c_115_8 ?_
  refine v_gR c_115_9 (kM_r2 hp) ?_
  refine v_al0 c_115_10 ?_
  refine v_gR c_115_11 (kM_r2 ho) ?_
  refine v_cpr c_115_12 (kM_a1 hp) (kM_a1 ho) rfl ?_
  refine v_al1 c_115_13 ?_
  refine v_gR c_115_14 (kM_r3 hp) ?_
  refine v_al0 c_115_15 ?_
  refine v_gR c_115_16 (kM_r3 ho) ?_
  refine v_cpr c_115_17 (kM_a2 hp) (kM_a2 ho) rfl ?_
  refine v_rv c_115_18 ?_
  refine ⟨rfl, ?_, ?_, fun j hj => ?_, fun j hj => ?_, ?_⟩
  · rw [sF_o (by omega), sF_o (by omega), sI_k (by decide), sI_s]
  · rw [sF_o (by omega), sF_o (by omega), sI_s, sI_o (by omega)]
  · rw [sF_o (by omega), sF_s, sI_o (by omega), sI_o (by omega), pk_cpy_in (by omega) (by omega), Nat.zero_add, Nat.sub_zero]
  · rw [sF_s, sF_o (by omega), sI_o (by omega), sI_o (by omega), pk_cpy_in (by omega) (by omega), Nat.zero_add, Nat.sub_zero]
  · exact (((FR.sI (by omega) (by omega)).tr (FR.sI (by omega) (by omega))).tr (FR.sF (by omega) (by omega))).tr (FR.sF (by omega) (by omega))
theorem MK.bec {p : Nat} {t : zv_S} (hM : MK s p M) (h7 : mN M ≤ 7) (h : t.1 o 0 = s.1 p 0 ∧ t.1 o 1 = s.1 p 1 ∧ (∀ j, j < 49 → t.1 (o + 1) j = s.1 (p + 1) j) ∧ (∀ j, j < 7 → t.1 (o + 2) j = s.1 (p + 2) j) ∧ FR o (o + 3) s t) : MK t o M := by
  obtain ⟨h0, h1, h2, h3, -⟩ := h
  refine ⟨by rw [h0]; exact hM.1, by rw [h1]; exact hM.2.1, fun a b ha hb => ?_, fun a ha => ?_⟩
  · rw [h2 _ (by omega)]; exact hM.2.2.1 a b ha hb
  · rw [h3 _ (by omega)]; exact hM.2.2.2 a ha
theorem k_add (ho : isM o = true) (hM : MK s o M) (hw : MW M) (h6 : mN M ≤ 6) : CC sc 136 [.ref o] s (QI fun x t => x = nI (mN M) ∧ MK t o (mAd M) ∧ FR o (o + 3) s t) := by
  refine cc_of ml_136 rfl rfl ?_
  refine v_al0 c_136_0 ?_
  refine v_gI c_136_1 (kM_f0 ho) (hM.1) ?_
  refine v_is1 c_136_2 rfl ?_
  refine v_al0 c_136_3 ?_
  refine v_dupr c_136_4 ?_
  refine v_gI c_136_5 (kM_f0 ho) (hM.1) ?_
  refine v_icN (n := 1) c_136_6 rfl ?_
  refine v_iaddN c_136_7 ?_
  refine v_pI c_136_8 (kM_f0 ho) ?_
  refine v_al0 c_136_9 ?_
  refine v_gR c_136_10 (kM_r3 ho) ?_
  refine v_il1 c_136_11 ?_
  refine v_il1 c_136_12 ?_
  refine v_put c_136_13 (kM_a2 ho) (by omega) rfl ?_
  refine v_icN (n := 0) c_136_14 rfl ?_
  refine v_is2 c_136_15 rfl ?_
  refine vv_forS (mN M) (fun i ls t => ls = [some (.ref o), some (.int (nI (mN M))), some (.int (nI i))] ∧ t.1 o 0 = nI (mN M + 1) ∧ t.1 o 1 = nI (mL M) ∧ (∀ k, k ≤ mN M → t.1 (o + 2) k = nI (mH (mAd M) k)) ∧ (∀ a b, a < mN M → b < mN M → t.1 (o + 1) (a * 7 + b) = nI (mR M a b)) ∧ (∀ a, a < i → t.1 (o + 1) (mN M * 7 + a) = nI 5 ∧ t.1 (o + 1) (a * 7 + mN M) = nI 5) ∧ FR o (o + 3) s t) ?_ ?_ _ _ ⟨rfl, ?_, ?_, ?_, ?_, fun a ha => absurd ha (by omega), (FR.sI (by omega) (by omega)).tr (FR.sI (by omega) (by omega))⟩
  · rintro i ls t hi ⟨rfl, h0, h1, h2, h3, h4, h5⟩ hk
    refine v_il2 c_136_16 ?_
    refine v_il1 c_136_17 ?_
    refine v_icmp_ge_F c_136_18 (by omega) (by omega) (by omega) ?_
    refine v_al0 c_136_19 ?_
    refine v_il1 c_136_20 ?_
    refine v_il2 c_136_21 ?_
    refine v_icN (n := 5) c_136_22 rfl ?_
    refine v_cVv c_136_23 rfl (kM_lt ho) (kM_is ho) rfl (k_put ho (by omega) (by omega)) ?_
    refine v_al0 c_136_24 ?_
    refine v_il2 c_136_25 ?_
    refine v_il1 c_136_26 ?_
    refine v_icN (n := 5) c_136_27 rfl ?_
    refine v_cVv c_136_28 rfl (kM_lt ho) (kM_is ho) rfl (k_put ho (by omega) (by omega)) ?_
    refine v_incN2 c_136_29 rfl rfl ?_
    refine v_goto c_136_30 ?_
    refine hk _ _ ⟨rfl, by rw [sI_o (by omega), sI_o (by omega)]; exact h0, by rw [sI_o (by omega), sI_o (by omega)]; exact h1, fun k hk => by rw [sI_o (by omega), sI_o (by omega)]; exact h2 k hk, fun a b ha hb => by rw [sI_k (by omega), sI_k (by omega)]; exact h3 a b ha hb, fun a ha => ?_, (h5.tr (FR.sI (by omega) (by omega))).tr (FR.sI (by omega) (by omega))⟩
    rcases Nat.lt_or_eq_of_le (Nat.le_of_lt_succ ha) with h6 | h6
    · rw [sI_k (by omega), sI_k (by omega), sI_k (by omega), sI_k (by omega)]
      exact h4 a h6
    · subst h6
      exact ⟨by rw [sI_k (by omega), sI_s], sI_s⟩
  · rintro ls t ⟨rfl, h0, h1, h2, h3, h4, h5⟩
    refine v_il2 c_136_16 ?_
    refine v_il1 c_136_17 ?_
    refine v_icmp_ge_T c_136_18 (by omega) (by omega) (by omega) ?_
    refine v_al0 c_136_31 ?_
    refine v_il1 c_136_32 ?_
    refine v_il1 c_136_33 ?_
    refine v_bpN (n := 6) c_136_34 rfl ?_
    refine v_cVv c_136_35 rfl (kM_lt ho) (kM_is ho) rfl (k_put ho (by omega) (by omega)) ?_
    refine v_il1 c_136_36 ?_
    refine v_ri c_136_37 ?_
    refine ⟨_, rfl, rfl, ⟨by rw [sI_o (by omega)]; exact h0, by rw [sI_o (by omega)]; exact h1, fun a b ha hb => ?_, fun a ha => by rw [sI_o (by omega)]; exact h2 a (Nat.le_of_lt_succ ha)⟩, h5.tr (FR.sI (by omega) (by omega))⟩
    have ha : a < mN M + 1 := ha
    have hb : b < mN M + 1 := hb
    show _ = nI (if a = mN M ∧ b = mN M then 6 else if a = mN M ∨ b = mN M then 5 else mR M a b)
    by_cases e1 : a = mN M
    · by_cases e2 : b = mN M
      · rw [if_pos ⟨e1, e2⟩, e1, e2, sI_s]
      · rw [if_neg (by omega), if_pos (by omega), e1, sI_k (by omega)]
        exact (h4 b (by omega)).1
    · rw [if_neg (by omega), sI_k (by omega)]
      by_cases e2 : b = mN M
      · rw [if_pos (by omega), e2]
        exact (h4 a (by omega)).2
      · rw [if_neg (by omega)]
        exact h3 a b (by omega) (by omega)
  · rw [sI_o (by omega), sI_s]
  · rw [sI_o (by omega), sI_k (by decide)]
    exact hM.2.1
  · intro k hk
    show _ = nI (if k = mN M then mN M else mH M k)
    by_cases e : k = mN M
    · rw [if_pos e, e, sI_s]
    · rw [if_neg e, sI_k e, sI_o (by omega)]
      exact hM.2.2.2 k (show k < mN M by omega)
  · intro a b ha hb
    rw [sI_o (by omega), sI_o (by omega)]
    exact hM.2.2.1 a b ha hb
end KM3
