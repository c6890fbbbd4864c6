/-! THE TEXT: the model's reading -/
section TH
variable {sc : Nat × (Nat → Int32)} {s : zv_S} {tx : Nat → Nat} {len : Nat}
theorem q_sign (hT : TXT s 94 88 7 tx len) {p c : Nat} (hp : s.1 88 18 = nI p) (hp1 : p < 1000) (hc : c < 256) : RI sc 59 [.ref 88, .int (nI c)] s (bI (decide (xAt tx len p = nI c))) (sI s 88 18 (nI (p + (decide (xAt tx len p = nI c)).toNat))) := by
  refine cc_of ml_59 rfl rfl ?_
  obtain ⟨h1, h2, h3⟩ := hT
  by_cases h : p < len
  · have ex : xAt tx len p = nI (tx p) := if_pos h
    obtain ⟨e1, e2⟩ := h3 p h
    by_cases hq : tx p = c
    · have ed : decide (xAt tx len p = nI c) = true := by rw [ex, hq]; simp
      rw [ed]
      refine v_al0 c_59_0 ?_
      refine v_gI c_59_1 rfl (hp) ?_
      refine v_al0 c_59_2 ?_
      refine v_gI c_59_3 rfl (h1) ?_
      refine v_icmp_ge_F c_59_4 (by omega) (by omega) (by omega) ?_
      refine v_al0 c_59_5 ?_
      refine v_gR (n0 := 94) c_59_6 rfl ?_
      refine v_al0 c_59_7 ?_
      refine v_gI c_59_8 rfl (hp) ?_
      refine v_aI c_59_9 rfl (by omega) (e1) ?_
      refine v_il1 c_59_10 ?_
      refine v_icmp_ne_F c_59_11 (hq) (by omega) (by omega) ?_
      refine v_icN (n := 1) c_59_12 rfl ?_
      refine v_goto c_59_13 ?_
      refine v_is2 c_59_15 rfl ?_
      refine v_al0 c_59_16 ?_
      refine v_dupr c_59_17 ?_
      refine v_gI c_59_18 rfl (hp) ?_
      refine v_il2 c_59_19 ?_
      refine v_if_eq_F c_59_20 (by omega) (by omega) ?_
      refine v_icN (n := 1) c_59_21 rfl ?_
      refine v_goto c_59_22 ?_
      refine v_iaddN c_59_24 ?_
      refine v_pI c_59_25 rfl ?_
      refine v_il2 c_59_26 ?_
      exact v_rb (B := true) c_59_27 rfl ⟨_, rfl, rfl, rfl⟩
    · have ed : decide (xAt tx len p = nI c) = false := by
        rw [ex]
        exact decide_eq_false (fun z => hq ((nI_eq (by omega) (by omega)).mp z))
      rw [ed]
      refine v_al0 c_59_0 ?_
      refine v_gI c_59_1 rfl (hp) ?_
      refine v_al0 c_59_2 ?_
      refine v_gI c_59_3 rfl (h1) ?_
      refine v_icmp_ge_F c_59_4 (by omega) (by omega) (by omega) ?_
      refine v_al0 c_59_5 ?_
      refine v_gR (n0 := 94) c_59_6 rfl ?_
      refine v_al0 c_59_7 ?_
      refine v_gI c_59_8 rfl (hp) ?_
      refine v_aI c_59_9 rfl (by omega) (e1) ?_
      refine v_il1 c_59_10 ?_
      refine v_icmp_ne_T c_59_11 (hq) (by omega) (by omega) ?_
      refine v_icN (n := 0) c_59_14 rfl ?_
      refine v_is2 c_59_15 rfl ?_
      refine v_al0 c_59_16 ?_
      refine v_dupr c_59_17 ?_
      refine v_gI c_59_18 rfl (hp) ?_
      refine v_il2 c_59_19 ?_
      refine v_if_eq_T c_59_20 (by omega) (by omega) ?_
      refine v_icN (n := 0) c_59_23 rfl ?_
      refine v_iaddN c_59_24 ?_
      refine v_pI c_59_25 rfl ?_
      refine v_il2 c_59_26 ?_
      exact v_rb (B := false) c_59_27 rfl ⟨_, rfl, rfl, rfl⟩
  · have ed : decide (xAt tx len p = nI c) = false := by
      unfold xAt
      rw [if_neg h]
      exact decide_eq_false (fun z => dg_nn _ hc z.symm)
    rw [ed]
    refine v_al0 c_59_0 ?_
    refine v_gI c_59_1 rfl (hp) ?_
    refine v_al0 c_59_2 ?_
    refine v_gI c_59_3 rfl (h1) ?_
    refine v_icmp_ge_T c_59_4 (by omega) (by omega) (by omega) ?_
    refine v_icN (n := 0) c_59_14 rfl ?_
    refine v_is2 c_59_15 rfl ?_
    refine v_al0 c_59_16 ?_
    refine v_dupr c_59_17 ?_
    refine v_gI c_59_18 rfl (hp) ?_
    refine v_il2 c_59_19 ?_
    refine v_if_eq_T c_59_20 (by omega) (by omega) ?_
    refine v_icN (n := 0) c_59_23 rfl ?_
    refine v_iaddN c_59_24 ?_
    refine v_pI c_59_25 rfl ?_
    refine v_il2 c_59_26 ?_
    exact v_rb (B := false) c_59_27 rfl ⟨_, rfl, rfl, rfl⟩
theorem q_dig (hT : TXT s 94 88 7 tx len) {p lo hi : Nat} (hp : s.1 88 18 = nI p) (hp1 : p < 1000) (hlo : lo ≤ 9) (hhi : hi ≤ 9) : RI sc 60 [.ref 88, .int (nI lo), .int (nI hi)] s (bI (okD tx len lo hi p)) (sI (sI s 88 19 (if p < len then nI (tx p) - nI 48 else (-1))) 88 18 (nI (p + (okD tx len lo hi p).toNat))) := by
  refine cc_of ml_60 rfl rfl ?_
  obtain ⟨h1, h2, h3⟩ := hT
  have key : ∀ D : Int32, (decide ((nI lo).toInt64 ≤ D.toInt64) && decide (D.toInt64 ≤ (nI hi).toInt64)) = (decide (nI lo ≤ D) && decide (D ≤ nI hi)) := fun D => by
    rw [decide_eq_decide.mpr (i64_le (nI lo) D), decide_eq_decide.mpr (i64_le D (nI hi))]
  have fin : ∀ D : Int32, D = (if p < len then nI (tx p) - nI 48 else (-1)) → (decide (nI lo ≤ D) && decide (D ≤ nI hi)) = okD tx len lo hi p := by
    intro D hD
    subst hD
    unfold okD
    by_cases h : p < len
    · have hc := (h3 p h).2
      rw [if_pos h, decide_eq_true h, Bool.true_and]
      have a1 : (nI lo ≤ nI (tx p) - nI 48) ↔ (48 + lo ≤ tx p) := by
        rw [← Int32.not_lt, dg_lt _ hc _ hlo]
        omega
      have a2 : (nI (tx p) - nI 48 ≤ nI hi) ↔ (tx p ≤ 48 + hi) := by
        rw [← Int32.not_lt, dg_gt _ hc _ hhi]
        omega
      rw [decide_eq_decide.mpr a1, decide_eq_decide.mpr a2]
    · rw [if_neg h, decide_eq_false h, Bool.false_and]
      have a1 : ∀ lo, lo ≤ 9 → ¬ nI lo ≤ -1 := by decide +kernel
      rw [decide_eq_false (a1 lo hlo), Bool.false_and]
  by_cases h : p < len
  · obtain ⟨e1, e2⟩ := h3 p h
    refine v_al0 c_60_0 ?_
    refine v_al0 c_60_1 ?_
    refine v_gI c_60_2 rfl (hp) ?_
    refine v_al0 c_60_3 ?_
    refine v_gI c_60_4 rfl (h1) ?_
    refine v_icmp_ge_F c_60_5 (by omega) (by omega) (by omega) ?_
    refine v_al0 c_60_6 ?_
    refine v_gR (n0 := 94) c_60_7 rfl ?_
    refine v_al0 c_60_8 ?_
    refine v_gI c_60_9 rfl (hp) ?_
    refine v_aI c_60_10 rfl (by omega) (e1) ?_
    refine v_bpN (n := 48) c_60_11 rfl ?_
    refine v_isub c_60_12 ?_
    refine v_goto c_60_13 ?_
    refine v_pI c_60_15 rfl ?_
    refine v_al0 c_60_16 ?_
    refine v_gI c_60_17 rfl (sI_s) ?_
    refine v_i2l c_60_18 ?_
    refine v_il1 c_60_19 ?_
    refine v_i2l c_60_20 ?_
    refine v_il2 c_60_21 ?_
    refine v_i2l c_60_22 ?_
    refine v_cSi c_60_23 rfl rfl rfl (q_in _ _ _) ?_
    rw [key, fin _ (by rw [if_pos h]), if_pos h]
    cases hB : okD tx len lo hi p
    · refine v_is3 c_60_24 rfl ?_
      refine v_al0 c_60_25 ?_
      refine v_dupr c_60_26 ?_
      refine v_gI c_60_27 rfl (show (sI s 88 19 _).1 88 18 = nI p by rw [sI_k (by decide)]; exact hp) ?_
      refine v_il3 c_60_28 ?_
      refine v_if_eq_tb c_60_29 (rfl) ?_
      refine v_icN (n := 0) c_60_32 rfl ?_
      refine v_iaddN c_60_33 ?_
      refine v_pI c_60_34 rfl ?_
      refine v_il3 c_60_35 ?_
      exact v_rb (B := false) c_60_36 rfl ⟨_, rfl, rfl, rfl⟩
    · refine v_is3 c_60_24 rfl ?_
      refine v_al0 c_60_25 ?_
      refine v_dupr c_60_26 ?_
      refine v_gI c_60_27 rfl (show (sI s 88 19 _).1 88 18 = nI p by rw [sI_k (by decide)]; exact hp) ?_
      refine v_il3 c_60_28 ?_
      refine v_if_eq_fb c_60_29 (rfl) ?_
      refine v_icN (n := 1) c_60_30 rfl ?_
      refine v_goto c_60_31 ?_
      refine v_iaddN c_60_33 ?_
      refine v_pI c_60_34 rfl ?_
      refine v_il3 c_60_35 ?_
      exact v_rb (B := true) c_60_36 rfl ⟨_, rfl, rfl, rfl⟩
  · refine v_al0 c_60_0 ?_
    refine v_al0 c_60_1 ?_
    refine v_gI c_60_2 rfl (hp) ?_
    refine v_al0 c_60_3 ?_
    refine v_gI c_60_4 rfl (h1) ?_
    refine v_icmp_ge_T c_60_5 (by omega) (by omega) (by omega) ?_
    refine v_ic c_60_14 ?_
    refine v_pI c_60_15 rfl ?_
    refine v_al0 c_60_16 ?_
    refine v_gI c_60_17 rfl (sI_s) ?_
    refine v_i2l c_60_18 ?_
    refine v_il1 c_60_19 ?_
    refine v_i2l c_60_20 ?_
    refine v_il2 c_60_21 ?_
    refine v_i2l c_60_22 ?_
    refine v_cSi c_60_23 rfl rfl rfl (q_in _ _ _) ?_
    rw [key, fin _ (by rw [if_neg h]), if_neg h]
    cases hB : okD tx len lo hi p
    · refine v_is3 c_60_24 rfl ?_
      refine v_al0 c_60_25 ?_
      refine v_dupr c_60_26 ?_
      refine v_gI c_60_27 rfl (show (sI s 88 19 _).1 88 18 = nI p by rw [sI_k (by decide)]; exact hp) ?_
      refine v_il3 c_60_28 ?_
      refine v_if_eq_tb c_60_29 (rfl) ?_
      refine v_icN (n := 0) c_60_32 rfl ?_
      refine v_iaddN c_60_33 ?_
      refine v_pI c_60_34 rfl ?_
      refine v_il3 c_60_35 ?_
      exact v_rb (B := false) c_60_36 rfl ⟨_, rfl, rfl, rfl⟩
    · refine v_is3 c_60_24 rfl ?_
      refine v_al0 c_60_25 ?_
      refine v_dupr c_60_26 ?_
      refine v_gI c_60_27 rfl (show (sI s 88 19 _).1 88 18 = nI p by rw [sI_k (by decide)]; exact hp) ?_
      refine v_il3 c_60_28 ?_
      refine v_if_eq_fb c_60_29 (rfl) ?_
      refine v_icN (n := 1) c_60_30 rfl ?_
      refine v_goto c_60_31 ?_
      refine v_iaddN c_60_33 ?_
      refine v_pI c_60_34 rfl ?_
      refine v_il3 c_60_35 ?_
      exact v_rb (B := true) c_60_36 rfl ⟨_, rfl, rfl, rfl⟩
theorem q_hld (hT : TXT s 94 88 7 tx len) {n b : Nat} (h7 : n ≤ 7) (hb : b ≤ len) (hp : s.1 88 18 = nI b) (h1 : s.1 102 1 = nI 0) (hid : ∀ i, i < n → s.1 102 (2 + i) = nI i) :
    CC sc 61 [.ref 88, .int (nI n)] s (QI fun x t => FW s t ∧ (∀ j, j = 0 ∨ 9 ≤ j → t.1 102 j = s.1 102 j) ∧ ((lf (hOk tx len b n) n = n ∧ x = bI true ∧ t.1 88 18 = nI (hSt tx len b n).1 ∧ t.1 102 1 = nI (hSt tx len b n).2.2.1 ∧ ∀ i, i < n → t.1 102 (2 + i) = nI ((hSt tx len b n).2.2.2 i)) ∨ (lf (hOk tx len b n) n ≠ n ∧ x = bI false ∧ t.1 88 18 = nI (hSt tx len b (lf (hOk tx len b n) n)).1))) := by
  refine cc_of ml_61 rfl rfl ?_
  have hlen := hT.2.1
  refine v_icN (n := 0) c_61_0 rfl ?_
  refine v_is2 c_61_1 rfl ?_
  refine v_icN (n := 0) c_61_2 rfl ?_
  refine v_is3 c_61_3 rfl ?_
  refine vv_forS n (fun i ls t => (∃ y, ls = [some (.ref 88), some (.int (nI n)), some (.int (nI (hSt tx len b i).2.1)), some (.int (nI i)), y]) ∧ (∀ j, j < i → hOk tx len b n j = true) ∧ t.1 88 18 = nI (hSt tx len b i).1 ∧ t.1 102 1 = nI (hSt tx len b i).2.2.1 ∧ (∀ k, k < n → t.1 102 (2 + k) = nI ((hSt tx len b i).2.2.2 k)) ∧ (∀ j, j = 0 ∨ 9 ≤ j → t.1 102 j = s.1 102 j) ∧ FW s t) ?_ ?_ _ _ ⟨⟨none, rfl⟩, fun j hj => absurd hj (by omega), hp, h1, hid, fun _ _ => rfl, FW.rf⟩
  · rintro i ls t hi ⟨⟨y, rfl⟩, g1, g2, g3, g4, g5, g6⟩ hk
    obtain ⟨w1, w2, w3, w4, w5, w6⟩ := hSt_w hb h7 i g1 (by omega)
    obtain ⟨-, w7⟩ := hSt_p (tx := tx) (len := len) (b := b) i
    have hT' := hT.fw g6
    obtain ⟨u, hu⟩ : ∃ u, u = sI (sI t 88 19 (if (hSt tx len b i).1 < len then nI (tx (hSt tx len b i).1) - nI 48 else (-1))) 88 18 (nI ((hSt tx len b i).1 + (okD tx len 0 (n - 1) (hSt tx len b i).1).toNat)) := ⟨_, rfl⟩
    have u1 : FW t u := by rw [hu]; exact (FW.fl (by omega)).tr (FW.fl (by omega))
    have u2 : u.1 102 = t.1 102 := by rw [hu, sI_o (by omega), sI_o (by omega)]
    have u3 : u.1 88 18 = nI ((hSt tx len b i).1 + (okD tx len 0 (n - 1) (hSt tx len b i).1).toNat) := by rw [hu, sI_s]
    have u4 : u.1 88 19 = (if (hSt tx len b i).1 < len then nI (tx (hSt tx len b i).1) - nI 48 else (-1)) := by rw [hu, sI_k (by omega), sI_s]
    have hdg : RI sc 60 [.ref 88, .int (nI 0), .int (nI (n - 1))] t (bI (okD tx len 0 (n - 1) (hSt tx len b i).1)) u := by rw [hu]; exact q_dig hT' g2 (by omega) (by omega) (by omega)
    refine v_il3 c_61_4 ?_
    refine v_il1 c_61_5 ?_
    refine v_icmp_ge_F c_61_6 (by omega) (by omega) (by omega) ?_
    refine v_al0 c_61_7 ?_
    refine v_gI c_61_8 rfl (g2) ?_
    refine v_is4 c_61_9 rfl ?_
    refine v_al0 c_61_10 ?_
    refine v_icN (n := 0) c_61_11 rfl ?_
    refine v_il1 c_61_12 ?_
    refine v_icN (n := 1) c_61_13 rfl ?_
    refine v_isubN c_61_14 (by omega) ?_
    refine v_cVi c_61_15 rfl (by decide) rfl rfl (hdg) ?_
    have bad : hOk tx len b n i = false → VV sc 61 22 [some (.ref 88), some (.int (nI n)), some (.int (nI (hSt tx len b i).2.1)), some (.int (nI i)), some (.int (nI (hSt tx len b i).1))] [] u (QI fun x t => FW s t ∧ (∀ j, j = 0 ∨ 9 ≤ j → t.1 102 j = s.1 102 j) ∧ ((lf (hOk tx len b n) n = n ∧ x = bI true ∧ t.1 88 18 = nI (hSt tx len b n).1 ∧ t.1 102 1 = nI (hSt tx len b n).2.2.1 ∧ ∀ i, i < n → t.1 102 (2 + i) = nI ((hSt tx len b n).2.2.2 i)) ∨ (lf (hOk tx len b n) n ≠ n ∧ x = bI false ∧ t.1 88 18 = nI (hSt tx len b (lf (hOk tx len b n) n)).1))) := by
      intro hbad
      have e9 := lf_at g1 hbad n hi
      refine v_al0 c_61_22 ?_
      refine v_il4 c_61_23 ?_
      refine v_pI c_61_24 rfl ?_
      refine v_icN (n := 0) c_61_25 rfl ?_
      refine v_rb (B := false) c_61_26 rfl ?_
      exact ⟨_, rfl, (g6.tr u1).tr (FW.fl (by omega)), fun j hj => by rw [sI_o (by omega), u2]; exact g5 j hj, Or.inr ⟨by omega, rfl, by rw [e9, sI_s]⟩⟩
    by_cases hd : okD tx len 0 (n - 1) (hSt tx len b i).1 = true
    · obtain ⟨d1, d2, d3⟩ := okD_h hd
      rw [if_pos d1, pk_sub (by omega)] at u4
      cases hbt : (hSt tx len b i).2.1.testBit (tx (hSt tx len b i).1 - 48)
      · have hgood : hOk tx len b n i = true := by unfold hOk; rw [hd, hbt]; rfl
        have g1' : ∀ j, j < i + 1 → hOk tx len b n j = true := fun j hj => by
          rcases Nat.lt_or_eq_of_le (Nat.le_of_lt_succ hj) with h | h
          · exact g1 j h
          · rw [h]; exact hgood
        rw [hd] at u3
        have hTu := hT'.fw u1
        have hTv : TXT (sI u 102 (2 + i) (nI (tx (hSt tx len b i).1 - 48))) 94 88 7 tx len := hTu.fw (FW.wr (by omega))
        have v3 : (sI u 102 (2 + i) (nI (tx (hSt tx len b i).1 - 48))).1 88 18 = nI ((hSt tx len b i).1 + 1) := by rw [sI_o (by omega)]; exact u3
        have v1 : (sI u 102 (2 + i) (nI (tx (hSt tx len b i).1 - 48))).1 102 1 = nI (hSt tx len b i).2.2.1 := by rw [sI_k (by omega), u2]; exact g3
        have e4 : ∀ k, (hSt tx len b (i + 1)).2.2.2 k = if k = i then tx (hSt tx len b i).1 - 48 else (hSt tx len b i).2.2.2 k := fun k => rfl
        have hh : ∀ k, k < n → (sI u 102 (2 + i) (nI (tx (hSt tx len b i).1 - 48))).1 102 (2 + k) = nI ((hSt tx len b (i + 1)).2.2.2 k) := by
          intro k hk
          rw [e4]
          by_cases e : k = i
          · rw [if_pos e, e, sI_s]
          · rw [if_neg e, sI_k (by omega), u2]; exact g4 k hk
        refine v_if_eq_fb c_61_16 (hd) ?_
        refine v_il2 c_61_17 ?_
        refine v_al0 c_61_18 ?_
        refine v_gI c_61_19 rfl (u4) ?_
        refine v_cSi c_61_20 rfl rfl rfl (q_has (by omega) (by omega)) ?_
        refine v_if_eq_tb c_61_21 (hbt) ?_
        refine v_il2 c_61_27 ?_
        refine v_icN (n := 1) c_61_28 rfl ?_
        refine v_al0 c_61_29 ?_
        refine v_gI c_61_30 rfl (u4) ?_
        refine v_ishlN c_61_31 (by omega) ?_
        refine v_iorN c_61_32 ?_
        refine v_is2 c_61_33 rfl ?_
        refine v_al0 c_61_34 ?_
        refine v_gR (n0 := 102) c_61_35 rfl ?_
        refine v_icN (n := 2) c_61_36 rfl ?_
        refine v_il3 c_61_37 ?_
        refine v_iaddN c_61_38 ?_
        refine v_al0 c_61_39 ?_
        refine v_gI c_61_40 rfl (u4) ?_
        refine v_sI c_61_41 rfl (by omega) ?_
        refine v_al0 c_61_42 ?_
        refine v_gR (n0 := 102) c_61_43 rfl ?_
        refine v_icN (n := 1) c_61_44 rfl ?_
        refine v_dup2 c_61_45 ?_
        refine v_aI c_61_46 rfl (by omega) (v1) ?_
        refine v_al0 c_61_47 ?_
        refine v_bpN (n := 33) c_61_48 rfl ?_
        refine v_cVi c_61_49 rfl (by decide) rfl rfl (q_sign hTv v3 (by omega) (by omega)) ?_
        have e2 : (hSt tx len b (i + 1)).2.1 = (hSt tx len b i).2.1 ||| 1 * 2 ^ (tx (hSt tx len b i).1 - 48) := by rw [Nat.one_mul]; rfl
        by_cases h33 : xAt tx len ((hSt tx len b i).1 + 1) = nI 33
        · refine v_if_eq_fb c_61_50 (decide_eq_true h33) ?_
          refine v_icN (n := 1) c_61_51 rfl ?_
          refine v_il3 c_61_52 ?_
          refine v_ishlN c_61_53 (by omega) ?_
          refine v_goto c_61_54 ?_
          refine v_iorN c_61_56 ?_
          refine v_sI c_61_57 rfl (by omega) ?_
          refine v_incN3 c_61_58 rfl rfl ?_
          refine v_goto c_61_59 ?_
          rw [decide_eq_true h33]
          have e1 : (hSt tx len b (i + 1)).1 = (hSt tx len b i).1 + 2 := if_pos h33
          have e3 : (hSt tx len b (i + 1)).2.2.1 = (hSt tx len b i).2.2.1 ||| 1 * 2 ^ i := by rw [Nat.one_mul]; exact if_pos h33
          refine hk _ _ ⟨⟨some (.int (nI (hSt tx len b i).1)), by rw [e2]⟩, g1', ?_, ?_, fun k hk => ?_, fun j hj => ?_, (((g6.tr u1).tr (FW.wr (by omega))).tr (FW.fl (by omega))).tr (FW.wr (by omega))⟩
          · rw [sI_o (by omega), sI_s, e1]; rfl
          · rw [sI_s, e3]
          · rw [sI_k (by omega), sI_o (by omega)]; exact hh k hk
          · rw [sI_k (by omega), sI_o (by omega), sI_k (by omega), u2]; exact g5 j hj
        · refine v_if_eq_tb c_61_50 (decide_eq_false h33) ?_
          refine v_icN (n := 0) c_61_55 rfl ?_
          refine v_iorN c_61_56 ?_
          refine v_sI c_61_57 rfl (by omega) ?_
          refine v_incN3 c_61_58 rfl rfl ?_
          refine v_goto c_61_59 ?_
          rw [decide_eq_false h33]
          have e1 : (hSt tx len b (i + 1)).1 = (hSt tx len b i).1 + 1 := if_neg h33
          have e3 : (hSt tx len b (i + 1)).2.2.1 = (hSt tx len b i).2.2.1 ||| 0 := by rw [Nat.or_zero]; exact if_neg h33
          refine hk _ _ ⟨⟨some (.int (nI (hSt tx len b i).1)), by rw [e2]⟩, g1', ?_, ?_, fun k hk => ?_, fun j hj => ?_, (((g6.tr u1).tr (FW.wr (by omega))).tr (FW.fl (by omega))).tr (FW.wr (by omega))⟩
          · rw [sI_o (by omega), sI_s, e1]; rfl
          · rw [sI_s, e3]
          · rw [sI_k (by omega), sI_o (by omega)]; exact hh k hk
          · rw [sI_k (by omega), sI_o (by omega), sI_k (by omega), u2]; exact g5 j hj
      · have b9 := bad (by unfold hOk; rw [hd, hbt]; rfl)
        refine v_if_eq_fb c_61_16 (hd) ?_
        refine v_il2 c_61_17 ?_
        refine v_al0 c_61_18 ?_
        refine v_gI c_61_19 rfl (u4) ?_
        refine v_cSi c_61_20 rfl rfl rfl (q_has (by omega) (by omega)) ?_
        refine v_if_eq_fb c_61_21 (hbt) ?_
        exact b9
    · have b9 := bad (by unfold hOk; rw [Bool.not_eq_true] at hd; rw [hd]; rfl)
      refine v_if_eq_tb c_61_16 ((by simpa using hd)) ?_
      exact b9
  · rintro ls t ⟨⟨y, rfl⟩, g1, g2, g3, g4, g5, g6⟩
    have e9 := lf_all n g1
    refine v_il3 c_61_4 ?_
    refine v_il1 c_61_5 ?_
    refine v_icmp_ge_T c_61_6 (by omega) (by omega) (by omega) ?_
    refine v_icN (n := 1) c_61_60 rfl ?_
    refine v_rb (B := true) c_61_61 rfl ?_
    exact ⟨_, rfl, g6, g5, Or.inl ⟨e9, rfl, g2, g3, g4⟩⟩
theorem q_mkt (hT : TXT s 94 88 7 tx len) :
    CC sc 62 [.ref 88] s (QI fun x t => FW s t ∧ ((∃ p, pE tx len = some p ∧ x = bI false ∧ t.1 88 18 = nI p) ∨ (pE tx len = none ∧ x = bI true ∧ QM (t.1 102) (pM tx len)))) := by
  refine cc_of ml_62 rfl rfl ?_
  have hlen := hT.2.1
  obtain ⟨u, hu⟩ : ∃ u, u = sI (sI s 88 18 (nI 0)) 102 1 (nI 0) := ⟨_, rfl⟩
  have fu : FW s u := by rw [hu]; exact (FW.fl (by omega)).tr (FW.wr (by omega))
  have u1 : u.1 88 18 = nI 0 := by rw [hu, sI_o (by omega), sI_s]
  have u2 : u.1 102 1 = nI 0 := by rw [hu, sI_s]
  refine v_al0 c_62_0 ?_
  refine v_icN (n := 0) c_62_1 rfl ?_
  refine v_pI c_62_2 rfl ?_
  refine v_al0 c_62_3 ?_
  refine v_gR (n0 := 102) c_62_4 rfl ?_
  refine v_icN (n := 1) c_62_5 rfl ?_
  refine v_icN (n := 0) c_62_6 rfl ?_
  refine v_sI c_62_7 rfl (by omega) ?_
  rw [← hu]
  have hTu := hT.fw fu
  refine v_al0 c_62_8 ?_
  refine v_bpN (n := 77) c_62_9 rfl ?_
  refine v_cVi c_62_10 rfl (by decide) rfl rfl (q_sign hTu u1 (by omega) (by omega)) ?_
  by_cases c0 : xAt tx len 0 = nI 77
  · rw [decide_eq_true c0]
    obtain ⟨v, hv⟩ : ∃ v, v = sI u 88 18 (nI (0 + true.toNat)) := ⟨_, rfl⟩
    have fv : FW s v := by rw [hv]; exact fu.tr (FW.fl (by omega))
    have v1 : v.1 88 18 = nI 1 := by rw [hv, sI_s]; rfl
    have v2 : v.1 102 1 = nI 0 := by rw [hv, sI_o (by omega)]; exact u2
    rw [← hv]
    have hTv := hT.fw fv
    refine v_if_eq_fb c_62_11 (rfl) ?_
    refine v_al0 c_62_12 ?_
    refine v_icN (n := 1) c_62_13 rfl ?_
    refine v_bpN (n := 7) c_62_14 rfl ?_
    refine v_cVi c_62_15 rfl (by decide) rfl rfl (q_dig hTv v1 (by omega) (by omega) (by omega)) ?_
    by_cases c1 : okD tx len 1 7 1 = true
    · obtain ⟨d1, d2, d3⟩ := okD_h c1
      rw [c1, if_pos d1, pk_sub (by omega)]
      obtain ⟨n, hn⟩ : ∃ n, n = tx 1 - 48 := ⟨_, rfl⟩
      rw [← hn]
      have h7 : n ≤ 7 := by omega
      have h1n : 1 ≤ n := by omega
      have h49 : n * n ≤ 7 * 7 := Nat.mul_le_mul h7 h7
      obtain ⟨w, hw⟩ : ∃ w, w = sI (sI v 88 19 (nI n)) 88 18 (nI (1 + true.toNat)) := ⟨_, rfl⟩
      have fw : FW s w := by rw [hw]; exact (fv.tr (FW.fl (by omega))).tr (FW.fl (by omega))
      have w1 : w.1 88 18 = nI 2 := by rw [hw, sI_s]; rfl
      have w2 : w.1 102 1 = nI 0 := by rw [hw, sI_o (by omega), sI_o (by omega)]; exact v2
      have w3 : w.1 88 19 = nI n := by rw [hw, sI_k (by omega), sI_s]
      rw [← hw]
      refine v_if_ne_tb c_62_16 (rfl) ?_
      refine v_al0 c_62_19 ?_
      refine v_gI c_62_20 rfl (w3) ?_
      refine v_is1 c_62_21 rfl ?_
      refine v_al0 c_62_22 ?_
      refine v_gR (n0 := 102) c_62_23 rfl ?_
      refine v_icN (n := 0) c_62_24 rfl ?_
      refine v_il1 c_62_25 ?_
      refine v_sI c_62_26 rfl (by omega) ?_
      refine v_icN (n := 0) c_62_27 rfl ?_
      refine v_is2 c_62_28 rfl ?_
      refine vv_forS (n * n) (fun k ls t => ls = [some (.ref 88), some (.int (nI n)), some (.int (nI k))] ∧ (∀ j, j < k → okD tx len 0 9 (2 + j) = true) ∧ t.1 88 18 = nI (2 + k) ∧ t.1 102 0 = nI n ∧ t.1 102 1 = nI 0 ∧ (∀ i j, i < n → j < n → i * n + j < k → t.1 102 (9 + 7 * i + j) = nI (tx (2 + (i * n + j)) - 48)) ∧ FW s t) ?_ ?_ _ _ ⟨rfl, fun j hj => absurd hj (by omega), by rw [sI_o (by omega)]; exact w1, by rw [sI_s], by rw [sI_k (by omega)]; exact w2, fun i j _ _ h => absurd h (by omega), fw.tr (FW.wr (by omega))⟩
      · rintro k ls t hk ⟨rfl, g1, g2, g3, g4, g5, g6⟩ hkk
        have hT' := hT.fw g6
        refine v_il2 c_62_29 ?_
        refine v_il1 c_62_30 ?_
        refine v_il1 c_62_31 ?_
        refine v_imulN c_62_32 ?_
        refine v_icmp_ge_F c_62_33 (by omega) (by omega) (by omega) ?_
        refine v_al0 c_62_34 ?_
        refine v_icN (n := 0) c_62_35 rfl ?_
        refine v_bpN (n := 9) c_62_36 rfl ?_
        refine v_cVi c_62_37 rfl (by decide) rfl rfl (q_dig hT' g2 (by omega) (by omega) (by omega)) ?_
        by_cases hd : okD tx len 0 9 (2 + k) = true
        · obtain ⟨e1, e2, e3⟩ := okD_h hd
          rw [hd, if_pos e1, pk_sub (by omega)]
          have hdiv : k / n < n := Nat.div_lt_of_lt_mul hk
          have hmod : k % n < n := Nat.mod_lt _ h1n
          have hdm : n * (k / n) + k % n = k := Nat.div_add_mod k n
          refine v_if_ne_tb c_62_38 (rfl) ?_
          refine v_al0 c_62_41 ?_
          refine v_gR (n0 := 102) c_62_42 rfl ?_
          refine v_bpN (n := 9) c_62_43 rfl ?_
          refine v_bpN (n := 7) c_62_44 rfl ?_
          refine v_il2 c_62_45 ?_
          refine v_il1 c_62_46 ?_
          refine v_idivN c_62_47 (by omega) (by omega) (by omega) ?_
          refine v_imulN c_62_48 ?_
          refine v_iaddN c_62_49 ?_
          refine v_il2 c_62_50 ?_
          refine v_il1 c_62_51 ?_
          refine v_iremN c_62_52 (by omega) (by omega) (by omega) ?_
          refine v_iaddN c_62_53 ?_
          refine v_al0 c_62_54 ?_
          refine v_gI c_62_55 rfl (show (sI _ 88 18 _).1 88 19 = nI (tx (2 + k) - 48) by rw [sI_k (by omega), sI_s]) ?_
          refine v_sI c_62_56 rfl (by omega) ?_
          refine v_incN2 c_62_57 rfl rfl ?_
          refine v_goto c_62_58 ?_
          refine hkk _ _ ⟨rfl, fun j hj => ?_, by rw [sI_o (by omega), sI_s]; rfl, by rw [sI_k (by omega), sI_o (by omega), sI_o (by omega)]; exact g3, by rw [sI_k (by omega), sI_o (by omega), sI_o (by omega)]; exact g4, fun i j hi hj hij => ?_, ((g6.tr (FW.fl (by omega))).tr (FW.fl (by omega))).tr (FW.wr (by omega))⟩
          · rcases Nat.lt_or_eq_of_le (Nat.le_of_lt_succ hj) with h | h
            · exact g1 j h
            · rw [h]; exact hd
          · by_cases e : i * n + j = k
            · have ei : i = k / n := by
                rw [← e, Nat.mul_comm, Nat.mul_add_div (by omega), Nat.div_eq_of_lt hj]
                omega
              have ej : j = k % n := by
                rw [← e, Nat.mul_comm, Nat.mul_add_mod, Nat.mod_eq_of_lt hj]
              rw [ei, ej, sI_s, ← ei, ← ej, e]
            · have hne : 9 + 7 * i + j ≠ 9 + 7 * (k / n) + k % n := by
                intro z
                have : i = k / n := by omega
                have : j = k % n := by omega
                apply e
                rw [← hdm, Nat.mul_comm]
                subst i
                omega
              rw [sI_k hne, sI_o (by omega), sI_o (by omega)]
              exact g5 i j hi hj (by omega)
        · have hd' : okD tx len 0 9 (2 + k) = false := by simpa using hd
          have e9 := lf_at (p := fun k => okD tx len 0 9 (2 + k)) g1 hd' (n * n) hk
          rw [hd']
          refine v_if_ne_fb c_62_38 (rfl) ?_
          refine v_icN (n := 0) c_62_39 rfl ?_
          refine v_rb (B := false) c_62_40 rfl ?_
          refine ⟨_, rfl, (g6.tr (FW.fl (by omega))).tr (FW.fl (by omega)), Or.inl ⟨2 + k, ?_, rfl, by rw [sI_s]; rfl⟩⟩
          unfold pE
          rw [if_pos c0, if_pos c1, ← hn, e9, if_neg (by omega)]
      · rintro ls t ⟨rfl, g1, g2, g3, g4, g5, g6⟩
        have elf := lf_all (p := fun k => okD tx len 0 9 (2 + k)) (n * n) g1
        have hble : 2 + n * n ≤ len := by
          rcases Nat.eq_zero_or_pos (n * n) with h | h
          · omega
          · have := okD_h (g1 (n * n - 1) (by omega))
            omega
        refine v_il2 c_62_29 ?_
        refine v_il1 c_62_30 ?_
        refine v_il1 c_62_31 ?_
        refine v_imulN c_62_32 ?_
        refine v_icmp_ge_T c_62_33 (by omega) (by omega) (by omega) ?_
        refine v_icN (n := 0) c_62_59 rfl ?_
        refine v_is2 c_62_60 rfl ?_
        refine vv_forS n (fun i ls t => ls = [some (.ref 88), some (.int (nI n)), some (.int (nI i))] ∧ t.1 88 18 = nI (2 + n * n) ∧ t.1 102 0 = nI n ∧ t.1 102 1 = nI 0 ∧ (∀ k, k < i → t.1 102 (2 + k) = nI k) ∧ (∀ i j, i < n → j < n → t.1 102 (9 + 7 * i + j) = nI (tx (2 + (i * n + j)) - 48)) ∧ FW s t) ?_ ?_ _ _ ⟨rfl, g2, g3, g4, fun k hk => absurd hk (by omega), fun i j hi hj => g5 i j hi hj ?_, g6⟩
        · rintro i ls t hi ⟨rfl, g2, g3, g4, g5, g6, g7⟩ hk
          refine v_il2 c_62_61 ?_
          refine v_il1 c_62_62 ?_
          refine v_icmp_ge_F c_62_63 (by omega) (by omega) (by omega) ?_
          refine v_al0 c_62_64 ?_
          refine v_gR (n0 := 102) c_62_65 rfl ?_
          refine v_icN (n := 2) c_62_66 rfl ?_
          refine v_il2 c_62_67 ?_
          refine v_iaddN c_62_68 ?_
          refine v_il2 c_62_69 ?_
          refine v_sI c_62_70 rfl (by omega) ?_
          refine v_incN2 c_62_71 rfl rfl ?_
          refine v_goto c_62_72 ?_
          refine hk _ _ ⟨rfl, by rw [sI_o (by omega)]; exact g2, by rw [sI_k (by omega)]; exact g3, by rw [sI_k (by omega)]; exact g4, fun k hk => ?_, fun a b ha hb => by rw [sI_k (by omega)]; exact g6 a b ha hb, g7.tr (FW.wr (by omega))⟩
          by_cases e : k = i
          · rw [e, sI_s]
          · rw [sI_k (by omega)]; exact g5 k (by omega)
        · rintro ls t ⟨rfl, g2, g3, g4, g5, g6, g7⟩
          have hT' := hT.fw g7
          refine v_il2 c_62_61 ?_
          refine v_il1 c_62_62 ?_
          refine v_icmp_ge_T c_62_63 (by omega) (by omega) (by omega) ?_
          refine v_al0 c_62_73 ?_
          refine v_bpN (n := 47) c_62_74 rfl ?_
          refine v_cVi c_62_75 rfl (by decide) rfl rfl (q_sign hT' g2 (by omega) (by omega)) ?_
          by_cases c2 : 2 + n * n < len
          · have ex : xAt tx len (2 + n * n) = nI (tx (2 + n * n)) := if_pos c2
            have hc := (hT.2.2 _ c2).2
            by_cases c3 : tx (2 + n * n) = 47
            · have ed : decide (xAt tx len (2 + n * n) = nI 47) = true := by rw [ex, c3]; simp
              rw [ed]
              refine v_if_eq_fb c_62_76 (rfl) ?_
              refine v_al0 c_62_77 ?_
              refine v_il1 c_62_78 ?_
              refine v_cVI c_62_79 rfl (by decide) rfl rfl (q_hld (hT'.fw (FW.fl (by omega))) h7 (b := 2 + n * n + 1) (by omega) (by rw [sI_s]; rfl) (by rw [sI_o (by omega)]; exact g4) (fun i hi => by rw [sI_o (by omega)]; exact g5 i hi)) ?_
              rintro x t3 ⟨f3, r1, r2⟩
              have f4 : FW s t3 := (g7.tr (FW.fl (by omega))).tr f3
              rcases r2 with ⟨e3, rfl, r4, r5, r6⟩ | ⟨e3, rfl, r4⟩
              · obtain ⟨hp1, hp2⟩ := hSt_p (tx := tx) (len := len) (b := 2 + n * n + 1) n
                have hle : (hSt tx len (2 + n * n + 1) n).1 ≤ len := by
                  have hg := (lf_lt (p := hOk tx len (2 + n * n + 1) n) n).1
                  rw [e3] at hg
                  exact (hSt_w (by omega) h7 n hg (Nat.le_refl _)).1
                have hl3 : t3.1 88 7 = nI len := by rw [f4.2.2.2.1]; exact hT.1
                by_cases c4 : (hSt tx len (2 + n * n + 1) n).1 < len
                · refine v_if_ne_tb c_62_80 (rfl) ?_
                  refine v_al0 c_62_83 ?_
                  refine v_gI c_62_84 rfl (r4) ?_
                  refine v_al0 c_62_85 ?_
                  refine v_gI c_62_86 rfl (hl3) ?_
                  refine v_icmp_ne_T c_62_87 (by omega) (by omega) (by omega) ?_
                  refine v_icN (n := 0) c_62_90 rfl ?_
                  refine v_rb (B := false) c_62_91 rfl ?_
                  refine ⟨_, rfl, f4, Or.inl ⟨_, ?_, rfl, r4⟩⟩
                  unfold pE
                  rw [if_pos c0, if_pos c1, ← hn, if_pos elf, if_pos c2, if_pos c3, if_pos e3, if_pos c4]
                · refine v_if_ne_tb c_62_80 (rfl) ?_
                  refine v_al0 c_62_83 ?_
                  refine v_gI c_62_84 rfl (r4) ?_
                  refine v_al0 c_62_85 ?_
                  refine v_gI c_62_86 rfl (hl3) ?_
                  refine v_icmp_ne_F c_62_87 (by omega) (by omega) (by omega) ?_
                  refine v_icN (n := 1) c_62_88 rfl ?_
                  refine v_goto c_62_89 ?_
                  refine v_rb (B := true) c_62_91 rfl ?_
                  refine ⟨_, rfl, f4, Or.inr ⟨?_, rfl, ?_⟩⟩
                  · unfold pE
                    rw [if_pos c0, if_pos c1, ← hn, if_pos elf, if_pos c2, if_pos c3, if_pos e3, if_neg c4]
                  · unfold pM
                    rw [← hn, if_pos c2, if_pos c2]
                    refine ⟨?_, r5, r6, fun i j hi hj => ?_⟩
                    · rw [r1 _ (by omega), sI_o (by omega)]; exact g3
                    · rw [r1 _ (by omega), sI_o (by omega)]
                      exact g6 i j hi hj
              · refine v_if_ne_fb c_62_80 (rfl) ?_
                refine v_icN (n := 0) c_62_81 rfl ?_
                refine v_rb (B := false) c_62_82 rfl ?_
                refine ⟨_, rfl, f4, Or.inl ⟨_, ?_, rfl, r4⟩⟩
                unfold pE
                rw [if_pos c0, if_pos c1, ← hn, if_pos elf, if_pos c2, if_pos c3, if_neg e3]
            · have ed : decide (xAt tx len (2 + n * n) = nI 47) = false := by
                rw [ex]
                exact decide_eq_false (fun z => c3 ((nI_eq (by omega) (by omega)).mp z))
              rw [ed]
              have hl3 : (sI t 88 18 (nI (2 + n * n + false.toNat))).1 88 7 = nI len := by rw [sI_k (by omega), g7.2.2.2.1]; exact hT.1
              refine v_if_eq_tb c_62_76 (rfl) ?_
              refine v_al0 c_62_83 ?_
              refine v_gI c_62_84 rfl (show (sI t 88 18 (nI (2 + n * n + false.toNat))).1 88 18 = nI (2 + n * n) by rw [sI_s]; rfl) ?_
              refine v_al0 c_62_85 ?_
              refine v_gI c_62_86 rfl (hl3) ?_
              refine v_icmp_ne_T c_62_87 (by omega) (by omega) (by omega) ?_
              refine v_icN (n := 0) c_62_90 rfl ?_
              refine v_rb (B := false) c_62_91 rfl ?_
              refine ⟨_, rfl, g7.tr (FW.fl (by omega)), Or.inl ⟨2 + n * n, ?_, rfl, by rw [sI_s]; rfl⟩⟩
              unfold pE
              rw [if_pos c0, if_pos c1, ← hn, if_pos elf, if_pos c2, if_neg c3]
          · have ed : decide (xAt tx len (2 + n * n) = nI 47) = false := by
              unfold xAt
              rw [if_neg c2]
              rfl
            rw [ed]
            have hl3 : (sI t 88 18 (nI (2 + n * n + false.toNat))).1 88 7 = nI len := by rw [sI_k (by omega), g7.2.2.2.1]; exact hT.1
            refine v_if_eq_tb c_62_76 (rfl) ?_
            refine v_al0 c_62_83 ?_
            refine v_gI c_62_84 rfl (show (sI t 88 18 (nI (2 + n * n + false.toNat))).1 88 18 = nI (2 + n * n) by rw [sI_s]; rfl) ?_
            refine v_al0 c_62_85 ?_
            refine v_gI c_62_86 rfl (hl3) ?_
            refine v_icmp_ne_F c_62_87 (by omega) (by omega) (by omega) ?_
            refine v_icN (n := 1) c_62_88 rfl ?_
            refine v_goto c_62_89 ?_
            refine v_rb (B := true) c_62_91 rfl ?_
            refine ⟨_, rfl, g7.tr (FW.fl (by omega)), Or.inr ⟨?_, rfl, ?_⟩⟩
            · unfold pE
              rw [if_pos c0, if_pos c1, ← hn, if_pos elf, if_neg c2]
            · unfold pM
              rw [← hn, if_neg c2, if_neg c2, sI_o (by omega)]
              exact ⟨g3, g4, g5, g6⟩
        · have hm : i * n + n ≤ n * n := by
            have : (i + 1) * n ≤ n * n := Nat.mul_le_mul_right n hi
            rw [Nat.succ_mul] at this
            exact this
          omega
    · have c1' : okD tx len 1 7 1 = false := by simpa using c1
      rw [c1']
      refine v_if_ne_fb c_62_16 (rfl) ?_
      refine v_icN (n := 0) c_62_17 rfl ?_
      refine v_rb (B := false) c_62_18 rfl ?_
      refine ⟨_, rfl, (fv.tr (FW.fl (by omega))).tr (FW.fl (by omega)), Or.inl ⟨1, ?_, rfl, by rw [sI_s]; rfl⟩⟩
      unfold pE
      rw [if_pos c0, if_neg c1]
  · rw [decide_eq_false c0]
    refine v_if_eq_tb c_62_11 (rfl) ?_
    refine v_icN (n := 0) c_62_17 rfl ?_
    refine v_rb (B := false) c_62_18 rfl ?_
    refine ⟨_, rfl, fu.tr (FW.fl (by omega)), Or.inl ⟨0, ?_, rfl, by rw [sI_s]; rfl⟩⟩
    unfold pE
    rw [if_neg c0]
end TH
