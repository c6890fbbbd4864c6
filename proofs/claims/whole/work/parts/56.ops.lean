/-! CALLS: text, numbers -/
theorem PM.sur {n : Nat} {H : Nat → Nat} (hH : PM n H) {t : Nat} (ht : t < n) : ∃ i, i < n ∧ H i = t := by
  refine Classical.byContradiction fun hno => ?_
  have h1 : (lhL n H n).testBit t = true := (lhL_tb n t).mpr ⟨ht, fun j hj e => hno ⟨j, hj, e⟩⟩
  have h2 := lhL_cnt hH n (Nat.le_refl _)
  have h3 := cnt_lt (p := fun j => (lhL n H n).testBit j) h1 ht
  omega
theorem xm_e {s : zv_S} {W : zW} {x : Int32} {k : Nat} (h : RMw s W) : XM s W (.inl k) x (sI (sI s 88 8 (nI 0)) 88 8 (nI k)) := xm_x h GM.th (by rw [sI_o (by omega)]; exact h.1)
theorem sw_no {x : Int32} {ts : List Nat} {d : Nat} (h : inN ts.length x = false) (hl : ts.length < 100) : zm_sw ts d 0 x = d := by
  unfold zm_sw
  by_cases h0 : x.toInt < (0 : Int32).toInt
  · rw [if_pos h0]
  · rw [if_neg h0]
    have h2 : ¬ x < 0 := fun z => h0 (Int32.lt_iff_toInt_lt.mp z)
    obtain ⟨j, hj, rfl⟩ := nI_of h2
    have h1 : ts.length ≤ j := by
      refine Nat.le_of_not_lt fun z => ?_
      unfold inN at h
      rw [decide_eq_true (nI_pos' hj), decide_eq_true ((nI_ltI hj (by omega)).mpr z)] at h
      cases h
    have e : ((nI j).toInt - (0 : Int32).toInt).toNat = j := by
      rw [nI_toInt hj, show (0 : Int32).toInt = 0 from rfl]
      omega
    rw [e, List.getElem?_eq_none h1]
section OP1
variable {sc : Nat × (Nat → Int32)} {M : zM} {L : List zM} {S : Nat → Option zM} {tx : Nat → Nat} {len : Nat}
theorem o_app (hw : WA M L S) (x : Int32) : OK2 sc (fun k => k - 1) 2 1 57 [.ref 0, .int x] [.ref 88, .int x] (M, L, S, tx, len) := by
  by_cases h0 : x < 0
  · refine ⟨.inl 1, fun s h => ?_, fun s h => ?_, ⟨by omega, by omega⟩⟩
    · refine cc_of ml_1 rfl rfl ?_
      refine v_il1 c_1_0 ?_
      refine v_if_lt_t c_1_1 (h0) ?_
      refine vv_x c_1_5 ?_
      exact xc_e h rfl
    · refine cc_of ml_57 rfl rfl ?_
      refine v_al0 c_57_0 ?_
      refine v_icN (n := 0) c_57_1 rfl ?_
      refine v_pI c_57_2 rfl ?_
      refine v_il1 c_57_3 ?_
      refine v_i2l c_57_4 ?_
      refine v_lc c_57_5 ?_
      refine v_l2 c_57_6 ?_
      refine v_cSi c_57_7 rfl rfl rfl (q_inC x (nI 0) (nI 255) (by decide) (by decide)) ?_
      refine v_if_ne_fb c_57_8 (by rw [show decide (nI 0 ≤ x) = false from decide_eq_false (Int32.not_le.mpr h0)]; rfl) ?_
      refine v_al0 c_57_9 ?_
      refine v_icN (n := 1) c_57_10 rfl ?_
      refine v_cVi c_57_11 rfl (by decide) rfl rfl (q_fl) ?_
      refine v_ri c_57_12 ?_
      exact ⟨_, rfl, xm_e h⟩
  obtain ⟨c, hc31, rfl⟩ := nI_of h0
  by_cases h1 : 255 < c
  · refine ⟨.inl 1, fun s h => ?_, fun s h => ?_, ⟨by omega, by omega⟩⟩
    · refine cc_of ml_1 rfl rfl ?_
      refine v_il1 c_1_0 ?_
      refine v_if_lt_F c_1_1 (by omega) ?_
      refine v_il1 c_1_2 ?_
      refine v_spN (n := 255) c_1_3 rfl ?_
      refine v_icmp_le_F c_1_4 (by omega) (by omega) (by omega) ?_
      refine vv_x c_1_5 ?_
      exact xc_e h rfl
    · refine cc_of ml_57 rfl rfl ?_
      refine v_al0 c_57_0 ?_
      refine v_icN (n := 0) c_57_1 rfl ?_
      refine v_pI c_57_2 rfl ?_
      refine v_il1 c_57_3 ?_
      refine v_i2l c_57_4 ?_
      refine v_lc c_57_5 ?_
      refine v_l2 c_57_6 ?_
      refine v_cSi c_57_7 rfl rfl rfl (q_inC (nI c) (nI 0) (nI 255) (by decide) (by decide)) ?_
      refine v_if_ne_fb c_57_8 (by rw [show decide (nI c ≤ nI 255) = false from decide_eq_false (fun z => absurd ((nI_leI (by omega) (by omega)).mp z) (by omega)), Bool.and_false]) ?_
      refine v_al0 c_57_9 ?_
      refine v_icN (n := 1) c_57_10 rfl ?_
      refine v_cVi c_57_11 rfl (by decide) rfl rfl (q_fl) ?_
      refine v_ri c_57_12 ?_
      exact ⟨_, rfl, xm_e h⟩
  have hin : (decide (nI 0 ≤ nI c) && decide (nI c ≤ nI 255)) = true := by
    rw [decide_eq_true ((nI_leI (by omega) (by omega)).mpr (by omega)), decide_eq_true ((nI_leI (by omega) (by omega)).mpr (by omega))]
    rfl
  by_cases hl : len < 70
  · refine ⟨.inr (nI (len + 1), (M, L, S, (fun j => if j = len then c else tx j), len + 1)), fun s h => ?_, fun s h => ?_, hw⟩
    · have hT : TXT s 2 1 1 tx len := h.T
      refine cc_of ml_1 rfl rfl ?_
      refine v_il1 c_1_0 ?_
      refine v_if_lt_F c_1_1 (by omega) ?_
      refine v_il1 c_1_2 ?_
      refine v_spN (n := 255) c_1_3 rfl ?_
      refine v_icmp_le_T c_1_4 (by omega) (by omega) (by omega) ?_
      refine v_al0 c_1_10 ?_
      refine v_gR (n0 := 1) c_1_11 rfl ?_
      refine v_cVi c_1_12 rfl (by decide) rfl rfl (t_ful hT) ?_
      refine v_if_eq_tb c_1_13 (decide_eq_false (by omega)) ?_
      refine v_al0 c_1_19 ?_
      refine v_gR (n0 := 1) c_1_20 rfl ?_
      refine v_il1 c_1_21 ?_
      refine v_cVv c_1_22 rfl (by decide) rfl rfl (t_add hT hl _) ?_
      refine v_al0 c_1_23 ?_
      refine v_gR (n0 := 1) c_1_24 rfl ?_
      refine v_gI c_1_25 rfl (sI_s) ?_
      refine v_ri c_1_26 ?_
      have F : FR 1 3 s (sI (sI s 2 len (nI c)) 1 1 (nI (len + 1))) := (FR.sI (by omega) (by omega)).tr (FR.sI (by omega) (by omega))
      refine ⟨rfl, ⟨h.1.fr F (by omega), h.2.1.fr F (by omega), h.2.2.1.fr F (by omega), sI_s, (show len + 1 ≤ 70 by omega), fun j hj => ?_⟩, FC.fr F (by omega)⟩
      have hj : j < len + 1 := hj
      rw [sI_o (by omega)]
      show (sI s 2 len (nI c)).1 2 j = nI (if j = len then c else tx j) ∧ (if j = len then c else tx j) < 256
      by_cases e : j = len
      · rw [if_pos e, e, sI_s]
        exact ⟨rfl, by omega⟩
      · rw [if_neg e, sI_k e]
        exact hT.2.2 j (show j < len by omega)
    · have h' := h.th (x := nI 0)
      have hT : TXT (sI s 88 8 (nI 0)) 94 88 7 tx len := h'.T
      obtain ⟨s0, hs0⟩ : ∃ s0, s0 = sI s 88 8 (nI 0) := ⟨_, rfl⟩
      have e80 : s0.1 88 8 = nI 0 := by rw [hs0]; exact sI_s
      have F0 : FR 88 109 s s0 := by rw [hs0]; exact GM.th.f88
      rw [← hs0] at h' hT
      have e87 : s0.1 88 7 = nI len := hT.1
      refine cc_of ml_57 rfl rfl ?_
      refine v_al0 c_57_0 ?_
      refine v_icN (n := 0) c_57_1 rfl ?_
      refine v_pI c_57_2 rfl ?_
      rw [← hs0]
      refine v_il1 c_57_3 ?_
      refine v_i2l c_57_4 ?_
      refine v_lc c_57_5 ?_
      refine v_l2 c_57_6 ?_
      refine v_cSi c_57_7 rfl rfl rfl (q_inC (nI c) (nI 0) (nI 255) (by decide) (by decide)) ?_
      refine v_if_ne_tb c_57_8 (hin) ?_
      refine v_al0 c_57_13 ?_
      refine v_gI c_57_14 rfl (e87) ?_
      refine v_bpN (n := 70) c_57_15 rfl ?_
      refine v_icmp_ne_T c_57_16 (by omega) (by omega) (by omega) ?_
      refine v_al0 c_57_21 ?_
      refine v_gR (n0 := 94) c_57_22 rfl ?_
      refine v_al0 c_57_23 ?_
      refine v_gI c_57_24 rfl (e87) ?_
      refine v_il1 c_57_25 ?_
      refine v_sI c_57_26 rfl (by omega) ?_
      refine v_al0 c_57_27 ?_
      refine v_dupr c_57_28 ?_
      refine v_gI c_57_29 rfl (show (sI s0 94 len (nI c)).1 88 7 = nI len by rw [sI_o (by omega)]; exact e87) ?_
      refine v_icN (n := 1) c_57_30 rfl ?_
      refine v_iaddN c_57_31 ?_
      refine v_pI c_57_32 rfl ?_
      refine v_al0 c_57_33 ?_
      refine v_gI c_57_34 rfl (sI_s) ?_
      refine v_ri c_57_35 ?_
      have F : FR 88 109 s0 (sI (sI s0 94 len (nI c)) 88 7 (nI (len + 1))) := (FR.sI (by omega) (by omega)).tr (FR.sI (by omega) (by omega))
      refine ⟨_, rfl, ?_, rfl, ⟨?_, h'.2.1.of ?_ ?_, h'.2.2.1.of ?_ ?_, sI_s, (show len + 1 ≤ 70 by omega), fun j hj => ?_⟩, F0.tr F⟩
      · rw [sI_k (by omega), sI_o (by omega)]; exact e80
      · rw [sI_o (by omega), sI_o (by omega)]; exact h'.1
      · rw [sI_k (by omega), sI_o (by omega)]
      · rw [sI_o (by omega), sI_o (by omega)]
      · rw [sI_o (by omega), sI_o (by omega)]
      · rw [sI_o (by omega), sI_o (by omega)]
      have hj : j < len + 1 := hj
      rw [sI_o (by omega)]
      show (sI s0 94 len (nI c)).1 94 j = nI (if j = len then c else tx j) ∧ (if j = len then c else tx j) < 256
      by_cases e : j = len
      · rw [if_pos e, e, sI_s]
        exact ⟨rfl, by omega⟩
      · rw [if_neg e, sI_k e]
        exact hT.2.2 j (show j < len by omega)
  · refine ⟨.inl 2, fun s h => ?_, fun s h => ?_, ⟨by omega, by omega⟩⟩
    · have hT : TXT s 2 1 1 tx len := h.T
      refine cc_of ml_1 rfl rfl ?_
      refine v_il1 c_1_0 ?_
      refine v_if_lt_F c_1_1 (by omega) ?_
      refine v_il1 c_1_2 ?_
      refine v_spN (n := 255) c_1_3 rfl ?_
      refine v_icmp_le_T c_1_4 (by omega) (by omega) (by omega) ?_
      refine v_al0 c_1_10 ?_
      refine v_gR (n0 := 1) c_1_11 rfl ?_
      refine v_cVi c_1_12 rfl (by decide) rfl rfl (t_ful hT) ?_
      refine v_if_eq_fb c_1_13 (decide_eq_true (by omega)) ?_
      refine vv_x c_1_14 ?_
      exact xc_e h rfl
    · have hT : TXT (sI s 88 8 (nI 0)) 94 88 7 tx len := (h.th (x := nI 0)).T
      have h70 := hT.2.1
      have h70 : len ≤ 70 := h70
      refine cc_of ml_57 rfl rfl ?_
      refine v_al0 c_57_0 ?_
      refine v_icN (n := 0) c_57_1 rfl ?_
      refine v_pI c_57_2 rfl ?_
      refine v_il1 c_57_3 ?_
      refine v_i2l c_57_4 ?_
      refine v_lc c_57_5 ?_
      refine v_l2 c_57_6 ?_
      refine v_cSi c_57_7 rfl rfl rfl (q_inC (nI c) (nI 0) (nI 255) (by decide) (by decide)) ?_
      refine v_if_ne_tb c_57_8 (hin) ?_
      refine v_al0 c_57_13 ?_
      refine v_gI c_57_14 rfl (hT.1) ?_
      refine v_bpN (n := 70) c_57_15 rfl ?_
      refine v_icmp_ne_F c_57_16 (by omega) (by omega) (by omega) ?_
      refine v_al0 c_57_17 ?_
      refine v_icN (n := 2) c_57_18 rfl ?_
      refine v_cVi c_57_19 rfl (by decide) rfl rfl (q_fl) ?_
      refine v_ri c_57_20 ?_
      exact ⟨_, rfl, xm_e h⟩
theorem o_clr (hw : WA M L S) : OK2 sc (fun _ => 0) 0 2 58 [.ref 0] [.ref 88] (M, L, S, tx, len) := by
  refine ⟨.inr (nI len, (M, L, S, tx, 0)), fun s h => ?_, fun s h => ?_, hw⟩
  · have hT : TXT s 2 1 1 tx len := h.T
    refine cc_of ml_2 rfl rfl ?_
    refine v_al0 c_2_0 ?_
    refine v_gR (n0 := 1) c_2_1 rfl ?_
    refine v_gI c_2_2 rfl (hT.1) ?_
    refine v_is1 c_2_3 rfl ?_
    refine v_al0 c_2_4 ?_
    refine v_gR (n0 := 1) c_2_5 rfl ?_
    refine v_icN (n := 0) c_2_6 rfl ?_
    refine v_pI c_2_7 rfl ?_
    refine v_il1 c_2_8 ?_
    refine v_ri c_2_9 ?_
    have F : FR 1 3 s (sI s 1 1 (nI 0)) := FR.sI (by omega) (by omega)
    exact ⟨rfl, ⟨h.1.fr F (by omega), h.2.1.fr F (by omega), h.2.2.1.fr F (by omega), sI_s, Nat.zero_le _, fun j hj => absurd hj (Nat.not_lt_zero _)⟩, FC.fr F (by omega)⟩
  · have h' := h.th (x := nI 0)
    have hT : TXT (sI s 88 8 (nI 0)) 94 88 7 tx len := h'.T
    refine cc_of ml_58 rfl rfl ?_
    refine v_al0 c_58_0 ?_
    refine v_icN (n := 0) c_58_1 rfl ?_
    refine v_pI c_58_2 rfl ?_
    refine v_al0 c_58_3 ?_
    refine v_gI c_58_4 rfl (hT.1) ?_
    refine v_is1 c_58_5 rfl ?_
    refine v_al0 c_58_6 ?_
    refine v_icN (n := 0) c_58_7 rfl ?_
    refine v_pI c_58_8 rfl ?_
    refine v_il1 c_58_9 ?_
    refine v_ri c_58_10 ?_
    have F : FR 88 109 s (sI (sI s 88 8 (nI 0)) 88 7 (nI 0)) := (FR.sI (by omega) (by omega)).tr (FR.sI (by omega) (by omega))
    exact ⟨_, rfl, by rw [sI_k (by omega), sI_s], rfl, ⟨by rw [sI_o (by omega)]; exact h'.1, h'.2.1.of (sI_k (by omega)) (sI_o (by omega)), h'.2.2.1.of (sI_o (by omega)) (sI_o (by omega)), sI_s, Nat.zero_le _, fun j hj => absurd hj (Nat.not_lt_zero _)⟩, F⟩
theorem o_erp (hw : WA M L S) : OK2 sc (fun _ => 0) 0 3 63 [.ref 0] [.ref 88] (M, L, S, tx, len) := by
  refine ⟨.inr (oI (pE tx len), (M, L, S, tx, len)), fun s h => ?_, fun s h => ?_, hw⟩
  · refine cc_of ml_3 rfl rfl ?_
    refine v_al0 c_3_0 ?_
    refine v_gR (n0 := 1) c_3_1 rfl ?_
    refine v_al0 c_3_2 ?_
    refine v_gR (n0 := 58) c_3_3 rfl ?_
    refine v_cVI c_3_4 rfl (by decide) rfl rfl (t_mkt m52 (by omega) h.T) ?_
    rintro x t ⟨F, hx⟩
    refine v_ri c_3_5 ?_
    refine xc_r h F (by omega) ?_
    rcases hx with ⟨p, e, rfl⟩ | ⟨e, rfl, -⟩ <;> rw [e] <;> rfl
  · have h' := h.th (x := nI 0)
    refine cc_of ml_63 rfl rfl ?_
    refine v_al0 c_63_0 ?_
    refine v_icN (n := 0) c_63_1 rfl ?_
    refine v_pI c_63_2 rfl ?_
    refine v_al0 c_63_3 ?_
    refine v_cVI c_63_4 rfl (by decide) rfl rfl (q_mkt h'.T) ?_
    rintro x t ⟨F, hx⟩
    have e8 : t.1 88 8 = nI 0 := F.2.2.2.2.trans sI_s
    have hq : QM (t.1 89) M := h'.kM.fw F
    rcases hx with ⟨p, e, rfl, e18⟩ | ⟨e, rfl, -⟩
    · refine v_if_eq_tb c_63_5 (rfl) ?_
      refine v_al0 c_63_8 ?_
      refine v_gI c_63_9 rfl (e18) ?_
      refine v_ri c_63_10 ?_
      exact ⟨_, rfl, xm_r h (GM.th.tr (GM.fw F)) hq e8 (by rw [e]; rfl)⟩
    · refine v_if_eq_fb c_63_5 (rfl) ?_
      refine v_bp c_63_6 ?_
      refine v_goto c_63_7 ?_
      refine v_ri c_63_10 ?_
      exact ⟨_, rfl, xm_r h (GM.th.tr (GM.fw F)) hq e8 (by rw [e]; rfl)⟩
theorem p_9 : ∀ p, p < 1000 → nI p ≠ -9 := by decide +kernel
theorem o_lod (hw : WA M L S) : OK2 sc (fun _ => 1) 1 4 64 [.ref 0] [.ref 88] (M, L, S, tx, len) := by
  cases hpe : pE tx len with
  | some p =>
    have hp := p_9 p (pE_lt hpe)
    refine ⟨.inl 1, fun s h => ?_, fun s h => ?_, ⟨by omega, by omega⟩⟩
    · refine cc_of ml_4 rfl rfl ?_
      refine v_al0 c_4_0 ?_
      refine v_gR (n0 := 1) c_4_1 rfl ?_
      refine v_al0 c_4_2 ?_
      refine v_gR (n0 := 58) c_4_3 rfl ?_
      refine v_cVI c_4_4 rfl (by decide) rfl rfl (t_mkt m52 (by omega) h.T) ?_
      rintro x t ⟨F, hx⟩
      rcases hx with ⟨q, e, rfl⟩ | ⟨e, rfl, -⟩
      · rw [hpe] at e
        cases e
        refine v_bp c_4_5 ?_
        refine v_icmp_eq_f c_4_6 (hp) ?_
        refine vv_x c_4_7 ?_
        exact xc_x h F (by omega) rfl
      · rw [hpe] at e
        cases e
    · have h' := h.th (x := nI 0)
      refine cc_of ml_64 rfl rfl ?_
      refine v_al0 c_64_0 ?_
      refine v_icN (n := 0) c_64_1 rfl ?_
      refine v_pI c_64_2 rfl ?_
      refine v_al0 c_64_3 ?_
      refine v_cVI c_64_4 rfl (by decide) rfl rfl (q_mkt h'.T) ?_
      rintro x t ⟨F, hx⟩
      have hq : QM (t.1 89) M := h'.kM.fw F
      rcases hx with ⟨q, e, rfl, e18⟩ | ⟨e, rfl, -⟩
      · refine v_if_ne_fb c_64_5 (rfl) ?_
        refine v_al0 c_64_6 ?_
        refine v_icN (n := 1) c_64_7 rfl ?_
        refine v_cVi c_64_8 rfl (by decide) rfl rfl (q_fl) ?_
        refine v_ri c_64_9 ?_
        exact ⟨_, rfl, xm_x h (GM.th.tr (GM.fw F)) hq⟩
      · rw [hpe] at e
        cases e
  | none =>
    have hN := pM_w hpe
    refine ⟨.inr (nI (pc (mP (pM tx len))), (pM tx len, [], (fun _ => none), tx, len)), fun s h => ?_, fun s h => ?_, ⟨hN, (fun N hN => by cases hN), (fun k N e => by cases e)⟩⟩
    · refine cc_of ml_4 rfl rfl ?_
      refine v_al0 c_4_0 ?_
      refine v_gR (n0 := 1) c_4_1 rfl ?_
      refine v_al0 c_4_2 ?_
      refine v_gR (n0 := 58) c_4_3 rfl ?_
      refine v_cVI c_4_4 rfl (by decide) rfl rfl (t_mkt m52 (by omega) h.T) ?_
      rintro x t ⟨F, hx⟩
      rcases hx with ⟨q, e, rfl⟩ | ⟨e, rfl, hM⟩
      · rw [hpe] at e
        cases e
      have h1 := h.fr F (by omega)
      refine v_bp c_4_5 ?_
      refine v_icmp_eq_t c_4_6 (rfl) ?_
      refine v_al0 c_4_12 ?_
      refine v_gR (n0 := 3) c_4_13 rfl ?_
      refine v_al0 c_4_14 ?_
      refine v_gR (n0 := 58) c_4_15 rfl ?_
      refine v_cVV c_4_16 rfl (by decide) rfl rfl (k_bec m3 m52 (by omega)) ?_
      rintro u hu
      have hMu : MK u 3 (pM tx len) := MK.bec hM hN.1 hu
      have Fu := hu.2.2.2.2
      refine v_al0 c_4_17 ?_
      refine v_gR (n0 := 6) c_4_18 rfl ?_
      refine v_cVv c_4_19 rfl (by decide) rfl rfl (h_frg) ?_
      refine v_al0 c_4_20 ?_
      refine v_gR (n0 := 50) c_4_21 rfl ?_
      refine v_icN (n := 0) c_4_22 rfl ?_
      refine v_pZ (B := false) c_4_23 rfl rfl ?_
      refine v_al0 c_4_24 ?_
      refine v_gR (n0 := 54) c_4_25 rfl ?_
      refine v_icN (n := 0) c_4_26 rfl ?_
      refine v_pZ (B := false) c_4_27 rfl rfl ?_
      have F6 : FR 6 7 u (sI u 6 1 (nI 0)) := FR.sI (by omega) (by omega)
      have F5 : FR 50 58 (sI u 6 1 (nI 0)) (sI (sI (sI u 6 1 (nI 0)) 50 1 (bI false)) 54 1 (bI false)) := (FR.sI (by omega) (by omega)).tr (FR.sI (by omega) (by omega))
      have hM5 := (hMu.fr F6 (by omega)).fr F5 (by omega)
      have hK5 : HK (sI (sI (sI u 6 1 (nI 0)) 50 1 (bI false)) 54 1 (bI false)) [] := (HK.nil (h1.2.1.fr Fu (by omega))).fr F5 (by omega)
      refine v_al0 c_4_28 ?_
      refine v_gR (n0 := 3) c_4_29 rfl ?_
      refine v_cVi c_4_30 rfl (by decide) rfl rfl (k_pct m3 hM5 hN) ?_
      refine v_ri c_4_31 ?_
      refine ⟨rfl, ⟨hM5, hK5, fun k hk => ?_, ((h1.T.fr Fu (by omega) (by omega)).fr F6 (by omega) (by omega)).fr F5 (by omega) (by omega)⟩, ((FC.fr F (by omega)).tr (FC.fr Fu (by omega))).tr ((FC.fr F6 (by omega)).tr (FC.fr F5 (by omega)))⟩
      rcases (show k = 0 ∨ k = 1 by omega) with rfl | rfl
      · show (sI (sI (sI u 6 1 (nI 0)) 50 1 (bI false)) 54 1 (bI false)).1 50 1 = bI false
        rw [sI_o (by omega), sI_s]
      · exact sI_s
    · have h' := h.th (x := nI 0)
      refine cc_of ml_64 rfl rfl ?_
      refine v_al0 c_64_0 ?_
      refine v_icN (n := 0) c_64_1 rfl ?_
      refine v_pI c_64_2 rfl ?_
      refine v_al0 c_64_3 ?_
      refine v_cVI c_64_4 rfl (by decide) rfl rfl (q_mkt h'.T) ?_
      rintro x t ⟨F, hx⟩
      have e8 : t.1 88 8 = nI 0 := F.2.2.2.2.trans sI_s
      have h1 : RM t M L S tx len := RM.fw h' F
      rcases hx with ⟨q, e, rfl, e18⟩ | ⟨e, rfl, hQ⟩
      · rw [hpe] at e
        cases e
      refine v_if_ne_tb c_64_5 (rfl) ?_
      refine v_icN (n := 0) c_64_10 rfl ?_
      refine v_is1 c_64_11 rfl ?_
      refine vv_forS 58 (fun i ls u => ls = [some (.ref 88), some (.int (nI i))] ∧ (∀ j, j < i → u.1 89 j = t.1 102 j) ∧ FR 89 90 t u) ?_ ?_ _ _ ⟨rfl, fun j hj => absurd hj (by omega), FR.rf⟩
      · rintro i ls u hi ⟨rfl, g1, g2⟩ hk
        refine v_il1 c_64_12 ?_
        refine v_bpN (n := 58) c_64_13 rfl ?_
        refine v_icmp_ge_F c_64_14 (by omega) (by omega) (by omega) ?_
        refine v_al0 c_64_15 ?_
        refine v_gR (n0 := 89) c_64_16 rfl ?_
        refine v_il1 c_64_17 ?_
        refine v_al0 c_64_18 ?_
        refine v_gR (n0 := 102) c_64_19 rfl ?_
        refine v_il1 c_64_20 ?_
        refine v_aI c_64_21 rfl (by omega) (show u.1 102 i = t.1 102 i by rw [g2.at (by omega)]) ?_
        refine v_sI c_64_22 rfl (by omega) ?_
        refine v_incN1 c_64_23 rfl rfl ?_
        refine v_goto c_64_24 ?_
        refine hk _ _ ⟨rfl, fun j hj => ?_, g2.tr (FR.sI (by omega) (by omega))⟩
        by_cases e : j = i
        · rw [e, sI_s]
        · rw [sI_k e]; exact g1 j (by omega)
      · rintro ls u ⟨rfl, g1, g2⟩
        obtain ⟨v, hv⟩ : ∃ v, v = sI (sI (sI u 88 3 (nI 0)) 93 0 (bI false)) 93 1 (bI false) := ⟨_, rfl⟩
        have hQv : QM (v.1 89) (pM tx len) := by
          rw [hv, sI_o (by omega), sI_o (by omega), sI_o (by omega)]
          exact hQ.cp hN.1 g1
        have G : GM (sI s 88 8 (nI 0)) u := (GM.fw F).tr (GM.fr g2 (by omega))
        refine v_il1 c_64_12 ?_
        refine v_bpN (n := 58) c_64_13 rfl ?_
        refine v_icmp_ge_T c_64_14 (by omega) (by omega) (by omega) ?_
        refine v_al0 c_64_25 ?_
        refine v_icN (n := 0) c_64_26 rfl ?_
        refine v_pI c_64_27 rfl ?_
        refine v_al0 c_64_28 ?_
        refine v_gR (n0 := 93) c_64_29 rfl ?_
        refine v_icN (n := 0) c_64_30 rfl ?_
        refine v_icN (n := 0) c_64_31 rfl ?_
        refine v_sZ (B := false) c_64_32 rfl (by omega) rfl ?_
        refine v_al0 c_64_33 ?_
        refine v_gR (n0 := 93) c_64_34 rfl ?_
        refine v_icN (n := 1) c_64_35 rfl ?_
        refine v_icN (n := 0) c_64_36 rfl ?_
        refine v_sZ (B := false) c_64_37 rfl (by omega) rfl ?_
        rw [← hv]
        refine v_al0 c_64_38 ?_
        refine v_cVi c_64_39 rfl (by decide) rfl rfl (q_pre hQv hN) ?_
        refine v_ri c_64_40 ?_
        have Fv : FR 88 109 u v := by rw [hv]; exact ((FR.sI (by omega) (by omega)).tr (FR.sI (by omega) (by omega))).tr (FR.sI (by omega) (by omega))
        refine ⟨_, rfl, ?_, rfl, ⟨hQv, ⟨Nat.zero_le _, ?_, fun j N hj => by simp at hj⟩, fun k hk => ?_, ?_⟩, (GM.th.f88.tr G.f88).tr Fv⟩
        · rw [hv, sI_o (by omega), sI_o (by omega), sI_k (by omega), g2.at (by omega)]
          exact e8
        · rw [hv, sI_o (by omega), sI_o (by omega), sI_s]
          rfl
        · rcases (show k = 0 ∨ k = 1 by omega) with rfl | rfl
          · show v.1 93 0 = bI false
            rw [hv, sI_k (by omega), sI_s]
          · show v.1 93 1 = bI false
            rw [hv, sI_s]
        · have hT := h1.2.2.2
          unfold TXT
          rw [hv, sI_o (by omega), sI_o (by omega), sI_k (by omega), sI_o (by omega), sI_o (by omega), sI_o (by omega), g2.at (by omega), g2.at (by omega)]
          exact hT
theorem o_rnk (hw : WA M L S) (x y : Int32) : OK2 sc (fun _ => 2) 1 7 68 [.ref 0, .int x, .int y] [.ref 88, .int x, .int y] (M, L, S, tx, len) := by
  have hM := hw.1
  cases hx : inN (mN M) x
  · refine ⟨.inl 1, fun s h => ?_, fun s h => ?_, ⟨by omega, by omega⟩⟩
    · refine cc_of ml_7 rfl rfl ?_
      refine v_al0 c_7_0 ?_
      refine v_il1 c_7_1 ?_
      refine v_cVX c_7_2 rfl (by decide) rfl rfl (n_trX h.kM hM hx) ht_7 ?_
      exact xc_e h rfl
    · have h' := h.th (x := nI 0)
      refine cc_of ml_68 rfl rfl ?_
      refine v_al0 c_68_0 ?_
      refine v_icN (n := 0) c_68_1 rfl ?_
      refine v_pI c_68_2 rfl ?_
      refine v_al0 c_68_3 ?_
      refine v_il1 c_68_4 ?_
      refine v_cVi c_68_5 rfl (by decide) rfl rfl (q_oneI h'.kM hM x) ?_
      refine v_if_eq_tb c_68_6 (hx) ?_
      refine v_al0 c_68_16 ?_
      refine v_icN (n := 1) c_68_17 rfl ?_
      refine v_cVi c_68_18 rfl (by decide) rfl rfl (q_fl) ?_
      refine v_ri c_68_19 ?_
      exact ⟨_, rfl, xm_e h⟩
  cases hy : inN (mN M) y
  · refine ⟨.inl 1, fun s h => ?_, fun s h => ?_, ⟨by omega, by omega⟩⟩
    · refine cc_of ml_7 rfl rfl ?_
      refine v_al0 c_7_0 ?_
      refine v_il1 c_7_1 ?_
      refine v_cVv c_7_2 rfl (by decide) rfl rfl (n_tr h.kM hM hx) ?_
      refine v_al0 c_7_3 ?_
      refine v_il2 c_7_4 ?_
      refine v_cVX c_7_5 rfl (by decide) rfl rfl (n_thX h.kM hM hy) ht_7 ?_
      exact xc_e h rfl
    · have h' := h.th (x := nI 0)
      refine cc_of ml_68 rfl rfl ?_
      refine v_al0 c_68_0 ?_
      refine v_icN (n := 0) c_68_1 rfl ?_
      refine v_pI c_68_2 rfl ?_
      refine v_al0 c_68_3 ?_
      refine v_il1 c_68_4 ?_
      refine v_cVi c_68_5 rfl (by decide) rfl rfl (q_oneI h'.kM hM x) ?_
      refine v_if_eq_fb c_68_6 (hx) ?_
      refine v_al0 c_68_7 ?_
      refine v_il2 c_68_8 ?_
      refine v_cVi c_68_9 rfl (by decide) rfl rfl (q_oneI h'.kM hM y) ?_
      refine v_if_eq_tb c_68_10 (hy) ?_
      refine v_al0 c_68_16 ?_
      refine v_icN (n := 1) c_68_17 rfl ?_
      refine v_cVi c_68_18 rfl (by decide) rfl rfl (q_fl) ?_
      refine v_ri c_68_19 ?_
      exact ⟨_, rfl, xm_e h⟩
  obtain ⟨i, hi, rfl⟩ := inN_of hM.1 hx
  obtain ⟨j, hj, rfl⟩ := inN_of hM.1 hy
  refine ⟨.inr (nI (mR M i j), (M, L, S, tx, len)), fun s h => ?_, fun s h => ?_, hw⟩
  · refine cc_of ml_7 rfl rfl ?_
    refine v_al0 c_7_0 ?_
    refine v_il1 c_7_1 ?_
    refine v_cVv c_7_2 rfl (by decide) rfl rfl (n_tr h.kM hM hx) ?_
    refine v_al0 c_7_3 ?_
    refine v_il2 c_7_4 ?_
    refine v_cVv c_7_5 rfl (by decide) rfl rfl (n_th h.kM hM hy) ?_
    refine v_al0 c_7_6 ?_
    refine v_gR (n0 := 3) c_7_7 rfl ?_
    refine v_il1 c_7_8 ?_
    refine v_il2 c_7_9 ?_
    refine v_cVi c_7_10 rfl (by decide) rfl rfl (k_rkB m3 h.kM hM hi hj) ?_
    refine v_ri c_7_11 ?_
    exact xc_0 h rfl
  · have h' := h.th (x := nI 0)
    refine cc_of ml_68 rfl rfl ?_
    refine v_al0 c_68_0 ?_
    refine v_icN (n := 0) c_68_1 rfl ?_
    refine v_pI c_68_2 rfl ?_
    refine v_al0 c_68_3 ?_
    refine v_il1 c_68_4 ?_
    refine v_cVi c_68_5 rfl (by decide) rfl rfl (q_oneI h'.kM hM _) ?_
    refine v_if_eq_fb c_68_6 (hx) ?_
    refine v_al0 c_68_7 ?_
    refine v_il2 c_68_8 ?_
    refine v_cVi c_68_9 rfl (by decide) rfl rfl (q_oneI h'.kM hM _) ?_
    refine v_if_eq_fb c_68_10 (hy) ?_
    refine v_al0 c_68_11 ?_
    refine v_il1 c_68_12 ?_
    refine v_il2 c_68_13 ?_
    refine v_cVi c_68_14 rfl (by decide) rfl rfl (q_rk h'.kM hM hi hj) ?_
    refine v_goto c_68_15 ?_
    refine v_ri c_68_19 ?_
    exact ⟨_, rfl, xm_r h GM.th h'.kM sI_s rfl⟩
theorem o_hld (hw : WA M L S) (x : Int32) : OK2 sc (fun _ => 2) 1 8 69 [.ref 0, .int x] [.ref 88, .int x] (M, L, S, tx, len) := by
  have hM := hw.1
  have h7 := hM.1
  cases hx : inN (mN M) x
  · refine ⟨.inl 1, fun s h => ?_, fun s h => ?_, ⟨by omega, by omega⟩⟩
    · refine cc_of ml_8 rfl rfl ?_
      refine v_al0 c_8_0 ?_
      refine v_il1 c_8_1 ?_
      refine v_cVX c_8_2 rfl (by decide) rfl rfl (n_thX h.kM hM hx) ht_8 ?_
      exact xc_e h rfl
    · have h' := h.th (x := nI 0)
      refine cc_of ml_69 rfl rfl ?_
      refine v_al0 c_69_0 ?_
      refine v_icN (n := 0) c_69_1 rfl ?_
      refine v_pI c_69_2 rfl ?_
      refine v_al0 c_69_3 ?_
      refine v_il1 c_69_4 ?_
      refine v_cVi c_69_5 rfl (by decide) rfl rfl (q_oneI h'.kM hM x) ?_
      refine v_if_ne_fb c_69_6 (hx) ?_
      refine v_al0 c_69_7 ?_
      refine v_icN (n := 1) c_69_8 rfl ?_
      refine v_cVi c_69_9 rfl (by decide) rfl rfl (q_fl) ?_
      refine v_ri c_69_10 ?_
      exact ⟨_, rfl, xm_e h⟩
  obtain ⟨t, ht, rfl⟩ := inN_of hM.1 hx
  obtain ⟨i, hi, rfl⟩ := hM.pm.sur ht
  have bi := hM.2.2.2.1 i hi
  refine ⟨.inr (nI i, (M, L, S, tx, len)), fun s h => ?_, fun s h => ?_, hw⟩
  · refine cc_of ml_8 rfl rfl ?_
    refine v_al0 c_8_0 ?_
    refine v_il1 c_8_1 ?_
    refine v_cVv c_8_2 rfl (by decide) rfl rfl (n_th h.kM hM hx) ?_
    refine v_al0 c_8_3 ?_
    refine v_gR (n0 := 3) c_8_4 rfl ?_
    refine v_il1 c_8_5 ?_
    refine v_cVi c_8_6 rfl (by decide) rfl rfl (k_hdr m3 h.kM hM hi) ?_
    refine v_ri c_8_7 ?_
    exact xc_0 h rfl
  · have h' := h.th (x := nI 0)
    refine cc_of ml_69 rfl rfl ?_
    refine v_al0 c_69_0 ?_
    refine v_icN (n := 0) c_69_1 rfl ?_
    refine v_pI c_69_2 rfl ?_
    refine v_al0 c_69_3 ?_
    refine v_il1 c_69_4 ?_
    refine v_cVi c_69_5 rfl (by decide) rfl rfl (q_oneI h'.kM hM _) ?_
    refine v_if_ne_tb c_69_6 (hx) ?_
    refine v_icN (n := 0) c_69_11 rfl ?_
    refine v_is2 c_69_12 rfl ?_
    refine vv_for i (fun k => [some (.ref 88), some (.int (nI (mH M i))), some (.int (nI k))]) ?_ ?_
    · intro k hk hkk
      have bk := hM.2.2.2.1 k (by omega)
      have : mH M k ≠ mH M i := fun e => absurd (hM.2.2.2.2 k i (by omega) hi e) (by omega)
      refine v_al0 c_69_13 ?_
      refine v_il2 c_69_14 ?_
      refine v_cVi c_69_15 rfl (by decide) rfl rfl (q_hd h'.kM h7 (show k < mN M by omega)) ?_
      refine v_il1 c_69_16 ?_
      refine v_icmp_eq_F c_69_17 (by omega) (by omega) (by omega) ?_
      refine v_incN2 c_69_18 rfl rfl ?_
      refine v_goto c_69_19 ?_
      exact hkk
    · refine v_al0 c_69_13 ?_
      refine v_il2 c_69_14 ?_
      refine v_cVi c_69_15 rfl (by decide) rfl rfl (q_hd h'.kM h7 hi) ?_
      refine v_il1 c_69_16 ?_
      refine v_icmp_eq_T c_69_17 (by omega) (by omega) (by omega) ?_
      refine v_il2 c_69_20 ?_
      refine v_ri c_69_21 ?_
      exact ⟨_, rfl, xm_r h GM.th h'.kM sI_s rfl⟩
theorem o_why (hw : WA M L S) (x y : Int32) : OK2 sc (fun _ => 2) 1 10 72 [.ref 0, .int x, .int y] [.ref 88, .int x, .int y] (M, L, S, tx, len) := by
  have hM := hw.1
  cases hx : inN (mN M) x
  · refine ⟨.inl 1, fun s h => ?_, fun s h => ?_, ⟨by omega, by omega⟩⟩
    · refine cc_of ml_10 rfl rfl ?_
      refine v_al0 c_10_0 ?_
      refine v_il1 c_10_1 ?_
      refine v_cVX c_10_2 rfl (by decide) rfl rfl (n_trX h.kM hM hx) ht_10 ?_
      exact xc_e h rfl
    · have h' := h.th (x := nI 0)
      refine cc_of ml_72 rfl rfl ?_
      refine v_al0 c_72_0 ?_
      refine v_icN (n := 0) c_72_1 rfl ?_
      refine v_pI c_72_2 rfl ?_
      refine v_al0 c_72_3 ?_
      refine v_il1 c_72_4 ?_
      refine v_cVi c_72_5 rfl (by decide) rfl rfl (q_oneI h'.kM hM x) ?_
      refine v_if_eq_tb c_72_6 (hx) ?_
      refine v_al0 c_72_16 ?_
      refine v_icN (n := 1) c_72_17 rfl ?_
      refine v_cVi c_72_18 rfl (by decide) rfl rfl (q_fl) ?_
      refine v_ri c_72_19 ?_
      exact ⟨_, rfl, xm_e h⟩
  cases hy : inN (mN M) y
  · refine ⟨.inl 1, fun s h => ?_, fun s h => ?_, ⟨by omega, by omega⟩⟩
    · refine cc_of ml_10 rfl rfl ?_
      refine v_al0 c_10_0 ?_
      refine v_il1 c_10_1 ?_
      refine v_cVv c_10_2 rfl (by decide) rfl rfl (n_tr h.kM hM hx) ?_
      refine v_al0 c_10_3 ?_
      refine v_il2 c_10_4 ?_
      refine v_cVX c_10_5 rfl (by decide) rfl rfl (n_trX h.kM hM hy) ht_10 ?_
      exact xc_e h rfl
    · have h' := h.th (x := nI 0)
      refine cc_of ml_72 rfl rfl ?_
      refine v_al0 c_72_0 ?_
      refine v_icN (n := 0) c_72_1 rfl ?_
      refine v_pI c_72_2 rfl ?_
      refine v_al0 c_72_3 ?_
      refine v_il1 c_72_4 ?_
      refine v_cVi c_72_5 rfl (by decide) rfl rfl (q_oneI h'.kM hM x) ?_
      refine v_if_eq_fb c_72_6 (hx) ?_
      refine v_al0 c_72_7 ?_
      refine v_il2 c_72_8 ?_
      refine v_cVi c_72_9 rfl (by decide) rfl rfl (q_oneI h'.kM hM y) ?_
      refine v_if_eq_tb c_72_10 (hy) ?_
      refine v_al0 c_72_16 ?_
      refine v_icN (n := 1) c_72_17 rfl ?_
      refine v_cVi c_72_18 rfl (by decide) rfl rfl (q_fl) ?_
      refine v_ri c_72_19 ?_
      exact ⟨_, rfl, xm_e h⟩
  obtain ⟨i, hi, rfl⟩ := inN_of hM.1 hx
  obtain ⟨j, hj, rfl⟩ := inN_of hM.1 hy
  refine ⟨.inr (nI (mAg M i j), (M, L, S, tx, len)), fun s h => ?_, fun s h => ?_, hw⟩
  · refine cc_of ml_10 rfl rfl ?_
    refine v_al0 c_10_0 ?_
    refine v_il1 c_10_1 ?_
    refine v_cVv c_10_2 rfl (by decide) rfl rfl (n_tr h.kM hM hx) ?_
    refine v_al0 c_10_3 ?_
    refine v_il2 c_10_4 ?_
    refine v_cVv c_10_5 rfl (by decide) rfl rfl (n_tr h.kM hM hy) ?_
    refine v_al0 c_10_6 ?_
    refine v_gR (n0 := 3) c_10_7 rfl ?_
    refine v_il1 c_10_8 ?_
    refine v_il2 c_10_9 ?_
    refine v_cVi c_10_10 rfl (by decide) rfl rfl (k_rsn m3 h.kM hM hi hj) ?_
    refine v_ri c_10_11 ?_
    exact xc_0 h rfl
  · have h' := h.th (x := nI 0)
    refine cc_of ml_72 rfl rfl ?_
    refine v_al0 c_72_0 ?_
    refine v_icN (n := 0) c_72_1 rfl ?_
    refine v_pI c_72_2 rfl ?_
    refine v_al0 c_72_3 ?_
    refine v_il1 c_72_4 ?_
    refine v_cVi c_72_5 rfl (by decide) rfl rfl (q_oneI h'.kM hM _) ?_
    refine v_if_eq_fb c_72_6 (hx) ?_
    refine v_al0 c_72_7 ?_
    refine v_il2 c_72_8 ?_
    refine v_cVi c_72_9 rfl (by decide) rfl rfl (q_oneI h'.kM hM _) ?_
    refine v_if_eq_fb c_72_10 (hy) ?_
    refine v_al0 c_72_11 ?_
    refine v_il1 c_72_12 ?_
    refine v_il2 c_72_13 ?_
    refine v_cVi c_72_14 rfl (by decide) rfl rfl (q_ag h'.kM hM hi hj) ?_
    refine v_goto c_72_15 ?_
    refine v_ri c_72_19 ?_
    exact ⟨_, rfl, xm_r h GM.th h'.kM sI_s rfl⟩
end OP1
