/-! CALLS: runScript -/
theorem ld4 {a : Nat} (ha : a < 2 ^ 63) : lN a / 10000 = lN (a / 10000) := pk_lDiv ha (by decide) (by decide)
theorem lr4 {a : Nat} (ha : a < 2 ^ 63) : (lN a - lN a / 10000 * 10000).toInt32 = nI (a % 10000) := by
  rw [← lN_i, ← pk_lRem ha (show 0 < 10000 by decide) (show 10000 < 2 ^ 63 by decide)]
  rfl
def cK (n S k : Nat) : Nat := S / 10000 ^ (n - 1 - k) % 10000
theorem cK_b (n S k : Nat) : cK n S k < 10000 := Nat.mod_lt _ (by decide)
def rsF (c : Nat → Nat) : Nat → zM → Nat → Option Nat
  | 0, _, _ => none
  | d + 1, M, k => match cmd M (c k) with
    | none => some k
    | some N => rsF c d N (k + 1)
theorem rsF_n {c : Nat → Nat} {d k : Nat} {M : zM} (h : cmd M (c k) = none) : rsF c (d + 1) M k = some k := by
  show (match cmd M (c k) with
    | none => some k
    | some N => rsF c d N (k + 1)) = _
  rw [h]
theorem rsF_s {c : Nat → Nat} {d k : Nat} {M N : zM} (h : cmd M (c k) = some N) : rsF c (d + 1) M k = rsF c d N (k + 1) := by
  show (match cmd M (c k) with
    | none => some k
    | some N => rsF c d N (k + 1)) = _
  rw [h]
theorem p4_b {n : Nat} (h4 : n ≤ 4) : 0 < 10000 ^ n ∧ 10000 ^ n < 2 ^ 63 := by
  have h : ∀ n, n ≤ 4 → 0 < 10000 ^ n ∧ 10000 ^ n < 2 ^ 63 := by decide +kernel
  exact h n h4
section RSC
variable {sc : Nat × (Nat → Int32)} {s t : zv_S} {M : zM} {L : List zM} {S : Nat → Option zM} {tx : Nat → Nat} {len : Nat}
theorem s_tks {n Z : Nat} (h1 : 1 ≤ n) (h4 : n ≤ 4) (hZ : Z < 2 ^ 63) : CC sc 138 [.ref 86, .int (nI n), .long (lN Z)] s (QI fun x t => x = bI (decide (Z / 10000 ^ n = 0)) ∧ t.1 86 1 = nI n ∧ (∀ k, k < n → t.1 87 k = nI (cK n Z k)) ∧ FR 86 88 s t) := by
  refine cc_of ml_138 rfl rfl ?_
  have e0 : ∀ n, n ≤ 4 → (if nI 4 < nI n then nI 4 else nI n) = nI n := by decide +kernel
  have e1 : ∀ n, n ≤ 4 → nI n - nI 1 = nI n + (-1) := by decide +kernel
  refine v_al0 c_138_0 ?_
  refine v_il1 c_138_1 ?_
  refine v_icN (n := 4) c_138_2 rfl ?_
  refine v_min c_138_3 rfl ?_
  rw [e0 n h4]
  refine v_pI c_138_4 rfl ?_
  refine v_ll2 c_138_5 ?_
  refine v_ls4 c_138_6 rfl ?_
  refine v_al0 c_138_7 ?_
  refine v_gI c_138_8 rfl (sI_s) ?_
  refine v_icN (n := 1) c_138_9 rfl ?_
  refine v_isub c_138_10 ?_
  rw [e1 n h4]
  refine v_is6 c_138_11 rfl ?_
  refine vv_forS n (fun i ls t => ls = [some (.ref 86), some (.int (nI n)), some (.long (lN Z)), none, some (.long (lN (Z / 10000 ^ i))), none, some (.int (nI (n - i) + (-1)))] ∧ t.1 86 1 = nI n ∧ (∀ k, k < n → n - i ≤ k → t.1 87 k = nI (cK n Z k)) ∧ FR 86 88 s t) ?_ ?_ _ _ ⟨by rw [Nat.pow_zero, Nat.div_one]; rfl, sI_s, fun k h1 h2 => absurd h2 (by omega), FR.sI (by omega) (by omega)⟩
  · rintro i ls t hi ⟨rfl, g1, g2, g3⟩ hk
    have hb : Z / 10000 ^ i < 2 ^ 63 := Nat.lt_of_le_of_lt (Nat.div_le_self _ _) hZ
    rw [show n - i = (n - 1 - i) + 1 by omega, pk_m1]
    refine v_il6 c_138_12 ?_
    refine v_if_lt_F c_138_13 (by omega) ?_
    refine v_al0 c_138_14 ?_
    refine v_gR (n0 := 87) c_138_15 rfl ?_
    refine v_il6 c_138_16 ?_
    refine v_ll4 c_138_17 ?_
    refine v_l2 c_138_18 ?_
    refine v_lrem c_138_19 ((by decide)) ?_
    refine v_l2i c_138_20 ?_
    rw [lr4 hb]
    refine v_put c_138_21 rfl (by omega) rfl ?_
    refine v_ll4 c_138_22 ?_
    refine v_l2 c_138_23 ?_
    refine v_ldiv c_138_24 ((by decide)) ?_
    rw [ld4 hb, Nat.div_div_eq_div_mul, ← Nat.pow_succ]
    refine v_ls4 c_138_25 rfl ?_
    refine v_inc6 c_138_26 rfl ?_
    refine v_goto c_138_27 ?_
    refine hk _ _ ⟨by rw [show n - (i + 1) = n - 1 - i by omega], by rw [sI_o (by omega)]; exact g1, fun k k1 k2 => ?_, g3.tr (FR.sI (by omega) (by omega))⟩
    by_cases e : k = n - 1 - i
    · rw [e, sI_s]
      unfold cK
      rw [show n - 1 - (n - 1 - i) = i by omega]
    · rw [sI_k e]
      exact g2 k k1 (by omega)
  · rintro ls t ⟨rfl, g1, g2, g3⟩
    have hb : Z / 10000 ^ n < 2 ^ 63 := Nat.lt_of_le_of_lt (Nat.div_le_self _ _) hZ
    rw [Nat.sub_self]
    by_cases h : Z / 10000 ^ n = 0
    · rw [h]
      refine v_il6 c_138_12 ?_
      refine v_if_lt_t c_138_13 ((by decide)) ?_
      refine v_ll4 c_138_28 ?_
      refine v_lc c_138_29 ?_
      refine v_lcmp c_138_30 ?_
      refine v_if_ne_f c_138_31 ((by decide)) ?_
      refine v_icN (n := 1) c_138_32 rfl ?_
      refine v_goto c_138_33 ?_
      refine v_rb (B := true) c_138_35 rfl ?_
      exact ⟨_, rfl, by rw [decide_eq_true rfl], g1, fun k hk => g2 k hk (by omega), g3⟩
    · refine v_il6 c_138_12 ?_
      refine v_if_lt_t c_138_13 ((by decide)) ?_
      refine v_ll4 c_138_28 ?_
      refine v_lc c_138_29 ?_
      refine v_lcmp c_138_30 ?_
      refine v_if_ne_t c_138_31 ((fun z => h ((pk_lEQ hb (by decide)).mp ((lg_cmp_eq _ _).mp z)))) ?_
      refine v_icN (n := 0) c_138_34 rfl ?_
      refine v_rb (B := false) c_138_35 rfl ?_
      exact ⟨_, rfl, by rw [decide_eq_false h], g1, fun k hk => g2 k hk (by omega), g3⟩
theorem s_rsl {n Z : Nat} {X : Int64} (h4 : n ≤ 4) : ∀ d k (M : zM) (t : zv_S), n = k + d → MK t 58 M → MW M → t.1 86 1 = nI n → (∀ j, j < n → t.1 87 j = nI (cK n Z j)) →
    VV sc 26 33 [some (.ref 0), some (.int (nI n)), some (.long X), none, some (.int (nI k))] [] t (fun o u => o = .inl (some (.int (oI (rsF (cK n Z) d M k)))) ∧ FR 58 83 t u) := by
  intro d
  induction d with
  | zero =>
    intro k M t hn hM hw g1 g2
    refine v_il4 c_26_33 ?_
    refine v_il1 c_26_34 ?_
    refine v_icmp_ge_T c_26_35 (by omega) (by omega) (by omega) ?_
    refine v_bp c_26_51 ?_
    refine v_ri c_26_52 ?_
    exact ⟨rfl, FR.rf⟩
  | succ d ih =>
    intro k M t hn hM hw g1 g2
    refine v_il4 c_26_33 ?_
    refine v_il1 c_26_34 ?_
    refine v_icmp_ge_F c_26_35 (by omega) (by omega) (by omega) ?_
    refine v_al0 c_26_36 ?_
    refine v_gR (n0 := 86) c_26_37 rfl ?_
    refine v_il4 c_26_38 ?_
    refine v_al0 c_26_39 ?_
    refine v_gR (n0 := 58) c_26_40 rfl ?_
    refine v_al0 c_26_41 ?_
    refine v_gR (n0 := 61) c_26_42 rfl ?_
    refine v_al0 c_26_43 ?_
    refine v_gR (n0 := 77) c_26_44 rfl ?_
    refine v_cVI c_26_45 rfl (by decide) rfl rfl (l_suc hM hw g1 h4 (show k < n by omega) (g2 k (by omega)) (cK_b n Z k)) ?_
    rintro x u h
    cases hc : cmd M (cK n Z k) with
    | none =>
      obtain ⟨rfl, F⟩ := h.no hc
      rw [rsF_n hc]
      refine v_if_ne_fb c_26_46 (rfl) ?_
      refine v_il4 c_26_47 ?_
      refine v_ri c_26_48 ?_
      exact ⟨rfl, F⟩
    | some N =>
      obtain ⟨rfl, hN, F⟩ := h.ok hc
      rw [rsF_s hc]
      refine v_if_ne_tb c_26_46 (rfl) ?_
      refine v_incN4 c_26_49 rfl rfl ?_
      refine v_goto c_26_50 ?_
      exact (ih (k + 1) N u (by omega) hN (cmd_w hw hc) (by rw [F.at (by omega)]; exact g1) (fun j hj => by rw [F.at (by omega)]; exact g2 j hj)).mono fun o v h => ⟨h.1, F.tr h.2⟩
theorem q_rsl {n Z : Nat} (h4 : n ≤ 4) (hZ : Z < 2 ^ 63) {Q : zm_O → zv_S → Prop} : ∀ d k (M : zM) (t : zv_S), n = k + d → QM (t.1 89) M → MW M →
    (∀ (u : zv_S) (l : Int64) (y : Option Value), FS t u → VV sc 106 67 [some (.ref 88), some (.int (nI n)), some (.long (lN Z)), none, some (.long l), none, some (.int (oI (rsF (cK n Z) d M k))), y] [] u Q) →
    VV sc 106 43 [some (.ref 88), some (.int (nI n)), some (.long (lN Z)), none, some (.long (lN (10000 ^ (n - k)))), none, some (.int (-9)), some (.int (nI k))] [] t Q := by
  intro d
  induction d with
  | zero =>
    intro k M t hn hM hw hk
    refine v_il7 c_106_43 ?_
    refine v_il1 c_106_44 ?_
    refine v_icmp_ge_T c_106_45 (by omega) (by omega) (by omega) ?_
    exact hk t _ _ FS.rf
  | succ d ih =>
    intro k M t hn hM hw hk
    have hb := (p4_b (show n - k ≤ 4 by omega)).2
    have hp := p4_b (show n - 1 - k ≤ 4 by omega)
    have hZ2 : Z / 10000 ^ (n - 1 - k) < 2 ^ 63 := Nat.lt_of_le_of_lt (Nat.div_le_self _ _) hZ
    refine v_il7 c_106_43 ?_
    refine v_il1 c_106_44 ?_
    refine v_icmp_ge_F c_106_45 (by omega) (by omega) (by omega) ?_
    refine v_il6 c_106_46 ?_
    refine v_if_ge_f c_106_47 ((by decide)) ?_
    refine v_ll4 c_106_48 ?_
    refine v_l2 c_106_49 ?_
    refine v_ldiv c_106_50 ((by decide)) ?_
    rw [ld4 hb, show 10000 ^ (n - k) / 10000 = 10000 ^ (n - 1 - k) by rw [show n - k = (n - 1 - k) + 1 by omega, Nat.pow_succ, Nat.mul_div_cancel _ (by decide)]]
    refine v_ls4 c_106_51 rfl ?_
    refine v_al0 c_106_52 ?_
    refine v_ll2 c_106_53 ?_
    refine v_ll4 c_106_54 ?_
    refine v_ldiv c_106_55 ((fun z => absurd ((pk_lEQ (b := 0) hp.2 (by decide)).mp z) (by omega))) ?_
    rw [pk_lDiv hZ hp.1 hp.2]
    refine v_l2 c_106_56 ?_
    refine v_lrem c_106_57 ((by decide)) ?_
    refine v_l2i c_106_58 ?_
    rw [lr4 hZ2]
    refine v_cVI c_106_59 rfl (by decide) rfl rfl (q_suc hM hw (cK_b n Z k)) ?_
    rintro x u h
    cases hc : cmd M (cK n Z k) with
    | none =>
      obtain ⟨rfl, F⟩ := h.no hc
      rw [rsF_n hc] at hk
      refine v_if_eq_tb c_106_60 (rfl) ?_
      refine v_il7 c_106_63 ?_
      refine v_is6 c_106_64 rfl ?_
      refine v_incN7 c_106_65 rfl rfl ?_
      refine v_goto c_106_66 ?_
      by_cases hk1 : k + 1 < n
      · refine v_il7 c_106_43 ?_
        refine v_il1 c_106_44 ?_
        refine v_icmp_ge_F c_106_45 (by omega) (by omega) (by omega) ?_
        refine v_il6 c_106_46 ?_
        refine v_if_ge_T c_106_47 (by omega) ?_
        exact hk u _ _ F
      · refine v_il7 c_106_43 ?_
        refine v_il1 c_106_44 ?_
        refine v_icmp_ge_T c_106_45 (by omega) (by omega) (by omega) ?_
        exact hk u _ _ F
    | some N =>
      obtain ⟨rfl, hN, F⟩ := h.ok hc
      rw [rsF_s hc] at hk
      refine v_if_eq_fb c_106_60 (rfl) ?_
      refine v_il6 c_106_61 ?_
      refine v_goto c_106_62 ?_
      refine v_is6 c_106_64 rfl ?_
      refine v_incN7 c_106_65 rfl rfl ?_
      refine v_goto c_106_66 ?_
      refine (show n - 1 - k = n - (k + 1) by omega) ▸ ih (k + 1) N u (by omega) hN (cmd_w hw hc) fun v l y Fv => hk v l y (F.tr Fv)
/-- the model's limit -/
theorem q_lim {x : Int32} {X : Int64} {Q : zm_O → zv_S → Prop} (hk : ∀ (l : Int64) (i : Int32), (∀ n, 1 ≤ n → n ≤ 4 → x = nI n → l = lN (10000 ^ n)) → VV sc 106 19 [some (.ref 88), some (.int x), some (.long X), none, some (.long l), none, some (.int i), none] [] (sI s 88 8 (nI 0)) Q) : CC sc 106 [.ref 88, .int x, .long X] s Q := by
  refine cc_of ml_106 rfl rfl ?_
  by_cases h0 : x < 0
  · refine v_al0 c_106_0 ?_
    refine v_icN (n := 0) c_106_1 rfl ?_
    refine v_pI c_106_2 rfl ?_
    refine v_lc c_106_3 ?_
    refine v_ls4 c_106_4 rfl ?_
    refine v_icN (n := 0) c_106_5 rfl ?_
    refine v_is6 c_106_6 rfl ?_
    refine v_il6 c_106_7 ?_
    refine v_il1 c_106_8 ?_
    refine v_icmp_ge_t c_106_9 ((Int32.le_of_lt h0)) ?_
    exact hk _ _ fun n h1 h4 e => absurd h0 (by rw [e]; exact nI_pos (by omega))
  obtain ⟨n, hn, rfl⟩ := nI_of h0
  refine v_al0 c_106_0 ?_
  refine v_icN (n := 0) c_106_1 rfl ?_
  refine v_pI c_106_2 rfl ?_
  refine v_lc c_106_3 ?_
  refine v_ls4 c_106_4 rfl ?_
  refine v_icN (n := 0) c_106_5 rfl ?_
  refine v_is6 c_106_6 rfl ?_
  refine vv_forS (min n 4) (fun i ls t => ls = [some (.ref 88), some (.int (nI n)), some (.long X), none, some (.long (lN (10000 ^ i))), none, some (.int (nI i)), none] ∧ t = sI s 88 8 (nI 0)) ?_ ?_ _ _ ⟨rfl, rfl⟩
  · rintro i ls t hi ⟨rfl, rfl⟩ hkk
    have hi1 : i < n := by omega
    have hi2 : i < 4 := by omega
    refine v_il6 c_106_7 ?_
    refine v_il1 c_106_8 ?_
    refine v_icmp_ge_F c_106_9 (by omega) (by omega) (by omega) ?_
    refine v_il6 c_106_10 ?_
    refine v_icN (n := 4) c_106_11 rfl ?_
    refine v_icmp_ge_F c_106_12 (by omega) (by omega) (by omega) ?_
    refine v_ll4 c_106_13 ?_
    refine v_l2 c_106_14 ?_
    refine v_lmul c_106_15 ?_
    rw [show lN (10000 ^ i) * 10000 = lN (10000 ^ (i + 1)) from (lN_mul _ 10000).trans (by rw [Nat.pow_succ])]
    refine v_ls4 c_106_16 rfl ?_
    refine v_incN6 c_106_17 rfl rfl ?_
    refine v_goto c_106_18 ?_
    exact hkk _ _ ⟨rfl, rfl⟩
  · rintro ls t ⟨rfl, rfl⟩
    have fin := hk (lN (10000 ^ min n 4)) (nI (min n 4)) (fun m h1 h4 e => by rw [(nI_eq hn (by omega)).mp e, Nat.min_eq_left h4])
    by_cases h : n ≤ 4
    · rw [Nat.min_eq_left h] at fin ⊢
      refine v_il6 c_106_7 ?_
      refine v_il1 c_106_8 ?_
      refine v_icmp_ge_T c_106_9 (by omega) (by omega) (by omega) ?_
      exact fin
    · rw [Nat.min_eq_right (by omega)] at fin ⊢
      refine v_il6 c_106_7 ?_
      refine v_il1 c_106_8 ?_
      refine v_icmp_ge_F c_106_9 (by omega) (by omega) (by omega) ?_
      refine v_il6 c_106_10 ?_
      refine v_icN (n := 4) c_106_11 rfl ?_
      refine v_icmp_ge_T c_106_12 (by omega) (by omega) (by omega) ?_
      exact fin
theorem o_run (hw : WA M L S) (x : Int32) (X : Int64) : OK2 sc (fun _ => 0) 1 26 106 [.ref 0, .int x, .long X] [.ref 88, .int x, .long X] (M, L, S, tx, len) := by
  have hM := hw.1
  have h7 := hM.1
  by_cases h1 : x < nI 1
  · refine ⟨.inl 1, fun s h => ?_, fun s h => q_lim fun l i hl => ?_, ⟨by omega, by omega⟩⟩
    · refine cc_of ml_26 rfl rfl ?_
      refine v_il1 c_26_0 ?_
      refine v_icN (n := 1) c_26_1 rfl ?_
      refine v_icmp_lt_t c_26_2 (h1) ?_
      refine vv_x c_26_6 ?_
      exact xc_e h rfl
    · refine v_il1 c_106_19 ?_
      refine v_i2l c_106_20 ?_
      refine v_lc c_106_21 ?_
      refine v_l2 c_106_22 ?_
      refine v_cSi c_106_23 rfl rfl rfl (q_inC x (nI 1) (nI 4) (by decide) (by decide)) ?_
      refine v_if_eq_tb c_106_24 (by rw [decide_eq_false (Int32.not_le.mpr h1)]; rfl) ?_
      refine v_al0 c_106_33 ?_
      refine v_icN (n := 1) c_106_34 rfl ?_
      refine v_cVi c_106_35 rfl (by decide) rfl rfl (q_fl) ?_
      refine v_ri c_106_36 ?_
      exact ⟨_, rfl, xm_e h⟩
  obtain ⟨n, hn, rfl⟩ := nI_of (show ¬ x < 0 from fun z => h1 (Int32.lt_of_lt_of_le z (by decide)))
  have hn1 : 1 ≤ n := Nat.le_of_not_lt fun z => h1 ((nI_ltI hn (by omega)).mpr z)
  by_cases h4 : n ≤ 4
  · have hin : (decide (nI 1 ≤ nI n) && decide (nI n ≤ nI 4)) = true := by
      rw [decide_eq_true ((nI_leI (by omega) (by omega)).mpr (by omega)), decide_eq_true ((nI_leI (by omega) (by omega)).mpr (by omega))]
      rfl
    by_cases hX : X < 0
    · refine ⟨.inl 1, fun s h => ?_, fun s h => q_lim fun l i hl => ?_, ⟨by omega, by omega⟩⟩
      · refine cc_of ml_26 rfl rfl ?_
        refine v_il1 c_26_0 ?_
        refine v_icN (n := 1) c_26_1 rfl ?_
        refine v_icmp_lt_F c_26_2 (by omega) (by omega) (by omega) ?_
        refine v_il1 c_26_3 ?_
        refine v_icN (n := 4) c_26_4 rfl ?_
        refine v_icmp_le_T c_26_5 (by omega) (by omega) (by omega) ?_
        refine v_ll2 c_26_11 ?_
        refine v_lc c_26_12 ?_
        refine v_lcmp c_26_13 ?_
        refine v_if_lt_t c_26_14 (((lg_cmp_lt _ _).mpr hX)) ?_
        refine vv_x c_26_21 ?_
        exact xc_e h rfl
      · refine v_il1 c_106_19 ?_
        refine v_i2l c_106_20 ?_
        refine v_lc c_106_21 ?_
        refine v_l2 c_106_22 ?_
        refine v_cSi c_106_23 rfl rfl rfl (q_inC (nI n) (nI 1) (nI 4) (by decide) (by decide)) ?_
        refine v_if_eq_fb c_106_24 (hin) ?_
        refine v_ll2 c_106_25 ?_
        refine v_lc c_106_26 ?_
        refine v_lcmp c_106_27 ?_
        refine v_if_lt_t c_106_28 (((lg_cmp_lt _ _).mpr hX)) ?_
        refine v_al0 c_106_33 ?_
        refine v_icN (n := 1) c_106_34 rfl ?_
        refine v_cVi c_106_35 rfl (by decide) rfl rfl (q_fl) ?_
        refine v_ri c_106_36 ?_
        exact ⟨_, rfl, xm_e h⟩
    obtain ⟨Z, hZ, rfl⟩ := pk_lOf hX
    have hp := p4_b h4
    have hX2 : ¬ lg_cmp (lN Z) 0 < 0 := fun z => hX ((lg_cmp_lt _ _).mp z)
    by_cases hc : Z / 10000 ^ n = 0
    · have hlt : Z < 10000 ^ n := (Nat.div_eq_zero_iff_lt hp.1).mp hc
      refine ⟨.inr (oI (rsF (cK n Z) n M 0), (M, L, S, tx, len)), fun s h => ?_, fun s h => q_lim fun l i hl => ?_, hw⟩
      · refine cc_of ml_26 rfl rfl ?_
        refine v_il1 c_26_0 ?_
        refine v_icN (n := 1) c_26_1 rfl ?_
        refine v_icmp_lt_F c_26_2 (by omega) (by omega) (by omega) ?_
        refine v_il1 c_26_3 ?_
        refine v_icN (n := 4) c_26_4 rfl ?_
        refine v_icmp_le_T c_26_5 (by omega) (by omega) (by omega) ?_
        refine v_ll2 c_26_11 ?_
        refine v_lc c_26_12 ?_
        refine v_lcmp c_26_13 ?_
        refine v_if_lt_f c_26_14 (hX2) ?_
        refine v_al0 c_26_15 ?_
        refine v_gR (n0 := 86) c_26_16 rfl ?_
        refine v_il1 c_26_17 ?_
        refine v_ll2 c_26_18 ?_
        refine v_cVI c_26_19 rfl (by decide) rfl rfl (s_tks hn1 h4 hZ) ?_
        rintro y t ⟨rfl, t1, t2, F⟩
        refine v_if_ne_tb c_26_20 (decide_eq_true hc) ?_
        refine v_al0 c_26_26 ?_
        refine v_gR (n0 := 58) c_26_27 rfl ?_
        refine v_al0 c_26_28 ?_
        refine v_gR (n0 := 3) c_26_29 rfl ?_
        refine v_cVV c_26_30 rfl (by decide) rfl rfl (k_bec m52 m3 (by omega)) ?_
        rintro u hu
        have Fu := hu.2.2.2.2
        have hMu : MK u 58 M := MK.bec ((h.fr F (by omega)).kM) h7 hu
        refine v_icN (n := 0) c_26_31 rfl ?_
        refine v_is4 c_26_32 rfl ?_
        refine (s_rsl h4 n 0 M u (by omega) hMu hM (by rw [Fu.at (by omega)]; exact t1) (fun j hj => by rw [Fu.at (by omega)]; exact t2 j hj)).mono ?_
        rintro o v ⟨rfl, Fv⟩
        have h1 : FR 58 88 s v := ((F.up (by omega) (by omega)).tr (Fu.up (by omega) (by omega))).tr (Fv.up (by omega) (by omega))
        exact ⟨rfl, h.fr h1 (by omega), FC.fr h1 (by omega)⟩
      · have h' := h.th (x := nI 0)
        rw [hl n hn1 h4 rfl]
        refine v_il1 c_106_19 ?_
        refine v_i2l c_106_20 ?_
        refine v_lc c_106_21 ?_
        refine v_l2 c_106_22 ?_
        refine v_cSi c_106_23 rfl rfl rfl (q_inC (nI n) (nI 1) (nI 4) (by decide) (by decide)) ?_
        refine v_if_eq_fb c_106_24 (hin) ?_
        refine v_ll2 c_106_25 ?_
        refine v_lc c_106_26 ?_
        refine v_lcmp c_106_27 ?_
        refine v_if_lt_f c_106_28 (hX2) ?_
        refine v_ll2 c_106_29 ?_
        refine v_ll4 c_106_30 ?_
        refine v_lcmp c_106_31 ?_
        refine v_if_lt_t c_106_32 (((lg_cmp_lt _ _).mpr ((pk_lLT hZ hp.2).mpr hlt))) ?_
        refine v_al0 c_106_37 ?_
        refine v_cVV c_106_38 rfl (by decide) rfl rfl (q_keep) ?_
        rintro t ⟨k1, k2⟩
        have hMt : QM (t.1 89) M := by rw [k2.at (by omega)]; exact h'.kM
        refine v_bp c_106_39 ?_
        refine v_is6 c_106_40 rfl ?_
        refine v_icN (n := 0) c_106_41 rfl ?_
        refine v_is7 c_106_42 rfl ?_
        refine q_rsl h4 hZ n 0 M t (by omega) hMt hM fun u l y F => ?_
        refine v_al0 c_106_67 ?_
        refine v_cVV c_106_68 rfl (by decide) rfl rfl (q_back) ?_
        rintro v ⟨b1, b2⟩
        refine v_il6 c_106_69 ?_
        refine v_ri c_106_70 ?_
        refine ⟨_, rfl, xm_r h (((GM.th.tr (GM.fr k2 (by omega))).tr F.1).tr (GM.q b2)) (h'.kM.cp h7 fun j hj => ?_) ?_ rfl⟩
        · rw [b1 j hj, F.2.1, k1 j hj]
        · rw [b2.q8, F.2.2, k2.at (by omega), sI_s]
    · have hge : ¬ Z < 10000 ^ n := fun z => hc (Nat.div_eq_of_lt z)
      refine ⟨.inl 1, fun s h => ?_, fun s h => q_lim fun l i hl => ?_, ⟨by omega, by omega⟩⟩
      · refine cc_of ml_26 rfl rfl ?_
        refine v_il1 c_26_0 ?_
        refine v_icN (n := 1) c_26_1 rfl ?_
        refine v_icmp_lt_F c_26_2 (by omega) (by omega) (by omega) ?_
        refine v_il1 c_26_3 ?_
        refine v_icN (n := 4) c_26_4 rfl ?_
        refine v_icmp_le_T c_26_5 (by omega) (by omega) (by omega) ?_
        refine v_ll2 c_26_11 ?_
        refine v_lc c_26_12 ?_
        refine v_lcmp c_26_13 ?_
        refine v_if_lt_f c_26_14 (hX2) ?_
        refine v_al0 c_26_15 ?_
        refine v_gR (n0 := 86) c_26_16 rfl ?_
        refine v_il1 c_26_17 ?_
        refine v_ll2 c_26_18 ?_
        refine v_cVI c_26_19 rfl (by decide) rfl rfl (s_tks hn1 h4 hZ) ?_
        rintro y t ⟨rfl, t1, t2, F⟩
        refine v_if_ne_fb c_26_20 (decide_eq_false hc) ?_
        refine vv_x c_26_21 ?_
        exact xc_x h (F.up (lo' := 58) (hi' := 88) (by omega) (by omega)) (by omega) rfl
      · rw [hl n hn1 h4 rfl]
        refine v_il1 c_106_19 ?_
        refine v_i2l c_106_20 ?_
        refine v_lc c_106_21 ?_
        refine v_l2 c_106_22 ?_
        refine v_cSi c_106_23 rfl rfl rfl (q_inC (nI n) (nI 1) (nI 4) (by decide) (by decide)) ?_
        refine v_if_eq_fb c_106_24 (hin) ?_
        refine v_ll2 c_106_25 ?_
        refine v_lc c_106_26 ?_
        refine v_lcmp c_106_27 ?_
        refine v_if_lt_f c_106_28 (hX2) ?_
        refine v_ll2 c_106_29 ?_
        refine v_ll4 c_106_30 ?_
        refine v_lcmp c_106_31 ?_
        refine v_if_lt_f c_106_32 ((fun z => hge ((pk_lLT hZ hp.2).mp ((lg_cmp_lt _ _).mp z)))) ?_
        refine v_al0 c_106_33 ?_
        refine v_icN (n := 1) c_106_34 rfl ?_
        refine v_cVi c_106_35 rfl (by decide) rfl rfl (q_fl) ?_
        refine v_ri c_106_36 ?_
        exact ⟨_, rfl, xm_e h⟩
  · refine ⟨.inl 1, fun s h => ?_, fun s h => q_lim fun l i hl => ?_, ⟨by omega, by omega⟩⟩
    · refine cc_of ml_26 rfl rfl ?_
      refine v_il1 c_26_0 ?_
      refine v_icN (n := 1) c_26_1 rfl ?_
      refine v_icmp_lt_F c_26_2 (by omega) (by omega) (by omega) ?_
      refine v_il1 c_26_3 ?_
      refine v_icN (n := 4) c_26_4 rfl ?_
      refine v_icmp_le_F c_26_5 (by omega) (by omega) (by omega) ?_
      refine vv_x c_26_6 ?_
      exact xc_e h rfl
    · refine v_il1 c_106_19 ?_
      refine v_i2l c_106_20 ?_
      refine v_lc c_106_21 ?_
      refine v_l2 c_106_22 ?_
      refine v_cSi c_106_23 rfl rfl rfl (q_inC (nI n) (nI 1) (nI 4) (by decide) (by decide)) ?_
      refine v_if_eq_tb c_106_24 (by rw [show decide (nI n ≤ nI 4) = false from decide_eq_false (fun z => absurd ((nI_leI (by omega) (by omega)).mp z) (by omega)), Bool.and_false]) ?_
      refine v_al0 c_106_33 ?_
      refine v_icN (n := 1) c_106_34 rfl ?_
      refine v_cVi c_106_35 rfl (by decide) rfl rfl (q_fl) ?_
      refine v_ri c_106_36 ?_
      exact ⟨_, rfl, xm_e h⟩
end RSC
