/-! CALLS: simulate -/
def rX (X : Int64) : Nat := (X.toUInt64 >>> 33).toNat
theorem rX_b (X : Int64) : rX X < 2147483648 := by
  unfold rX
  rw [UInt64.toNat_shiftRight, Nat.shiftRight_eq_div_pow, show (33 : UInt64).toNat % 64 = 33 from rfl]
  have h := X.toUInt64.toNat_lt
  omega
theorem rX_e (X : Int64) : ((X.toUInt64 >>> ((nI 33).toInt64.toUInt64 &&& Int64.toUInt64 63)).toInt64).toInt32 = nI (rX X) := by
  have h1 : (nI 33).toInt64.toUInt64 &&& Int64.toUInt64 63 = 33 := by decide +kernel
  rw [h1, ← lN_i]
  unfold rX
  congr 1
  have h2 : X.toUInt64 >>> 33 = UInt64.ofNat (X.toUInt64 >>> 33).toNat := UInt64.ofNat_toNat.symm
  exact congrArg UInt64.toInt64 h2
def mtB (M : zM) (r : Nat) : Bool := decide (0 < mN M) && decide (mAg M (r / 16 % mN M) (r / 256 % mN M) = 0)
def meS (M : zM) (r : Nat) : zM := if mtB M r then mSw M (r / 16 % mN M) (r / 256 % mN M) else M
def mtM (M : zM) (r : Nat) : zM := if mN M = 0 then M else if r % 16 = 0 then mLv (meS M r) (r / 16 % mN M) else meS M r
def smX (X : Int64) : Int64 := X * 6364136223846793005 + 1442695040888963407
def smK (M : zM) (X : Int64) : Nat → zM × Int64 × Nat
  | 0 => (M, X, 0)
  | k + 1 => (mtM (smK M X k).1 (rX (smX (smK M X k).2.1)), smX (smK M X k).2.1, (smK M X k).2.2 + (mtB (smK M X k).1 (rX (smX (smK M X k).2.1))).toNat)
theorem meS_n {M : zM} {r : Nat} : mN (meS M r) = mN M := by
  unfold meS
  split <;> rfl
theorem meS_w {M : zM} (hw : MW M) {r : Nat} (h0 : 0 < mN M) : MW (meS M r) := by
  unfold meS
  split
  · exact hw.sw (Nat.mod_lt _ h0) (Nat.mod_lt _ h0)
  · exact hw
theorem mtM_w {M : zM} (hw : MW M) {r : Nat} : MW (mtM M r) := by
  unfold mtM
  split
  · exact hw
  · have h0 : 0 < mN M := by omega
    split
    · refine (meS_w hw h0).lv ?_
      rw [meS_n]
      exact Nat.mod_lt _ h0
    · exact meS_w hw h0
theorem mtM_n {M : zM} {r : Nat} : mN (mtM M r) = mN M := by
  unfold mtM
  split
  · rfl
  · split
    · exact meS_n
    · exact meS_n
theorem smK_w {M : zM} {X : Int64} (hw : MW M) : ∀ k, MW (smK M X k).1 ∧ mN (smK M X k).1 = mN M ∧ (smK M X k).2.2 ≤ k
  | 0 => ⟨hw, rfl, Nat.le_refl _⟩
  | k + 1 => by
    obtain ⟨h1, h2, h3⟩ := smK_w hw k
    refine ⟨mtM_w h1, mtM_n.trans h2, ?_⟩
    have h : ∀ b : Bool, b.toNat ≤ 1 := by decide
    have := h (mtB (smK M X k).1 (rX (smX (smK M X k).2.1)))
    show (smK M X k).2.2 + _ ≤ k + 1
    omega
theorem smK_0 {M : zM} {X : Int64} (h0 : mN M = 0) : ∀ k, (smK M X k).1 = M ∧ (smK M X k).2.2 = 0
  | 0 => ⟨rfl, rfl⟩
  | k + 1 => by
    obtain ⟨h1, h2⟩ := smK_0 (X := X) h0 k
    constructor
    · show mtM (smK M X k).1 _ = M
      rw [h1]
      unfold mtM
      rw [if_pos h0]
    · show (smK M X k).2.2 + (mtB (smK M X k).1 _).toNat = 0
      rw [h1, h2]
      unfold mtB
      rw [decide_eq_false (by omega)]
      rfl
section SIM
variable {sc : Nat × (Nat → Int32)} {s t : zv_S} {M : zM} {L : List zM} {S : Nat → Option zM} {tx : Nat → Nat} {len : Nat}
theorem s_met (hM : MK s 58 M) (hw : MW M) {r : Nat} (hr : r < 2147483648) : CC sc 35 [.ref 58, .int (nI r)] s (QI fun x t => x = bI (mtB M r) ∧ MK t 58 (mtM M r) ∧ FR 58 61 s t) := by
  refine cc_of ml_35 rfl rfl ?_
  have h7 := hw.1
  by_cases h0 : mN M = 0
  · refine v_al0 c_35_0 ?_
    refine v_gI c_35_1 rfl (hM.1) ?_
    refine v_if_gt_F c_35_2 (by omega) (by omega) ?_
    refine v_icN (n := 0) c_35_3 rfl ?_
    refine v_rb (B := false) c_35_4 rfl ?_
    exact ⟨_, rfl, by unfold mtB; rw [decide_eq_false (by omega)]; rfl, by unfold mtM; rw [if_pos h0]; exact hM, FR.rf⟩
  have hp : 0 < mN M := by omega
  obtain ⟨i, hi⟩ : ∃ i, i = r / 16 % mN M := ⟨_, rfl⟩
  obtain ⟨j, hj⟩ : ∃ j, j = r / 256 % mN M := ⟨_, rfl⟩
  have hi1 : i < mN M := by rw [hi]; exact Nat.mod_lt _ hp
  have hj1 : j < mN M := by rw [hj]; exact Nat.mod_lt _ hp
  have hr16 : r / 16 < 2147483648 := by omega
  have hr256 : r / 256 < 2147483648 := by omega
  have hab : mAg M i j < 2147483648 := by unfold mAg; (repeat' split) <;> omega
  have fin : ∀ (u : zv_S) (b : Bool), b = mtB M r → MK u 58 (meS M r) → FR 58 61 s u → VV sc 35 34 [some (.ref 58), some (.int (nI r)), some (.int (nI i)), some (.int (nI j)), some (.int (bI b))] [] u (QI fun x t => x = bI (mtB M r) ∧ MK t 58 (mtM M r) ∧ FR 58 61 s t) := by
    intro u b hb hMu Fu
    have hwS := meS_w hw (r := r) hp
    by_cases h16 : r % 16 = 0
    · have e : mtM M r = mLv (meS M r) i := by unfold mtM; rw [if_neg h0, if_pos h16, hi]
      refine v_il1 c_35_34 ?_
      refine v_bpN (n := 16) c_35_35 rfl ?_
      refine v_iremN c_35_36 (by omega) (by omega) (by omega) ?_
      refine v_if_ne_F c_35_37 (h16) (by omega) ?_
      refine v_al0 c_35_38 ?_
      refine v_il2 c_35_39 ?_
      refine v_cVv c_35_40 rfl (by decide) rfl rfl (k_snd m52 hMu hwS (by omega)) ?_
      refine v_il4 c_35_41 ?_
      refine v_rb c_35_42 rfl ?_
      exact ⟨_, rfl, by rw [hb], by rw [e]; exact MK.snd hMu, Fu.tr (FR.sI (by omega) (by omega))⟩
    · have e : mtM M r = meS M r := by unfold mtM; rw [if_neg h0, if_neg h16]
      refine v_il1 c_35_34 ?_
      refine v_bpN (n := 16) c_35_35 rfl ?_
      refine v_iremN c_35_36 (by omega) (by omega) (by omega) ?_
      refine v_if_ne_T c_35_37 (h16) (by omega) ?_
      refine v_il4 c_35_41 ?_
      refine v_rb c_35_42 rfl ?_
      exact ⟨_, rfl, by rw [hb], by rw [e]; exact hMu, Fu⟩
  refine v_al0 c_35_0 ?_
  refine v_gI c_35_1 rfl (hM.1) ?_
  refine v_if_gt_T c_35_2 (by omega) (by omega) ?_
  refine v_il1 c_35_5 ?_
  refine v_bpN (n := 16) c_35_6 rfl ?_
  refine v_idivN c_35_7 (by omega) (by omega) (by omega) ?_
  refine v_al0 c_35_8 ?_
  refine v_gI c_35_9 rfl (hM.1) ?_
  refine v_iremN c_35_10 (by omega) (by omega) (by omega) ?_
  rw [← hi]
  refine v_is2 c_35_11 rfl ?_
  refine v_il1 c_35_12 ?_
  refine v_spN (n := 256) c_35_13 rfl ?_
  refine v_idivN c_35_14 (by omega) (by omega) (by omega) ?_
  refine v_al0 c_35_15 ?_
  refine v_gI c_35_16 rfl (hM.1) ?_
  refine v_iremN c_35_17 (by omega) (by omega) (by omega) ?_
  rw [← hj]
  by_cases ha : mAg M i j = 0
  · have hb : mtB M r = true := by unfold mtB; rw [decide_eq_true hp, ← hi, ← hj, decide_eq_true ha]; rfl
    have e : meS M r = mSw M i j := by unfold meS; rw [hb, if_pos rfl, ← hi, ← hj]
    refine v_is3 c_35_18 rfl ?_
    refine v_al0 c_35_19 ?_
    refine v_il2 c_35_20 ?_
    refine v_il3 c_35_21 ?_
    refine v_cVi c_35_22 rfl (by decide) rfl rfl (k_rsn m52 hM hw hi1 hj1) ?_
    refine v_if_ne_F c_35_23 (ha) (by omega) ?_
    refine v_icN (n := 1) c_35_24 rfl ?_
    refine v_goto c_35_25 ?_
    refine v_is4 c_35_27 rfl ?_
    refine v_il4 c_35_28 ?_
    refine v_if_eq_F c_35_29 (by omega) (by omega) ?_
    refine v_al0 c_35_30 ?_
    refine v_il2 c_35_31 ?_
    refine v_il3 c_35_32 ?_
    refine v_cVv c_35_33 rfl (by decide) rfl rfl (k_swp m52 (by omega) (by omega)) ?_
    exact fin _ true hb.symm (by rw [e]; exact MK.sw hM hi1 hj1) ((FR.sI (by omega) (by omega)).tr (FR.sI (by omega) (by omega)))
  · have hb : mtB M r = false := by unfold mtB; rw [← hi, ← hj, decide_eq_false ha, Bool.and_false]
    have e : meS M r = M := by unfold meS; rw [hb, if_neg (by decide)]
    refine v_is3 c_35_18 rfl ?_
    refine v_al0 c_35_19 ?_
    refine v_il2 c_35_20 ?_
    refine v_il3 c_35_21 ?_
    refine v_cVi c_35_22 rfl (by decide) rfl rfl (k_rsn m52 hM hw hi1 hj1) ?_
    refine v_if_ne_T c_35_23 (ha) (by omega) ?_
    refine v_icN (n := 0) c_35_26 rfl ?_
    refine v_is4 c_35_27 rfl ?_
    refine v_il4 c_35_28 ?_
    refine v_if_eq_T c_35_29 (by omega) (by omega) ?_
    exact fin _ false hb.symm (by rw [e]; exact hM) FR.rf
theorem o_sim (hw : WA M L S) (X : Int64) (x : Int32) : OK2 sc (fun _ => 0) 1 27 107 [.ref 0, .long X, .int x] [.ref 88, .long X, .int x] (M, L, S, tx, len) := by
  have hM := hw.1
  have h7 := hM.1
  by_cases h1 : x < nI 1
  · refine ⟨.inl 1, fun s h => ?_, fun s h => ?_, ⟨by omega, by omega⟩⟩
    · refine cc_of ml_27 rfl rfl ?_
      refine v_il3 c_27_0 ?_
      refine v_icN (n := 1) c_27_1 rfl ?_
      refine v_icmp_lt_t c_27_2 (h1) ?_
      refine vv_x c_27_6 ?_
      exact xc_e h rfl
    · refine cc_of ml_107 rfl rfl ?_
      refine v_al0 c_107_0 ?_
      refine v_icN (n := 0) c_107_1 rfl ?_
      refine v_pI c_107_2 rfl ?_
      refine v_il3 c_107_3 ?_
      refine v_i2l c_107_4 ?_
      refine v_lc c_107_5 ?_
      refine v_l2 c_107_6 ?_
      refine v_cSi c_107_7 rfl rfl rfl (q_inC x (nI 1) (nI 99) (by decide) (by decide)) ?_
      refine v_if_ne_fb c_107_8 (by rw [decide_eq_false (Int32.not_le.mpr h1)]; rfl) ?_
      refine v_al0 c_107_9 ?_
      refine v_icN (n := 1) c_107_10 rfl ?_
      refine v_cVi c_107_11 rfl (by decide) rfl rfl (q_fl) ?_
      refine v_ri c_107_12 ?_
      exact ⟨_, rfl, xm_e h⟩
  obtain ⟨m, hm, rfl⟩ := nI_of (show ¬ x < 0 from fun z => h1 (Int32.lt_of_lt_of_le z (by decide)))
  have hm1 : 1 ≤ m := Nat.le_of_not_lt fun z => h1 ((nI_ltI hm (by omega)).mpr z)
  by_cases h99 : m ≤ 99
  · have hin : (decide (nI 1 ≤ nI m) && decide (nI m ≤ nI 99)) = true := by
      rw [decide_eq_true ((nI_leI (by omega) (by omega)).mpr (by omega)), decide_eq_true ((nI_leI (by omega) (by omega)).mpr (by omega))]
      rfl
    obtain ⟨w1, w2, w3⟩ := smK_w (X := X) hM m
    refine ⟨.inr (nI (1000 * (smK M X m).2.2 + 100 * pc (mP (smK M X m).1) + mSum (smK M X m).1), (M, L, S, tx, len)), fun s h => ?_, fun s h => ?_, hw⟩
    · refine cc_of ml_27 rfl rfl ?_
      refine v_il3 c_27_0 ?_
      refine v_icN (n := 1) c_27_1 rfl ?_
      refine v_icmp_lt_F c_27_2 (by omega) (by omega) (by omega) ?_
      refine v_il3 c_27_3 ?_
      refine v_bpN (n := 99) c_27_4 rfl ?_
      refine v_icmp_le_T c_27_5 (by omega) (by omega) (by omega) ?_
      refine v_al0 c_27_11 ?_
      refine v_gR (n0 := 58) c_27_12 rfl ?_
      refine v_al0 c_27_13 ?_
      refine v_gR (n0 := 3) c_27_14 rfl ?_
      refine v_cVV c_27_15 rfl (by decide) rfl rfl (k_bec m52 m3 (by omega)) ?_
      rintro t ht
      have F := ht.2.2.2.2
      have hMt : MK t 58 M := MK.bec h.kM h7 ht
      refine v_icN (n := 0) c_27_16 rfl ?_
      refine v_is4 c_27_17 rfl ?_
      refine v_ll1 c_27_18 ?_
      refine v_ls5 c_27_19 rfl ?_
      refine v_icN (n := 0) c_27_20 rfl ?_
      refine v_is7 c_27_21 rfl ?_
      refine vv_forS m (fun k ls u => ls = [some (.ref 0), some (.long X), none, some (.int (nI m)), some (.int (nI (smK M X k).2.2)), some (.long (smK M X k).2.1), none, some (.int (nI k))] ∧ MK u 58 (smK M X k).1 ∧ FR 58 61 s u) ?_ ?_ _ _ ⟨rfl, hMt, F⟩
      · rintro k ls u hk ⟨rfl, g1, g2⟩ hkk
        obtain ⟨v1, v2, v3⟩ := smK_w (X := X) hM k
        refine v_il7 c_27_22 ?_
        refine v_il3 c_27_23 ?_
        refine v_icmp_ge_F c_27_24 (by omega) (by omega) (by omega) ?_
        refine v_ll5 c_27_25 ?_
        refine v_l2 c_27_26 ?_
        refine v_lmul c_27_27 ?_
        refine v_l2 c_27_28 ?_
        refine v_ladd c_27_29 ?_
        refine v_ls5 c_27_30 rfl ?_
        refine v_al0 c_27_31 ?_
        refine v_gR (n0 := 58) c_27_32 rfl ?_
        refine v_ll5 c_27_33 ?_
        refine v_bpN (n := 33) c_27_34 rfl ?_
        refine v_lushr c_27_35 ?_
        refine v_l2i c_27_36 ?_
        rw [rX_e]
        refine v_cSI c_27_37 rfl rfl rfl (s_met g1 v1 (rX_b _)) ?_
        rintro y v ⟨hy, hMv, Fv⟩
        cases hb : mtB (smK M X k).1 (rX (smX (smK M X k).2.1))
        · have e : (smK M X (k + 1)).2.2 = (smK M X k).2.2 := by
            show (smK M X k).2.2 + (mtB (smK M X k).1 (rX (smX (smK M X k).2.1))).toNat = _
            rw [hb]; rfl
          have hy : y = bI false := by rw [hy, ← hb]; rfl
          subst hy
          refine v_if_eq_tb c_27_38 (rfl) ?_
          refine v_incN7 c_27_40 rfl rfl ?_
          refine v_goto c_27_41 ?_
          exact hkk _ _ ⟨by rw [e]; rfl, hMv, g2.tr Fv⟩
        · have e : (smK M X (k + 1)).2.2 = (smK M X k).2.2 + 1 := by
            show (smK M X k).2.2 + (mtB (smK M X k).1 (rX (smX (smK M X k).2.1))).toNat = _
            rw [hb]; rfl
          have hy : y = bI true := by rw [hy, ← hb]; rfl
          subst hy
          refine v_if_eq_fb c_27_38 (rfl) ?_
          refine v_incN4 c_27_39 rfl rfl ?_
          refine v_incN7 c_27_40 rfl rfl ?_
          refine v_goto c_27_41 ?_
          exact hkk _ _ ⟨by rw [e]; rfl, hMv, g2.tr Fv⟩
      · rintro ls u ⟨rfl, g1, g2⟩
        refine v_il7 c_27_22 ?_
        refine v_il3 c_27_23 ?_
        refine v_icmp_ge_T c_27_24 (by omega) (by omega) (by omega) ?_
        refine v_spN (n := 1000) c_27_42 rfl ?_
        refine v_il4 c_27_43 ?_
        refine v_imulN c_27_44 ?_
        refine v_bpN (n := 100) c_27_45 rfl ?_
        refine v_al0 c_27_46 ?_
        refine v_gR (n0 := 58) c_27_47 rfl ?_
        refine v_cVi c_27_48 rfl (by decide) rfl rfl (k_pct m52 g1 w1) ?_
        refine v_imulN c_27_49 ?_
        refine v_iaddN c_27_50 ?_
        refine v_al0 c_27_51 ?_
        refine v_gR (n0 := 58) c_27_52 rfl ?_
        refine v_cVi c_27_53 rfl (by decide) rfl rfl (k_sum m52 g1 w1) ?_
        refine v_iaddN c_27_54 ?_
        refine v_ri c_27_55 ?_
        exact xc_r h g2 (by omega) rfl
    · have h' := h.th (x := nI 0)
      refine cc_of ml_107 rfl rfl ?_
      refine v_al0 c_107_0 ?_
      refine v_icN (n := 0) c_107_1 rfl ?_
      refine v_pI c_107_2 rfl ?_
      refine v_il3 c_107_3 ?_
      refine v_i2l c_107_4 ?_
      refine v_lc c_107_5 ?_
      refine v_l2 c_107_6 ?_
      refine v_cSi c_107_7 rfl rfl rfl (q_inC (nI m) (nI 1) (nI 99) (by decide) (by decide)) ?_
      refine v_if_ne_tb c_107_8 (hin) ?_
      refine v_al0 c_107_13 ?_
      refine v_cVV c_107_14 rfl (by decide) rfl rfl (q_keep) ?_
      rintro t ⟨k1, k2⟩
      have hMt : QM (t.1 89) M := by rw [k2.at (by omega)]; exact h'.kM
      have fin : ∀ (u : zv_S) (X' : Int64) (y7 : Int32) (y8 y9 y10 : Option Value), QM (u.1 89) (smK M X m).1 → FR 89 90 t u → VV sc 107 87 [some (.ref 88), some (.long X), none, some (.int (nI m)), some (.long X'), none, some (.int (nI (smK M X m).2.2)), some (.int y7), y8, y9, y10] [] u (QI (XM s (M, L, S, tx, len) (.inr (nI (1000 * (smK M X m).2.2 + 100 * pc (mP (smK M X m).1) + mSum (smK M X m).1), (M, L, S, tx, len))))) := by
        intro u X' y7 y8 y9 y10 hq Fu
        refine v_spN (n := 1000) c_107_87 rfl ?_
        refine v_il6 c_107_88 ?_
        refine v_imulN c_107_89 ?_
        refine v_bpN (n := 100) c_107_90 rfl ?_
        refine v_al0 c_107_91 ?_
        refine v_cVi c_107_92 rfl (by decide) rfl rfl (q_pre hq w1) ?_
        refine v_imulN c_107_93 ?_
        refine v_iaddN c_107_94 ?_
        refine v_al0 c_107_95 ?_
        refine v_cVi c_107_96 rfl (by decide) rfl rfl (q_all hq w1) ?_
        refine v_iaddN c_107_97 ?_
        refine v_is7 c_107_98 rfl ?_
        refine v_al0 c_107_99 ?_
        refine v_cVV c_107_100 rfl (by decide) rfl rfl (q_back) ?_
        rintro v ⟨b1, b2⟩
        refine v_il7 c_107_101 ?_
        refine v_ri c_107_102 ?_
        refine ⟨_, rfl, xm_r h (((GM.th.tr (GM.fr k2 (by omega))).tr (GM.q Fu)).tr (GM.q b2)) (h'.kM.cp h7 fun j hj => ?_) ?_ rfl⟩
        · rw [b1 j hj, Fu.at (by omega), k1 j hj]
        · rw [b2.q8, Fu.q8, k2.at (by omega), sI_s]
      refine v_ll1 c_107_15 ?_
      refine v_ls4 c_107_16 rfl ?_
      refine v_icN (n := 0) c_107_17 rfl ?_
      refine v_is6 c_107_18 rfl ?_
      refine v_icN (n := 0) c_107_19 rfl ?_
      refine v_is7 c_107_20 rfl ?_
      by_cases h0 : mN M = 0
      · obtain ⟨z1, z2⟩ := smK_0 (X := X) h0 m
        rw [z1, z2] at fin ⊢
        refine v_il7 c_107_21 ?_
        refine v_il3 c_107_22 ?_
        refine v_icmp_ge_F c_107_23 (by omega) (by omega) (by omega) ?_
        refine v_al0 c_107_24 ?_
        refine v_gR (n0 := 89) c_107_25 rfl ?_
        refine v_icN (n := 0) c_107_26 rfl ?_
        refine v_aI c_107_27 rfl (by omega) (hMt.1) ?_
        refine v_if_le_T c_107_28 (by omega) (by omega) ?_
        exact fin _ _ _ _ _ _ hMt FR.rf
      have hp : 0 < mN M := by omega
      refine vv_forS m (fun k ls u => (∃ y8 y9 y10, ls = [some (.ref 88), some (.long X), none, some (.int (nI m)), some (.long (smK M X k).2.1), none, some (.int (nI (smK M X k).2.2)), some (.int (nI k)), y8, y9, y10]) ∧ QM (u.1 89) (smK M X k).1 ∧ FR 89 90 t u) ?_ ?_ _ _ ⟨⟨none, none, none, rfl⟩, hMt, FR.rf⟩
      · rintro k ls u hk ⟨⟨y8, y9, y10, rfl⟩, g1, g2⟩ hkk
        obtain ⟨v1, v2, v3⟩ := smK_w (X := X) hM k
        obtain ⟨Mk, hMk⟩ : ∃ Mk, Mk = (smK M X k).1 := ⟨_, rfl⟩
        obtain ⟨r, hr⟩ : ∃ r, r = rX (smX (smK M X k).2.1) := ⟨_, rfl⟩
        have es : smK M X (k + 1) = (mtM Mk r, smX (smK M X k).2.1, (smK M X k).2.2 + (mtB Mk r).toNat) := by rw [hMk, hr]; rfl
        rw [es] at hkk
        rw [← hMk] at g1 v1 v2
        have hr31 : r < 2147483648 := by rw [hr]; exact rX_b _
        have n0 : ¬ mN Mk = 0 := by omega
        have np : 0 < mN Mk := by omega
        obtain ⟨i, hi⟩ : ∃ i, i = r / 16 % mN Mk := ⟨_, rfl⟩
        obtain ⟨j, hj⟩ : ∃ j, j = r / 256 % mN Mk := ⟨_, rfl⟩
        have hi1 : i < mN Mk := by rw [hi]; exact Nat.mod_lt _ np
        have hj1 : j < mN Mk := by rw [hj]; exact Nat.mod_lt _ np
        have hr16 : r / 16 < 2147483648 := by omega
        have hr256 : r / 256 < 2147483648 := by omega
        have hab : mAg Mk i j < 2147483648 := by unfold mAg; (repeat' split) <;> omega
        have n7 : mN Mk ≤ 7 := v1.1
        refine v_il7 c_107_21 ?_
        refine v_il3 c_107_22 ?_
        refine v_icmp_ge_F c_107_23 (by omega) (by omega) (by omega) ?_
        refine v_al0 c_107_24 ?_
        refine v_gR (n0 := 89) c_107_25 rfl ?_
        refine v_icN (n := 0) c_107_26 rfl ?_
        refine v_aI c_107_27 rfl (by omega) (g1.1) ?_
        refine v_if_le_F c_107_28 (by omega) (by omega) ?_
        refine v_ll4 c_107_29 ?_
        refine v_l2 c_107_30 ?_
        refine v_lmul c_107_31 ?_
        refine v_l2 c_107_32 ?_
        refine v_ladd c_107_33 ?_
        refine v_ls4 c_107_34 rfl ?_
        refine v_ll4 c_107_35 ?_
        refine v_bpN (n := 33) c_107_36 rfl ?_
        refine v_lushr c_107_37 ?_
        refine v_l2i c_107_38 ?_
        rw [rX_e, show rX ((smK M X k).2.1 * 6364136223846793005 + 1442695040888963407) = r from hr.symm]
        refine v_is8 c_107_39 rfl ?_
        refine v_il8 c_107_40 ?_
        refine v_bpN (n := 16) c_107_41 rfl ?_
        refine v_idivN c_107_42 (by omega) (by omega) (by omega) ?_
        refine v_al0 c_107_43 ?_
        refine v_gR (n0 := 89) c_107_44 rfl ?_
        refine v_icN (n := 0) c_107_45 rfl ?_
        refine v_aI c_107_46 rfl (by omega) (g1.1) ?_
        refine v_iremN c_107_47 (by omega) (by omega) (by omega) ?_
        rw [← hi]
        refine v_is9 c_107_48 rfl ?_
        refine v_il8 c_107_49 ?_
        refine v_spN (n := 256) c_107_50 rfl ?_
        refine v_idivN c_107_51 (by omega) (by omega) (by omega) ?_
        refine v_al0 c_107_52 ?_
        refine v_gR (n0 := 89) c_107_53 rfl ?_
        refine v_icN (n := 0) c_107_54 rfl ?_
        refine v_aI c_107_55 rfl (by omega) (g1.1) ?_
        refine v_iremN c_107_56 (by omega) (by omega) (by omega) ?_
        rw [← hj]
        have hwS := meS_w v1 (r := r) np
        have mid : ∀ (v : zv_S), QM (v.1 89) (meS Mk r) → FR 89 90 t v → VV sc 107 69 [some (.ref 88), some (.long X), none, some (.int (nI m)), some (.long (smX (smK M X k).2.1)), none, some (.int (nI ((smK M X k).2.2 + (mtB Mk r).toNat))), some (.int (nI k)), some (.int (nI r)), some (.int (nI i)), some (.int (nI j))] [] v (QI (XM s (M, L, S, tx, len) (.inr (nI (1000 * (smK M X m).2.2 + 100 * pc (mP (smK M X m).1) + mSum (smK M X m).1), (M, L, S, tx, len))))) := by
          intro v hq Fv
          by_cases h16 : r % 16 = 0
          · have e : mtM Mk r = mLv (meS Mk r) i := by unfold mtM; rw [if_neg n0, if_pos h16, hi]
            refine v_al0 c_107_69 ?_
            refine v_gR (n0 := 89) c_107_70 rfl ?_
            refine v_icN (n := 1) c_107_71 rfl ?_
            refine v_dup2 c_107_72 ?_
            refine v_aI c_107_73 rfl (by omega) (hq.2.1) ?_
            refine v_il8 c_107_74 ?_
            refine v_bpN (n := 16) c_107_75 rfl ?_
            refine v_iremN c_107_76 (by omega) (by omega) (by omega) ?_
            refine v_if_ne_F c_107_77 (h16) (by omega) ?_
            refine v_icN (n := 1) c_107_78 rfl ?_
            refine v_il9 c_107_79 ?_
            refine v_ishlN c_107_80 (by omega) ?_
            refine v_goto c_107_81 ?_
            refine v_iorN c_107_83 ?_
            rw [Nat.one_mul]
            refine v_sI c_107_84 rfl (by omega) ?_
            refine v_incN7 c_107_85 rfl rfl ?_
            refine v_goto c_107_86 ?_
            exact hkk _ _ ⟨⟨_, _, _, rfl⟩, by rw [e]; exact QM.lv hq hwS, Fv.tr (FR.sI (by omega) (by omega))⟩
          · have e : mtM Mk r = meS Mk r := by unfold mtM; rw [if_neg n0, if_neg h16]
            refine v_al0 c_107_69 ?_
            refine v_gR (n0 := 89) c_107_70 rfl ?_
            refine v_icN (n := 1) c_107_71 rfl ?_
            refine v_dup2 c_107_72 ?_
            refine v_aI c_107_73 rfl (by omega) (hq.2.1) ?_
            refine v_il8 c_107_74 ?_
            refine v_bpN (n := 16) c_107_75 rfl ?_
            refine v_iremN c_107_76 (by omega) (by omega) (by omega) ?_
            refine v_if_ne_T c_107_77 (h16) (by omega) ?_
            refine v_icN (n := 0) c_107_82 rfl ?_
            refine v_iorN c_107_83 ?_
            rw [Nat.or_zero]
            refine v_sI c_107_84 rfl (by omega) ?_
            refine v_incN7 c_107_85 rfl rfl ?_
            refine v_goto c_107_86 ?_
            refine hkk _ _ ⟨⟨_, _, _, rfl⟩, ?_, Fv.tr (FR.sI (by omega) (by omega))⟩
            rw [e]
            refine hq.cp hwS.1 fun a ha => ?_
            by_cases c : a = 1
            · rw [c, sI_s]; exact hq.2.1.symm
            · rw [sI_k c]
        by_cases ha : mAg Mk i j = 0
        · have hb : mtB Mk r = true := by unfold mtB; rw [decide_eq_true np, ← hi, ← hj, decide_eq_true ha]; rfl
          have e : meS Mk r = mSw Mk i j := by unfold meS; rw [hb, if_pos rfl, ← hi, ← hj]
          rw [hb] at mid
          refine v_is10 c_107_57 rfl ?_
          refine v_al0 c_107_58 ?_
          refine v_il9 c_107_59 ?_
          refine v_il10 c_107_60 ?_
          refine v_cVi c_107_61 rfl (by decide) rfl rfl (q_ag g1 v1 hi1 hj1) ?_
          refine v_if_ne_F c_107_62 (ha) (by omega) ?_
          refine v_al0 c_107_63 ?_
          refine v_il9 c_107_64 ?_
          refine v_il10 c_107_65 ?_
          refine v_cVI c_107_66 rfl (by decide) rfl rfl (q_xch g1 v1 hi1 hj1) ?_
          rintro y v ⟨-, hQv, Fv⟩
          refine v_pop c_107_67 ?_
          refine v_incN6 c_107_68 rfl rfl ?_
          exact mid v (by rw [e]; exact hQv) (g2.tr Fv)
        · have hb : mtB Mk r = false := by unfold mtB; rw [← hi, ← hj, decide_eq_false ha, Bool.and_false]
          have e : meS Mk r = Mk := by unfold meS; rw [hb, if_neg (by decide)]
          rw [hb] at mid
          refine v_is10 c_107_57 rfl ?_
          refine v_al0 c_107_58 ?_
          refine v_il9 c_107_59 ?_
          refine v_il10 c_107_60 ?_
          refine v_cVi c_107_61 rfl (by decide) rfl rfl (q_ag g1 v1 hi1 hj1) ?_
          refine v_if_ne_T c_107_62 (ha) (by omega) ?_
          exact mid u (by rw [e]; exact g1) g2
      · rintro ls u ⟨⟨y8, y9, y10, rfl⟩, g1, g2⟩
        refine v_il7 c_107_21 ?_
        refine v_il3 c_107_22 ?_
        refine v_icmp_ge_T c_107_23 (by omega) (by omega) (by omega) ?_
        exact fin _ _ _ _ _ _ g1 g2
  · refine ⟨.inl 1, fun s h => ?_, fun s h => ?_, ⟨by omega, by omega⟩⟩
    · refine cc_of ml_27 rfl rfl ?_
      refine v_il3 c_27_0 ?_
      refine v_icN (n := 1) c_27_1 rfl ?_
      refine v_icmp_lt_F c_27_2 (by omega) (by omega) (by omega) ?_
      refine v_il3 c_27_3 ?_
      refine v_bpN (n := 99) c_27_4 rfl ?_
      refine v_icmp_le_F c_27_5 (by omega) (by omega) (by omega) ?_
      refine vv_x c_27_6 ?_
      exact xc_e h rfl
    · refine cc_of ml_107 rfl rfl ?_
      refine v_al0 c_107_0 ?_
      refine v_icN (n := 0) c_107_1 rfl ?_
      refine v_pI c_107_2 rfl ?_
      refine v_il3 c_107_3 ?_
      refine v_i2l c_107_4 ?_
      refine v_lc c_107_5 ?_
      refine v_l2 c_107_6 ?_
      refine v_cSi c_107_7 rfl rfl rfl (q_inC (nI m) (nI 1) (nI 99) (by decide) (by decide)) ?_
      refine v_if_ne_fb c_107_8 (by rw [show decide (nI m ≤ nI 99) = false from decide_eq_false (fun z => absurd ((nI_leI (by omega) (by omega)).mp z) (by omega)), Bool.and_false]) ?_
      refine v_al0 c_107_9 ?_
      refine v_icN (n := 1) c_107_10 rfl ?_
      refine v_cVi c_107_11 rfl (by decide) rfl rfl (q_fl) ?_
      refine v_ri c_107_12 ?_
      exact ⟨_, rfl, xm_e h⟩
end SIM
