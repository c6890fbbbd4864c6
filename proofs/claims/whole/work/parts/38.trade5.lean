/-! THE TRADING: the model's -/
def TQ (s : zv_S) (n : Nat) (T : zT) : Prop := s.1 88 16 = nI (tRi T) ∧ s.1 88 17 = nI (tRo T) ∧ (∀ i, i < n → s.1 95 i = tGe T i ∧ s.1 96 i = tRf T i ∧ s.1 97 i = tGf T i ∧ s.1 98 i = tFi T i) ∧ ∀ k, k < tRi T → s.1 100 k = tTo T k ∧ s.1 101 k = tRr T k
theorem QM.fw {s t : zv_S} {M : zM} (h : QM (s.1 89) M) (hf : FW s t) : QM (t.1 89) M := by
  rw [hf.at (by omega) (by omega) (by omega)]
  exact h
/-- the frame of the trading: nothing from 102 on, nor 90 -/
def FT (s t : zv_S) : Prop := FW s t ∧ (∀ a, 102 ≤ a → t.1 a = s.1 a) ∧ t.1 90 = s.1 90
theorem FT.rf {s : zv_S} : FT s s := ⟨FW.rf, fun _ _ => rfl, rfl⟩
theorem FT.tr {s t u : zv_S} (h1 : FT s t) (h2 : FT t u) : FT s u := ⟨h1.1.tr h2.1, fun a ha => (h2.2.1 a ha).trans (h1.2.1 a ha), h2.2.2.trans h1.2.2⟩
theorem FT.at {s t : zv_S} (h : FT s t) {a : Nat} (x : a ≠ 88) (y : a ≠ 90) (z : a < 95 ∨ 108 < a) : t.1 a = s.1 a := h.1.at x y z
theorem FT.wr {s : zv_S} {o k : Nat} {v : Int32} (h : 95 ≤ o ∧ o ≤ 101) : FT s (sI s o k v) := ⟨FW.wr (by omega), fun a ha => sI_o (by omega), sI_o (by omega)⟩
theorem FT.fl {s : zv_S} {k : Nat} {v : Int32} (h : k ≠ 3 ∧ k ≠ 7 ∧ k ≠ 8) : FT s (sI s 88 k v) := ⟨FW.fl h, fun a ha => sI_o (by omega), sI_o (by omega)⟩
theorem FT.of {s t : zv_S} {lo hi : Nat} (h : FR lo hi s t) (h1 : 95 ≤ lo ∧ hi ≤ 102) : FT s t := ⟨FW.of h (by omega), fun a ha => h.at (by omega), h.at (by omega)⟩
theorem QM.ft {s t : zv_S} {M : zM} (h : QM (s.1 89) M) (hf : FT s t) : QM (t.1 89) M := h.fw hf.1
theorem mP_or (M : zM) : orS (fun i => if (mL M).testBit i then 0 else 1 * 2 ^ i) (mN M) = mP M := by
  apply Nat.eq_of_testBit_eq
  intro x
  rw [mP_tb]
  cases e : decide (x < mN M) && !(mL M).testBit x
  · cases e2 : (orS (fun i => if (mL M).testBit i then 0 else 1 * 2 ^ i) (mN M)).testBit x
    · rfl
    · obtain ⟨i, h1, h2⟩ := (orS_tb (mN M)).mp e2
      cases h3 : (mL M).testBit i
      · rw [h3, if_neg (by decide), Nat.one_mul, Nat.testBit_two_pow] at h2
        have h4 : i = x := by simpa using h2
        subst h4
        rw [h3, decide_eq_true h1] at e
        cases e
      · rw [h3, if_pos rfl] at h2
        simp at h2
  · rw [Bool.and_eq_true, decide_eq_true_eq, Bool.not_eq_true'] at e
    refine (orS_tb (mN M)).mpr ⟨x, e.1, ?_⟩
    rw [e.2, if_neg (by decide), Nat.one_mul, Nat.testBit_two_pow_self]
section TQS
variable {sc : Nat × (Nat → Int32)} {s : zv_S} {M : zM} {T : zT}
theorem q_pts (hM : QM (s.1 89) M) (hw : MW M) {O i : Nat} (hO : O < 128) (hi : i < mN M) (hio : O.testBit i = true) : RI sc 53 [.ref 88, .int (nI i), .int (nI O)] s (nI (chs (mN M) (mR M) (mH M) O i)) s := by
  refine cc_of ml_53 rfl rfl ?_
  have h7 := hw.1
  refine v_il1 c_53_0 ?_
  refine v_is3 c_53_1 rfl ?_
  refine v_al0 c_53_2 ?_
  refine v_gR (n0 := 89) c_53_3 rfl ?_
  refine v_icN (n := 0) c_53_4 rfl ?_
  refine v_aI c_53_5 rfl (by omega) (hM.1) ?_
  refine v_icN (n := 1) c_53_6 rfl ?_
  refine v_isub c_53_7 ?_
  refine v_is4 c_53_8 rfl ?_
  refine vv_forS (mN M) (fun k ls t => (∃ b y1 y2, b < mN M ∧ isCh (mN M) (mR M) (mH M) O i (mN M - k) b ∧ ls = [some (.ref 88), some (.int (nI i)), some (.int (nI O)), some (.int (nI b)), some (.int (nI (mN M - k) - nI 1)), y1, y2]) ∧ t = s) ?_ ?_ _ _ ⟨⟨i, none, none, hi, isCh_0, rfl⟩, rfl⟩
  · rintro k ls t hk ⟨⟨b, y1, y2, hb, hch, rfl⟩, rfl⟩ hkk
    have ej : nI (mN M - k) - nI 1 = nI (mN M - k - 1) := pk_sub (by omega)
    rw [ej]
    obtain ⟨j, hj⟩ : ∃ j, j = mN M - k - 1 := ⟨_, rfl⟩
    rw [← hj]
    have hjn : j < mN M := by omega
    rw [show mN M - k = j + 1 by omega] at hch
    have hnew := isCh_dn hjn hch
    have bj := hw.2.2.2.1 j hjn
    have bb := hw.2.2.2.1 b hb
    have r1 := hw.2.2.1 i _ hi bj
    have r2 := hw.2.2.1 i _ hi bb
    have fin : ∀ c y1 y2, c = (if (O.testBit j && decide (mR M i (mH M j) < mR M i (mH M b))) || (O.testBit j && (!decide (b = i) && decide (mR M i (mH M j) = mR M i (mH M b)))) then j else b) → VV sc 53 9 [some (.ref 88), some (.int (nI i)), some (.int (nI O)), some (.int (nI c)), some (.int (nI j + (-1))), y1, y2] [] t (QI fun y u => y = nI (chs (mN M) (mR M) (mH M) O i) ∧ u = t) := by
      intro c y1 y2 hc
      have hcn : c < mN M := by rw [hc]; split <;> assumption
      rw [← hc] at hnew
      have := hkk [some (.ref 88), some (.int (nI i)), some (.int (nI O)), some (.int (nI c)), some (.int (nI (mN M - (k + 1)) - nI 1)), y1, y2] t ⟨⟨c, y1, y2, hcn, by rw [show mN M - (k + 1) = j by omega]; exact hnew, rfl⟩, rfl⟩
      rw [show mN M - (k + 1) = j by omega, show nI j - nI 1 = nI j + (-1) by rw [Int32.sub_eq_add_neg]; rfl] at this
      exact this
    cases h1 : O.testBit j
    · refine v_il4 c_53_9 ?_
      refine v_if_lt_F c_53_10 (by omega) ?_
      refine v_il2 c_53_11 ?_
      refine v_il4 c_53_12 ?_
      refine v_cSi c_53_13 rfl rfl rfl (q_has (by omega) (by omega)) ?_
      refine v_if_eq_tb c_53_14 (h1) ?_
      refine v_icN (n := 0) c_53_30 rfl ?_
      refine v_is5 c_53_31 rfl ?_
      refine v_il2 c_53_32 ?_
      refine v_il4 c_53_33 ?_
      refine v_cSi c_53_34 rfl rfl rfl (q_has (by omega) (by omega)) ?_
      refine v_if_eq_tb c_53_35 (h1) ?_
      refine v_icN (n := 0) c_53_54 rfl ?_
      refine v_is6 c_53_55 rfl ?_
      refine v_il5 c_53_56 ?_
      refine v_if_ne_F c_53_57 (by omega) (by omega) ?_
      refine v_il6 c_53_58 ?_
      refine v_if_eq_T c_53_59 (by omega) (by omega) ?_
      refine v_il3 c_53_62 ?_
      refine v_is3 c_53_63 rfl ?_
      refine v_inc4 c_53_64 rfl ?_
      refine v_goto c_53_65 ?_
      exact fin b _ _ (by rw [h1]; rfl)
    · by_cases h2 : mR M i (mH M j) < mR M i (mH M b)
      · refine v_il4 c_53_9 ?_
        refine v_if_lt_F c_53_10 (by omega) ?_
        refine v_il2 c_53_11 ?_
        refine v_il4 c_53_12 ?_
        refine v_cSi c_53_13 rfl rfl rfl (q_has (by omega) (by omega)) ?_
        refine v_if_eq_fb c_53_14 (h1) ?_
        refine v_al0 c_53_15 ?_
        refine v_il1 c_53_16 ?_
        refine v_al0 c_53_17 ?_
        refine v_il4 c_53_18 ?_
        refine v_cVi c_53_19 rfl (by decide) rfl rfl (q_hd hM h7 hjn) ?_
        refine v_cVi c_53_20 rfl (by decide) rfl rfl (q_rk hM hw hi bj) ?_
        refine v_al0 c_53_21 ?_
        refine v_il1 c_53_22 ?_
        refine v_al0 c_53_23 ?_
        refine v_il3 c_53_24 ?_
        refine v_cVi c_53_25 rfl (by decide) rfl rfl (q_hd hM h7 hb) ?_
        refine v_cVi c_53_26 rfl (by decide) rfl rfl (q_rk hM hw hi bb) ?_
        refine v_icmp_ge_F c_53_27 (by omega) (by omega) (by omega) ?_
        refine v_icN (n := 1) c_53_28 rfl ?_
        refine v_goto c_53_29 ?_
        refine v_is5 c_53_31 rfl ?_
        refine v_il2 c_53_32 ?_
        refine v_il4 c_53_33 ?_
        refine v_cSi c_53_34 rfl rfl rfl (q_has (by omega) (by omega)) ?_
        refine v_if_eq_fb c_53_35 (h1) ?_
        by_cases h3 : b = i
        · refine v_il3 c_53_36 ?_
          refine v_il1 c_53_37 ?_
          refine v_icmp_eq_T c_53_38 (h3) (by omega) (by omega) ?_
          refine v_icN (n := 0) c_53_54 rfl ?_
          refine v_is6 c_53_55 rfl ?_
          refine v_il5 c_53_56 ?_
          refine v_if_ne_T c_53_57 (by omega) (by omega) ?_
          refine v_il4 c_53_60 ?_
          refine v_goto c_53_61 ?_
          refine v_is3 c_53_63 rfl ?_
          refine v_inc4 c_53_64 rfl ?_
          refine v_goto c_53_65 ?_
          exact fin j _ _ (by rw [h1, decide_eq_true h2]; rfl)
        · refine v_il3 c_53_36 ?_
          refine v_il1 c_53_37 ?_
          refine v_icmp_eq_F c_53_38 (h3) (by omega) (by omega) ?_
          refine v_al0 c_53_39 ?_
          refine v_il1 c_53_40 ?_
          refine v_al0 c_53_41 ?_
          refine v_il4 c_53_42 ?_
          refine v_cVi c_53_43 rfl (by decide) rfl rfl (q_hd hM h7 hjn) ?_
          refine v_cVi c_53_44 rfl (by decide) rfl rfl (q_rk hM hw hi bj) ?_
          refine v_al0 c_53_45 ?_
          refine v_il1 c_53_46 ?_
          refine v_al0 c_53_47 ?_
          refine v_il3 c_53_48 ?_
          refine v_cVi c_53_49 rfl (by decide) rfl rfl (q_hd hM h7 hb) ?_
          refine v_cVi c_53_50 rfl (by decide) rfl rfl (q_rk hM hw hi bb) ?_
          refine v_icmp_ne_T c_53_51 ((by omega)) (by omega) (by omega) ?_
          refine v_icN (n := 0) c_53_54 rfl ?_
          refine v_is6 c_53_55 rfl ?_
          refine v_il5 c_53_56 ?_
          refine v_if_ne_T c_53_57 (by omega) (by omega) ?_
          refine v_il4 c_53_60 ?_
          refine v_goto c_53_61 ?_
          refine v_is3 c_53_63 rfl ?_
          refine v_inc4 c_53_64 rfl ?_
          refine v_goto c_53_65 ?_
          exact fin j _ _ (by rw [h1, decide_eq_true h2]; rfl)
      · refine v_il4 c_53_9 ?_
        refine v_if_lt_F c_53_10 (by omega) ?_
        refine v_il2 c_53_11 ?_
        refine v_il4 c_53_12 ?_
        refine v_cSi c_53_13 rfl rfl rfl (q_has (by omega) (by omega)) ?_
        refine v_if_eq_fb c_53_14 (h1) ?_
        refine v_al0 c_53_15 ?_
        refine v_il1 c_53_16 ?_
        refine v_al0 c_53_17 ?_
        refine v_il4 c_53_18 ?_
        refine v_cVi c_53_19 rfl (by decide) rfl rfl (q_hd hM h7 hjn) ?_
        refine v_cVi c_53_20 rfl (by decide) rfl rfl (q_rk hM hw hi bj) ?_
        refine v_al0 c_53_21 ?_
        refine v_il1 c_53_22 ?_
        refine v_al0 c_53_23 ?_
        refine v_il3 c_53_24 ?_
        refine v_cVi c_53_25 rfl (by decide) rfl rfl (q_hd hM h7 hb) ?_
        refine v_cVi c_53_26 rfl (by decide) rfl rfl (q_rk hM hw hi bb) ?_
        refine v_icmp_ge_T c_53_27 (by omega) (by omega) (by omega) ?_
        refine v_icN (n := 0) c_53_30 rfl ?_
        refine v_is5 c_53_31 rfl ?_
        refine v_il2 c_53_32 ?_
        refine v_il4 c_53_33 ?_
        refine v_cSi c_53_34 rfl rfl rfl (q_has (by omega) (by omega)) ?_
        refine v_if_eq_fb c_53_35 (h1) ?_
        by_cases h3 : b = i
        · refine v_il3 c_53_36 ?_
          refine v_il1 c_53_37 ?_
          refine v_icmp_eq_T c_53_38 (h3) (by omega) (by omega) ?_
          refine v_icN (n := 0) c_53_54 rfl ?_
          refine v_is6 c_53_55 rfl ?_
          refine v_il5 c_53_56 ?_
          refine v_if_ne_F c_53_57 (by omega) (by omega) ?_
          refine v_il6 c_53_58 ?_
          refine v_if_eq_T c_53_59 (by omega) (by omega) ?_
          refine v_il3 c_53_62 ?_
          refine v_is3 c_53_63 rfl ?_
          refine v_inc4 c_53_64 rfl ?_
          refine v_goto c_53_65 ?_
          exact fin b _ _ (by rw [h1, decide_eq_false h2, decide_eq_true h3]; rfl)
        · by_cases h4 : mR M i (mH M j) = mR M i (mH M b)
          · refine v_il3 c_53_36 ?_
            refine v_il1 c_53_37 ?_
            refine v_icmp_eq_F c_53_38 (h3) (by omega) (by omega) ?_
            refine v_al0 c_53_39 ?_
            refine v_il1 c_53_40 ?_
            refine v_al0 c_53_41 ?_
            refine v_il4 c_53_42 ?_
            refine v_cVi c_53_43 rfl (by decide) rfl rfl (q_hd hM h7 hjn) ?_
            refine v_cVi c_53_44 rfl (by decide) rfl rfl (q_rk hM hw hi bj) ?_
            refine v_al0 c_53_45 ?_
            refine v_il1 c_53_46 ?_
            refine v_al0 c_53_47 ?_
            refine v_il3 c_53_48 ?_
            refine v_cVi c_53_49 rfl (by decide) rfl rfl (q_hd hM h7 hb) ?_
            refine v_cVi c_53_50 rfl (by decide) rfl rfl (q_rk hM hw hi bb) ?_
            refine v_icmp_ne_F c_53_51 (h4) (by omega) (by omega) ?_
            refine v_icN (n := 1) c_53_52 rfl ?_
            refine v_goto c_53_53 ?_
            refine v_is6 c_53_55 rfl ?_
            refine v_il5 c_53_56 ?_
            refine v_if_ne_F c_53_57 (by omega) (by omega) ?_
            refine v_il6 c_53_58 ?_
            refine v_if_eq_F c_53_59 (by omega) (by omega) ?_
            refine v_il4 c_53_60 ?_
            refine v_goto c_53_61 ?_
            refine v_is3 c_53_63 rfl ?_
            refine v_inc4 c_53_64 rfl ?_
            refine v_goto c_53_65 ?_
            exact fin j _ _ (by rw [h1, decide_eq_false h2, decide_eq_false h3, decide_eq_true h4]; rfl)
          · refine v_il3 c_53_36 ?_
            refine v_il1 c_53_37 ?_
            refine v_icmp_eq_F c_53_38 (h3) (by omega) (by omega) ?_
            refine v_al0 c_53_39 ?_
            refine v_il1 c_53_40 ?_
            refine v_al0 c_53_41 ?_
            refine v_il4 c_53_42 ?_
            refine v_cVi c_53_43 rfl (by decide) rfl rfl (q_hd hM h7 hjn) ?_
            refine v_cVi c_53_44 rfl (by decide) rfl rfl (q_rk hM hw hi bj) ?_
            refine v_al0 c_53_45 ?_
            refine v_il1 c_53_46 ?_
            refine v_al0 c_53_47 ?_
            refine v_il3 c_53_48 ?_
            refine v_cVi c_53_49 rfl (by decide) rfl rfl (q_hd hM h7 hb) ?_
            refine v_cVi c_53_50 rfl (by decide) rfl rfl (q_rk hM hw hi bb) ?_
            refine v_icmp_ne_T c_53_51 (h4) (by omega) (by omega) ?_
            refine v_icN (n := 0) c_53_54 rfl ?_
            refine v_is6 c_53_55 rfl ?_
            refine v_il5 c_53_56 ?_
            refine v_if_ne_F c_53_57 (by omega) (by omega) ?_
            refine v_il6 c_53_58 ?_
            refine v_if_eq_T c_53_59 (by omega) (by omega) ?_
            refine v_il3 c_53_62 ?_
            refine v_is3 c_53_63 rfl ?_
            refine v_inc4 c_53_64 rfl ?_
            refine v_goto c_53_65 ?_
            exact fin b _ _ (by rw [h1, decide_eq_false h2, decide_eq_false h3, decide_eq_false h4]; rfl)
  · rintro ls t ⟨⟨b, y1, y2, hb, hch, rfl⟩, rfl⟩
    rw [Nat.sub_self] at hch ⊢
    have e := isCh_u hch (chF_is (rk := mR M) (hd := mH M) (O := O) (i := i) (mN M))
    refine v_il4 c_53_9 ?_
    refine v_if_lt_t c_53_10 ((by decide)) ?_
    refine v_il3 c_53_66 ?_
    exact v_ri c_53_67 ⟨_, rfl, by rw [e]; rfl, rfl⟩
theorem q_rgw {O : Nat} {p : Nat → Nat} (hO : O < 128) (hP : ∀ x, O.testBit x = true → s.1 99 x = nI (p x)) (hp : ∀ x, O.testBit x = true → O.testBit (p x) = true) {i : Nat} (hi : O.testBit i = true) : RI sc 54 [.ref 88, .int (nI i)] s (nI (rgF p i)) s := by
  refine cc_of ml_54 rfl rfl ?_
  have i7 := tb_7 hO hi
  -- at the end of the walk
  have fin : ∀ k, 0 < k → k ≤ 7 → (∀ a b, a < b → b < k → itr p a i ≠ itr p b i) → (mtS p i k).testBit (itr p k i) = true →
      VV sc 54 26 [some (.ref 88), some (.int (nI i)), some (.int (nI (mtS p i k))), some (.int (nI (itr p k i))), some (.int (nI k))] [] s (QI fun y u => y = nI (rgF p i) ∧ u = s) := by
    intro k hk0 hk7 hdis hin
    have h9 := tb_7 hO (itr_cl (P := fun x => O.testBit x = true) hp hi k)
    have hne : ∀ a, a + 1 < k → itr p (a + 1) i ≠ i := fun a ha e => hdis 0 (a + 1) (by omega) ha e.symm
    by_cases e : itr p k i = i
    · have hK : rgK p i = k - 1 := rgK_at (fun a ha => hne a (by omega)) (by rw [show k - 1 + 1 = k by omega]; exact e) (by omega)
      refine v_il3 c_54_26 ?_
      refine v_il1 c_54_27 ?_
      refine v_icmp_ne_F c_54_28 (e) (by omega) (by omega) ?_
      refine v_il2 c_54_29 ?_
      refine v_goto c_54_30 ?_
      exact v_ri c_54_32 ⟨_, rfl, by unfold rgF; rw [hK, if_pos (by omega), show k - 1 + 1 = k by omega], rfl⟩
    · obtain ⟨a, ha, hak⟩ := mtS_tb.mp hin
      have ha0 : a ≠ 0 := fun z => e (by rw [← hak, z]; rfl)
      have hcl : ∀ m, ∃ b, a ≤ b ∧ b < k ∧ itr p m (itr p a i) = itr p b i := by
        intro m
        refine itr_cl (p := p) (P := fun x => ∃ b, a ≤ b ∧ b < k ∧ x = itr p b i) ?_ ⟨a, Nat.le_refl _, ha, rfl⟩ m
        rintro x ⟨b, b1, b2, rfl⟩
        by_cases hb : b + 1 < k
        · exact ⟨b + 1, by omega, hb, rfl⟩
        · refine ⟨a, Nat.le_refl _, ha, ?_⟩
          have hbk : b + 1 = k := by omega
          show itr p (b + 1) i = _
          rw [hbk, hak]
      have hall : ∀ m, itr p (m + 1) i ≠ i := by
        intro m
        by_cases hm : m + 1 < k
        · exact hne m hm
        · obtain ⟨b, b1, b2, b3⟩ := hcl (m + 1 - a)
          rw [← itr_add, show a + (m + 1 - a) = m + 1 by omega] at b3
          rw [b3]
          have := hne (b - 1) (by omega)
          rw [show b - 1 + 1 = b by omega] at this
          exact this
      have hK : rgK p i = 7 := lf_all 7 fun a ha => by simpa using hall a
      refine v_il3 c_54_26 ?_
      refine v_il1 c_54_27 ?_
      refine v_icmp_ne_T c_54_28 (e) (by omega) (by omega) ?_
      refine v_icN (n := 0) c_54_31 rfl ?_
      exact v_ri c_54_32 ⟨_, rfl, by unfold rgF; rw [hK]; rfl, rfl⟩
  refine v_icN (n := 0) c_54_0 rfl ?_
  refine v_is2 c_54_1 rfl ?_
  refine v_il1 c_54_2 ?_
  refine v_is3 c_54_3 rfl ?_
  refine v_icN (n := 0) c_54_4 rfl ?_
  refine v_is4 c_54_5 rfl ?_
  refine vv_forS 7 (fun k ls t => ls = [some (.ref 88), some (.int (nI i)), some (.int (nI (mtS p i k))), some (.int (nI (itr p k i))), some (.int (nI k))] ∧ t = s ∧ ∀ a b, a < b → b < k → itr p a i ≠ itr p b i) ?_ ?_ _ _ ⟨rfl, rfl, fun a b ha hb => absurd hb (by omega)⟩
  · rintro k ls t hk ⟨rfl, rfl, g⟩ hkk
    have hin := itr_cl (P := fun x => O.testBit x = true) hp hi k
    have h7 := tb_7 hO hin
    obtain ⟨m1, m2⟩ := mtS_pc hO hp hi k g
    cases h1 : (mtS p i k).testBit (itr p k i)
    · have em : mtS p i k ||| 1 * 2 ^ itr p k i = mtS p i (k + 1) := by rw [Nat.one_mul]; rfl
      refine v_il4 c_54_6 ?_
      refine v_bpN (n := 7) c_54_7 rfl ?_
      refine v_icmp_ge_F c_54_8 (by omega) (by omega) (by omega) ?_
      refine v_il2 c_54_9 ?_
      refine v_il3 c_54_10 ?_
      refine v_cSi c_54_11 rfl rfl rfl (q_has (by omega) (by omega)) ?_
      refine v_if_ne_fb c_54_12 (h1) ?_
      refine v_il2 c_54_13 ?_
      refine v_icN (n := 1) c_54_14 rfl ?_
      refine v_il3 c_54_15 ?_
      refine v_ishlN c_54_16 (by omega) ?_
      refine v_iorN c_54_17 ?_
      refine v_is2 c_54_18 rfl ?_
      refine v_al0 c_54_19 ?_
      refine v_gR (n0 := 99) c_54_20 rfl ?_
      refine v_il3 c_54_21 ?_
      refine v_aI c_54_22 rfl (by omega) (hP _ hin) ?_
      refine v_is3 c_54_23 rfl ?_
      refine v_incN4 c_54_24 rfl rfl ?_
      refine v_goto c_54_25 ?_
      rw [em]
      refine hkk _ _ ⟨rfl, rfl, fun a b hab hb => ?_⟩
      rcases Nat.lt_or_eq_of_le (Nat.le_of_lt_succ hb) with h | h
      · exact g a b hab h
      · intro e
        have : (mtS p i k).testBit (itr p k i) = true := mtS_tb.mpr ⟨a, by omega, by rw [← h]; exact e⟩
        rw [h1] at this
        cases this
    · have hk0 : 0 < k := by
        rcases Nat.eq_zero_or_pos k with h | h
        · subst h
          have : (mtS p i 0).testBit (itr p 0 i) = false := Nat.zero_testBit _
          rw [this] at h1
          cases h1
        · exact h
      refine v_il4 c_54_6 ?_
      refine v_bpN (n := 7) c_54_7 rfl ?_
      refine v_icmp_ge_F c_54_8 (by omega) (by omega) (by omega) ?_
      refine v_il2 c_54_9 ?_
      refine v_il3 c_54_10 ?_
      refine v_cSi c_54_11 rfl rfl rfl (q_has (by omega) (by omega)) ?_
      refine v_if_ne_tb c_54_12 (h1) ?_
      exact fin k hk0 (by omega) g h1
  · rintro ls t ⟨rfl, rfl, g⟩
    obtain ⟨m1, m2⟩ := mtS_pc hO hp hi 7 g
    refine v_il4 c_54_6 ?_
    refine v_bpN (n := 7) c_54_7 rfl ?_
    refine v_icmp_ge_T c_54_8 (by omega) (by omega) (by omega) ?_
    exact fin 7 (by omega) (by omega) g (pc_all _ m1 m2 _ (tb_7 hO (itr_cl (P := fun x => O.testBit x = true) hp hi 7)))
theorem q_fin (hM : QM (s.1 89) M) (hw : MW M) {R : Nat} {p : Nat → Nat} (hT : TQ s (mN M) T) (hR : ∀ x, R.testBit x = true → x < mN M) (hP : ∀ x, R.testBit x = true → s.1 99 x = nI (p x)) (hp : ∀ x, R.testBit x = true → R.testBit (p x) = true) :
    CC sc 56 [.ref 88, .int (nI R)] s (QV fun t => (∀ j, j < mN M → t.1 95 j = (if R.testBit j = true then nI (mH M (p j)) else tGe T j) ∧ t.1 96 j = (if R.testBit j = true then nI (tRo T) else tRf T j) ∧ t.1 97 j = (if R.testBit j = true then nI (tRi T) else tGf T j)) ∧ FR 95 98 s t) := by
  refine cc_of ml_56 rfl rfl ?_
  have h7 := hw.1
  have hR128 := O_7 h7 hR
  obtain ⟨q0, q1, q2, q3⟩ := hT
  refine v_icN (n := 0) c_56_0 rfl ?_
  refine v_is2 c_56_1 rfl ?_
  refine vv_forS (mN M) (fun i ls t => ls = [some (.ref 88), some (.int (nI R)), some (.int (nI i))] ∧ (∀ j, j < mN M → t.1 95 j = (if j < i ∧ R.testBit j = true then nI (mH M (p j)) else tGe T j) ∧ t.1 96 j = (if j < i ∧ R.testBit j = true then nI (tRo T) else tRf T j) ∧ t.1 97 j = (if j < i ∧ R.testBit j = true then nI (tRi T) else tGf T j)) ∧ FR 95 98 s t) ?_ ?_ _ _ ⟨rfl, fun j hj => ?_, FR.rf⟩
  · rintro i ls t hi ⟨rfl, g1, g2⟩ hk
    have hM' : QM (t.1 89) M := by rw [g2.at (by omega)]; exact hM
    have t0 : t.1 88 16 = nI (tRi T) := by rw [g2.at (by omega)]; exact q0
    have t1 : t.1 88 17 = nI (tRo T) := by rw [g2.at (by omega)]; exact q1
    cases h1 : R.testBit i
    · refine v_il2 c_56_2 ?_
      refine v_al0 c_56_3 ?_
      refine v_gR (n0 := 89) c_56_4 rfl ?_
      refine v_icN (n := 0) c_56_5 rfl ?_
      refine v_aI c_56_6 rfl (by omega) (hM'.1) ?_
      refine v_icmp_ge_F c_56_7 (by omega) (by omega) (by omega) ?_
      refine v_il1 c_56_8 ?_
      refine v_il2 c_56_9 ?_
      refine v_cSi c_56_10 rfl rfl rfl (q_has (by omega) (by omega)) ?_
      refine v_if_eq_tb c_56_11 (h1) ?_
      refine v_incN2 c_56_34 rfl rfl ?_
      refine v_goto c_56_35 ?_
      refine hk _ _ ⟨rfl, fun j hj => ?_, g2⟩
      have e : (j < i + 1 ∧ R.testBit j = true) ↔ (j < i ∧ R.testBit j = true) := by
        constructor
        · rintro ⟨a, b⟩
          refine ⟨?_, b⟩
          rcases Nat.lt_or_eq_of_le (Nat.le_of_lt_succ a) with h | h
          · exact h
          · rw [h, h1] at b; cases b
        · rintro ⟨a, b⟩; exact ⟨by omega, b⟩
      simp only [e]
      exact g1 j hj
    · have hpi := hR _ (hp i h1)
      refine v_il2 c_56_2 ?_
      refine v_al0 c_56_3 ?_
      refine v_gR (n0 := 89) c_56_4 rfl ?_
      refine v_icN (n := 0) c_56_5 rfl ?_
      refine v_aI c_56_6 rfl (by omega) (hM'.1) ?_
      refine v_icmp_ge_F c_56_7 (by omega) (by omega) (by omega) ?_
      refine v_il1 c_56_8 ?_
      refine v_il2 c_56_9 ?_
      refine v_cSi c_56_10 rfl rfl rfl (q_has (by omega) (by omega)) ?_
      refine v_if_eq_fb c_56_11 (h1) ?_
      refine v_al0 c_56_12 ?_
      refine v_gR (n0 := 95) c_56_13 rfl ?_
      refine v_il2 c_56_14 ?_
      refine v_al0 c_56_15 ?_
      refine v_al0 c_56_16 ?_
      refine v_gR (n0 := 99) c_56_17 rfl ?_
      refine v_il2 c_56_18 ?_
      refine v_aI c_56_19 rfl (by omega) (show t.1 99 i = nI (p i) by rw [g2.at (by omega)]; exact hP i h1) ?_
      refine v_cVi c_56_20 rfl (by decide) rfl rfl (q_hd hM' h7 hpi) ?_
      refine v_sI c_56_21 rfl (by omega) ?_
      refine v_al0 c_56_22 ?_
      refine v_gR (n0 := 96) c_56_23 rfl ?_
      refine v_il2 c_56_24 ?_
      refine v_al0 c_56_25 ?_
      refine v_gI c_56_26 rfl (show (sI t 95 i _).1 88 17 = nI (tRo T) by rw [sI_o (by omega)]; exact t1) ?_
      refine v_sI c_56_27 rfl (by omega) ?_
      refine v_al0 c_56_28 ?_
      refine v_gR (n0 := 97) c_56_29 rfl ?_
      refine v_il2 c_56_30 ?_
      refine v_al0 c_56_31 ?_
      refine v_gI c_56_32 rfl (show (sI (sI t 95 i _) 96 i _).1 88 16 = nI (tRi T) by rw [sI_o (by omega), sI_o (by omega)]; exact t0) ?_
      refine v_sI c_56_33 rfl (by omega) ?_
      refine v_incN2 c_56_34 rfl rfl ?_
      refine v_goto c_56_35 ?_
      refine hk _ _ ⟨rfl, fun j hj => ?_, ((g2.tr (FR.sI (by omega) (by omega))).tr (FR.sI (by omega) (by omega))).tr (FR.sI (by omega) (by omega))⟩
      by_cases e : j = i
      · subst e
        have c : j < j + 1 ∧ R.testBit j = true := ⟨by omega, h1⟩
        rw [if_pos c, if_pos c, if_pos c]
        refine ⟨?_, ?_, ?_⟩
        · rw [sI_o (by omega), sI_o (by omega), sI_s]
        · rw [sI_o (by omega), sI_s]
        · rw [sI_s]
      · have e2 : (j < i + 1 ∧ R.testBit j = true) ↔ (j < i ∧ R.testBit j = true) := by
          constructor
          · rintro ⟨a, b⟩; exact ⟨by omega, b⟩
          · rintro ⟨a, b⟩; exact ⟨by omega, b⟩
        simp only [e2]
        refine ⟨?_, ?_, ?_⟩
        · rw [sI_o (by omega), sI_o (by omega), sI_k e]; exact (g1 j hj).1
        · rw [sI_o (by omega), sI_k e, sI_o (by omega)]; exact (g1 j hj).2.1
        · rw [sI_k e, sI_o (by omega), sI_o (by omega)]; exact (g1 j hj).2.2
  · rintro ls t ⟨rfl, g1, g2⟩
    have hM' : QM (t.1 89) M := by rw [g2.at (by omega)]; exact hM
    refine v_il2 c_56_2 ?_
    refine v_al0 c_56_3 ?_
    refine v_gR (n0 := 89) c_56_4 rfl ?_
    refine v_icN (n := 0) c_56_5 rfl ?_
    refine v_aI c_56_6 rfl (by omega) (hM'.1) ?_
    refine v_icmp_ge_T c_56_7 (by omega) (by omega) (by omega) ?_
    refine v_rv c_56_36 ?_
    refine ⟨rfl, fun j hj => ?_, g2⟩
    have e2 : (j < mN M ∧ R.testBit j = true) ↔ (R.testBit j = true) := ⟨fun h => h.2, fun h => ⟨hj, h⟩⟩
    have h9 := g1 j hj
    simp only [e2] at h9
    exact h9
  · have c : ¬ (j < 0 ∧ R.testBit j = true) := fun h => absurd h.1 (by omega)
    rw [if_neg c, if_neg c, if_neg c]
    exact ⟨(q2 j hj).1, (q2 j hj).2.1, (q2 j hj).2.2.1⟩
end TQS
