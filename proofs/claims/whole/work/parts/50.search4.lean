/-! THE SEARCH: the model's -/
def hx (n : Nat) (H : Nat → Nat) (i : Nat) : Nat := if i < n then H i else i
def cd (n : Nat) (H : Nat → Nat) : Nat → Nat
  | 0 => 0
  | i + 1 => 8 * cd n H i + hx n H i
def uS (n : Nat) (H : Nat → Nat) : Nat → Nat := orS (fun i => 2 ^ hx n H i)
def qm7 (n : Nat) (q : zQ) (x : Nat) : Bool := (List.range q.1).any fun j => decide (lhN 7 (hx n (q.2.1 j)) 7 = x)
def QB (s : zv_S) (n : Nat) (q : zQ) : Prop := (∀ j, j < q.1 → s.1 107 j = nI (cd n (q.2.1 j) 7)) ∧ ∀ x, x < 5040 → s.1 108 x = bI (qm7 n q x)
section HX
variable {n : Nat} {H H' : Nat → Nat}
theorem hx_7 (h7 : n ≤ 7) (hH : PM n H) : ∀ i, i < 7 → hx n H i < 7 := fun i hi => by
  unfold hx
  split
  · have := hH.1 i (by assumption); omega
  · exact hi
theorem hx_pm (h7 : n ≤ 7) (hH : PM n H) : PM 7 (hx n H) := by
  refine ⟨hx_7 h7 hH, fun i j hi hj e => ?_⟩
  unfold hx at e
  by_cases c1 : i < n
  · rw [if_pos c1] at e
    by_cases c2 : j < n
    · rw [if_pos c2] at e
      exact hH.2 i j c1 c2 e
    · rw [if_neg c2] at e
      have := hH.1 i c1
      omega
  · rw [if_neg c1] at e
    by_cases c2 : j < n
    · rw [if_pos c2] at e
      have := hH.1 j c2
      omega
    · rw [if_neg c2] at e
      exact e
theorem h7_iff (h7 : n ≤ 7) (hH : PM n H) (hH' : PM n H') : lhN 7 (hx n H) 7 = lhN 7 (hx n H') 7 ↔ lhN n H n = lhN n H' n := by
  constructor
  · intro h
    have h1 := lh_inj (hx_pm h7 hH) (hx_pm h7 hH') h
    refine lhN_cg n fun i hi => ?_
    have h2 := h1 i (by omega)
    unfold hx at h2
    rw [if_pos hi, if_pos hi] at h2
    exact h2
  · intro h
    have h1 := lh_inj hH hH' h
    refine lhN_cg 7 fun i hi => ?_
    unfold hx
    split
    · exact h1 i (by assumption)
    · rfl
theorem cd_lt (h7 : n ≤ 7) (hH : PM n H) : ∀ i, i ≤ 7 → cd n H i < 8 ^ i
  | 0, _ => Nat.one_pos
  | i + 1, hi => by
    have h1 := cd_lt h7 hH i (by omega)
    have h2 := hx_7 h7 hH i (by omega)
    show 8 * cd n H i + hx n H i < 8 ^ (i + 1)
    rw [Nat.pow_succ]
    omega
theorem cd_b (h7 : n ≤ 7) (hH : PM n H) {i : Nat} (hi : i ≤ 7) : cd n H i < 2097152 := by
  have h1 := cd_lt h7 hH i hi
  have h2 : 8 ^ i ≤ 8 ^ 7 := Nat.pow_le_pow_right (by omega) hi
  have h3 : 8 ^ 7 = 2097152 := by decide
  omega
theorem cd_s (h7 : n ≤ 7) (hH : PM n H) {i : Nat} (hi : i < 7) : cd n H (i + 1) / 8 = cd n H i ∧ cd n H (i + 1) % 8 = hx n H i := by
  have h2 := hx_7 h7 hH i hi
  have e : cd n H (i + 1) = 8 * cd n H i + hx n H i := rfl
  omega
theorem cd_up (h7 : n ≤ 7) (hH : PM n H) : ∀ j k, k + 1 + j ≤ 7 → cd n H (k + 1 + j) / 2 ^ (3 * j) = cd n H (k + 1)
  | 0, k, _ => by rw [Nat.mul_zero, Nat.pow_zero, Nat.div_one]
  | j + 1, k, h => by
    have h1 := (cd_s h7 hH (i := k + 1 + j) (by omega)).1
    rw [show 3 * (j + 1) = 3 + 3 * j by omega, Nat.pow_add, ← Nat.div_div_eq_div_mul]
    show cd n H (k + 1 + j + 1) / 8 / 2 ^ (3 * j) = _
    rw [h1]
    exact cd_up h7 hH j k (by omega)
theorem cd_dg (h7 : n ≤ 7) (hH : PM n H) {k : Nat} (hk : k < 7) : cd n H 7 / 2 ^ (3 * (6 - k)) &&& 7 = hx n H k := by
  have h1 := cd_up h7 hH (6 - k) k (by omega)
  rw [show k + 1 + (6 - k) = 7 by omega] at h1
  rw [h1, show (7 : Nat) = 2 ^ 3 - 1 from rfl, Nat.and_two_pow_sub_one_eq_mod]
  exact (cd_s h7 hH hk).2
theorem uS_tb {k x : Nat} : (uS n H k).testBit x = true ↔ ∃ i, i < k ∧ hx n H i = x := by
  unfold uS
  rw [orS_tb]
  constructor
  · rintro ⟨i, h1, h2⟩
    rw [Nat.testBit_two_pow] at h2
    exact ⟨i, h1, of_decide_eq_true h2⟩
  · rintro ⟨i, h1, h2⟩
    exact ⟨i, h1, by rw [Nat.testBit_two_pow]; exact decide_eq_true h2⟩
theorem uS_L {k j : Nat} (hj : j < 7) : (!(uS n H k).testBit j) = (lhL 7 (hx n H) k).testBit j := by
  rw [Bool.eq_iff_iff, Bool.not_eq_true', lhL_tb, Bool.eq_false_iff]
  constructor
  · intro h
    exact ⟨hj, fun i hi e => h (uS_tb.mpr ⟨i, hi, e⟩)⟩
  · rintro ⟨_, h⟩ h2
    obtain ⟨i, hi, e⟩ := uS_tb.mp h2
    exact h i hi e
theorem uS_lt (h7 : n ≤ 7) (hH : PM n H) {k : Nat} (hk : k ≤ 7) : uS n H k < 128 := O_7 (n := 7) (Nat.le_refl _) fun x hx' => by
  obtain ⟨i, hi, e⟩ := uS_tb.mp hx'
  have := hx_7 h7 hH i (by omega)
  omega
theorem qm7_iff {q : zQ} {x : Nat} : qm7 n q x = true ↔ ∃ j, j < q.1 ∧ lhN 7 (hx n (q.2.1 j)) 7 = x := by
  unfold qm7
  rw [List.any_eq_true]
  constructor
  · rintro ⟨j, h1, h2⟩
    exact ⟨j, List.mem_range.mp h1, of_decide_eq_true h2⟩
  · rintro ⟨j, h1, h2⟩
    exact ⟨j, List.mem_range.mpr h1, decide_eq_true h2⟩
theorem qm7_mt (h7 : n ≤ 7) {q : zQ} (hq : ∀ j, j < q.1 → PM n (q.2.1 j)) (hH : PM n H) : qm7 n q (lhN 7 (hx n H) 7) = qmt n q (lhN n H n) := by
  rw [Bool.eq_iff_iff, qm7_iff, qmt_iff]
  constructor
  · rintro ⟨j, j1, j2⟩
    exact ⟨j, j1, (h7_iff h7 (hq j j1) hH).mp j2⟩
  · rintro ⟨j, j1, j2⟩
    exact ⟨j, j1, (h7_iff h7 (hq j j1) hH).mpr j2⟩
end HX
theorem qex_D {M : zM} {H : Nat → Nat} {d : Nat} {q : zQ} : ∀ k j, q.1 ≤ j → j < (qex M H d q k).1 → (qex M H d q k).2.2 j = d
  | 0, j, h1, h2 => by
    have h2 : j < q.1 := h2
    omega
  | k + 1, j, h1, h2 => by
    cases c : prV M H k
    · rw [qex_f c] at h2 ⊢
      exact qex_D k j h1 h2
    · rw [qex_t c] at h2 ⊢
      unfold qad at h2 ⊢
      cases c2 : qmt (mN M) (qex M H d q k) (lhN (mN M) (sw H (k / mN M) (k % mN M)) (mN M))
      · rw [c2, if_neg (by decide)] at h2
        rw [if_neg (by decide)]
        have h2 : j < (qex M H d q k).1 + 1 := h2
        show fup (qex M H d q k).2.2 (qex M H d q k).1 d j = d
        by_cases e : j = (qex M H d q k).1
        · rw [e, fup_s]
        · rw [fup_o e]; exact qex_D k j h1 (by omega)
      · rw [c2, if_pos rfl] at h2
        rw [if_pos rfl]
        exact qex_D k j h1 h2
/-- the search's frame -/
def F2 (s t : zv_S) : Prop := (∀ a, a ≠ 89 → a < 107 ∨ 108 < a → t.1 a = s.1 a ∧ t.2.1 a = s.2.1 a) ∧ t.2.2 = s.2.2
theorem F2.rf {s : zv_S} : F2 s s := ⟨fun _ _ _ => ⟨rfl, rfl⟩, rfl⟩
theorem F2.tr {s t u : zv_S} (h1 : F2 s t) (h2 : F2 t u) : F2 s u := ⟨fun a x y => ⟨(h2.1 a x y).1.trans (h1.1 a x y).1, (h2.1 a x y).2.trans (h1.1 a x y).2⟩, h2.2.trans h1.2⟩
theorem F2.q {s t : zv_S} (h : FR 89 90 s t) : F2 s t := ⟨fun a x y => h.1 a (by omega), h.2⟩
theorem F2.w {s t : zv_S} (h : FR 107 109 s t) : F2 s t := ⟨fun a x y => h.1 a (by omega), h.2⟩
theorem QB.fr {s t : zv_S} {n lo hi : Nat} {q : zQ} (h : QB s n q) (hf : FR lo hi s t) (h1 : 109 ≤ lo ∨ hi ≤ 107) : QB t n q := by
  unfold QB
  rw [hf.at (a := 107) (by omega), hf.at (a := 108) (by omega)]
  exact h
section SQM
variable {sc : Nat × (Nat → Int32)} {s : zv_S} {M : zM}
theorem q_cod (hM : QM (s.1 89) M) (hw : MW M) : RI sc 99 [.ref 88] s (nI (cd (mN M) (mH M) 7)) s := by
  refine cc_of ml_99 rfl rfl ?_
  have h7 := hw.1
  refine v_icN (n := 0) c_99_0 rfl ?_
  refine v_is1 c_99_1 rfl ?_
  refine v_icN (n := 0) c_99_2 rfl ?_
  refine v_is2 c_99_3 rfl ?_
  refine vv_for 7 (fun i => [some (.ref 88), some (.int (nI (cd (mN M) (mH M) i))), some (.int (nI i))]) ?_ ?_
  · intro i hi hk
    have e : cd (mN M) (mH M) (i + 1) = 8 * cd (mN M) (mH M) i + hx (mN M) (mH M) i := rfl
    by_cases c : i < mN M
    · rw [show hx (mN M) (mH M) i = mH M i from if_pos c] at e
      rw [e] at hk
      refine v_il2 c_99_4 ?_
      refine v_bpN (n := 7) c_99_5 rfl ?_
      refine v_icmp_ge_F c_99_6 (by omega) (by omega) (by omega) ?_
      refine v_bpN (n := 8) c_99_7 rfl ?_
      refine v_il1 c_99_8 ?_
      refine v_imulN c_99_9 ?_
      refine v_il2 c_99_10 ?_
      refine v_al0 c_99_11 ?_
      refine v_gR (n0 := 89) c_99_12 rfl ?_
      refine v_icN (n := 0) c_99_13 rfl ?_
      refine v_aI c_99_14 rfl (by omega) (hM.1) ?_
      refine v_icmp_ge_F c_99_15 (by omega) (by omega) (by omega) ?_
      refine v_al0 c_99_16 ?_
      refine v_il2 c_99_17 ?_
      refine v_cVi c_99_18 rfl (by decide) rfl rfl (q_hd hM h7 c) ?_
      refine v_goto c_99_19 ?_
      refine v_iaddN c_99_21 ?_
      refine v_is1 c_99_22 rfl ?_
      refine v_incN2 c_99_23 rfl rfl ?_
      refine v_goto c_99_24 ?_
      exact hk
    · rw [show hx (mN M) (mH M) i = i from if_neg c] at e
      rw [e] at hk
      refine v_il2 c_99_4 ?_
      refine v_bpN (n := 7) c_99_5 rfl ?_
      refine v_icmp_ge_F c_99_6 (by omega) (by omega) (by omega) ?_
      refine v_bpN (n := 8) c_99_7 rfl ?_
      refine v_il1 c_99_8 ?_
      refine v_imulN c_99_9 ?_
      refine v_il2 c_99_10 ?_
      refine v_al0 c_99_11 ?_
      refine v_gR (n0 := 89) c_99_12 rfl ?_
      refine v_icN (n := 0) c_99_13 rfl ?_
      refine v_aI c_99_14 rfl (by omega) (hM.1) ?_
      refine v_icmp_ge_T c_99_15 (by omega) (by omega) (by omega) ?_
      refine v_il2 c_99_20 ?_
      refine v_iaddN c_99_21 ?_
      refine v_is1 c_99_22 rfl ?_
      refine v_incN2 c_99_23 rfl rfl ?_
      refine v_goto c_99_24 ?_
      exact hk
  · refine v_il2 c_99_4 ?_
    refine v_bpN (n := 7) c_99_5 rfl ?_
    refine v_icmp_ge_T c_99_6 (by omega) (by omega) (by omega) ?_
    refine v_il1 c_99_25 ?_
    exact v_ri c_99_26 ⟨_, rfl, rfl, rfl⟩
theorem q_unc (hM : QM (s.1 89) M) (h7 : mN M ≤ 7) {H : Nat → Nat} (hH : PM (mN M) H) : CC sc 100 [.ref 88, .int (nI (cd (mN M) H 7))] s (QV fun t => QM (t.1 89) (wH M H) ∧ FR 89 90 s t) := by
  refine cc_of ml_100 rfl rfl ?_
  refine v_il1 c_100_0 ?_
  refine v_is2 c_100_1 rfl ?_
  refine v_bpN (n := 6) c_100_2 rfl ?_
  refine v_is3 c_100_3 rfl ?_
  refine vv_forS 7 (fun a ls t => ls = [some (.ref 88), some (.int (nI (cd (mN M) H 7))), some (.int (nI (cd (mN M) H (7 - a)))), some (.int (nI (7 - a) - nI 1))] ∧ (∀ j, 7 - a ≤ j → j < mN M → t.1 89 (2 + j) = nI (H j)) ∧ (∀ j, j < 2 ∨ 9 ≤ j → t.1 89 j = s.1 89 j) ∧ FR 89 90 s t) ?_ ?_ _ _ ⟨rfl, fun j h1 h2 => by omega, fun _ _ => rfl, FR.rf⟩
  · rintro a ls t ha ⟨rfl, g1, g2, g3⟩ hk
    have ej : nI (7 - a) - nI 1 = nI (7 - a - 1) := pk_sub (by omega)
    rw [ej]
    obtain ⟨i, hi⟩ : ∃ i, i = 7 - a - 1 := ⟨_, rfl⟩
    rw [← hi]
    rw [show 7 - a = i + 1 by omega] at g1 ⊢
    have hi7 : i < 7 := by omega
    obtain ⟨c1, c2⟩ := cd_s h7 hH hi7
    have hb := cd_b h7 hH (i := i + 1) (by omega)
    have t0 : t.1 89 0 = nI (mN M) := by rw [g2 0 (by omega)]; exact hM.1
    have fin : ∀ v, (i < mN M → v = nI (H i)) → VV sc 100 4 [some (.ref 88), some (.int (nI (cd (mN M) H 7))), some (.int (nI (cd (mN M) H i))), some (.int (nI i + (-1)))] [] (sI t 89 (2 + i) v) (QV fun t => QM (t.1 89) (wH M H) ∧ FR 89 90 s t) := by
      intro v hv
      have := hk [some (.ref 88), some (.int (nI (cd (mN M) H 7))), some (.int (nI (cd (mN M) H (7 - (a + 1))))), some (.int (nI (7 - (a + 1)) - nI 1))] (sI t 89 (2 + i) v) ⟨rfl, fun j h1 h2 => ?_, fun j hj => by rw [sI_k (by omega)]; exact g2 j hj, g3.tr (FR.sI (by omega) (by omega))⟩
      · rw [show 7 - (a + 1) = i by omega, show nI i - nI 1 = nI i + (-1) by rw [Int32.sub_eq_add_neg]; rfl] at this
        exact this
      · by_cases e : j = i
        · rw [e, sI_s]; exact hv (by omega)
        · rw [sI_k (by omega)]; exact g1 j (by omega) h2
    by_cases c : i < mN M
    · refine v_il3 c_100_4 ?_
      refine v_if_lt_F c_100_5 (by omega) ?_
      refine v_al0 c_100_6 ?_
      refine v_gR (n0 := 89) c_100_7 rfl ?_
      refine v_icN (n := 2) c_100_8 rfl ?_
      refine v_il3 c_100_9 ?_
      refine v_iaddN c_100_10 ?_
      refine v_il3 c_100_11 ?_
      refine v_al0 c_100_12 ?_
      refine v_gR (n0 := 89) c_100_13 rfl ?_
      refine v_icN (n := 0) c_100_14 rfl ?_
      refine v_aI c_100_15 rfl (by omega) (t0) ?_
      refine v_icmp_ge_F c_100_16 (by omega) (by omega) (by omega) ?_
      refine v_il2 c_100_17 ?_
      refine v_bpN (n := 8) c_100_18 rfl ?_
      refine v_iremN c_100_19 (by omega) (by omega) (by omega) ?_
      rw [c2, show hx (mN M) H i = H i from if_pos c]
      refine v_goto c_100_20 ?_
      refine v_sI c_100_27 rfl (by omega) ?_
      refine v_il2 c_100_28 ?_
      refine v_bpN (n := 8) c_100_29 rfl ?_
      refine v_idivN c_100_30 (by omega) (by omega) (by omega) ?_
      rw [c1]
      refine v_is2 c_100_31 rfl ?_
      refine v_inc3 c_100_32 rfl ?_
      refine v_goto c_100_33 ?_
      exact fin _ (fun _ => rfl)
    · refine v_il3 c_100_4 ?_
      refine v_if_lt_F c_100_5 (by omega) ?_
      refine v_al0 c_100_6 ?_
      refine v_gR (n0 := 89) c_100_7 rfl ?_
      refine v_icN (n := 2) c_100_8 rfl ?_
      refine v_il3 c_100_9 ?_
      refine v_iaddN c_100_10 ?_
      refine v_il3 c_100_11 ?_
      refine v_al0 c_100_12 ?_
      refine v_gR (n0 := 89) c_100_13 rfl ?_
      refine v_icN (n := 0) c_100_14 rfl ?_
      refine v_aI c_100_15 rfl (by omega) (t0) ?_
      refine v_icmp_ge_T c_100_16 (by omega) (by omega) (by omega) ?_
      refine v_al0 c_100_21 ?_
      refine v_gR (n0 := 89) c_100_22 rfl ?_
      refine v_icN (n := 2) c_100_23 rfl ?_
      refine v_il3 c_100_24 ?_
      refine v_iaddN c_100_25 ?_
      refine v_aI c_100_26 rfl (by omega) rfl ?_
      refine v_sI c_100_27 rfl (by omega) ?_
      refine v_il2 c_100_28 ?_
      refine v_bpN (n := 8) c_100_29 rfl ?_
      refine v_idivN c_100_30 (by omega) (by omega) (by omega) ?_
      rw [c1]
      refine v_is2 c_100_31 rfl ?_
      refine v_inc3 c_100_32 rfl ?_
      refine v_goto c_100_33 ?_
      exact fin _ (fun h => absurd h c)
  · rintro ls t ⟨rfl, g1, g2, g3⟩
    rw [Nat.sub_self] at g1 ⊢
    refine v_il3 c_100_4 ?_
    refine v_if_lt_t c_100_5 ((by decide)) ?_
    refine v_rv c_100_34 ?_
    exact ⟨rfl, ⟨by rw [g2 0 (by omega)]; exact hM.1, by rw [g2 1 (by omega)]; exact hM.2.1, fun j hj => g1 j (Nat.zero_le _) hj, fun a b ha hb => by rw [g2 _ (by omega)]; exact hM.2.2.2 a b ha hb⟩, g3⟩
theorem q_num {n : Nat} (h7 : n ≤ 7) {H : Nat → Nat} (hH : PM n H) : RI sc 101 [.ref 88, .int (nI (cd n H 7))] s (nI (lhN 7 (hx n H) 7)) s := by
  refine cc_of ml_101 rfl rfl ?_
  have hcb := cd_b h7 hH (i := 7) (by omega)
  refine v_icN (n := 0) c_101_0 rfl ?_
  refine v_is2 c_101_1 rfl ?_
  refine v_icN (n := 0) c_101_2 rfl ?_
  refine v_is3 c_101_3 rfl ?_
  refine v_icN (n := 0) c_101_4 rfl ?_
  refine v_is4 c_101_5 rfl ?_
  refine vv_forS 7 (fun k ls t => (∃ y5 y6 y7, ls = [some (.ref 88), some (.int (nI (cd n H 7))), some (.int (nI (lhN 7 (hx n H) k))), some (.int (nI (uS n H k))), some (.int (nI k)), y5, y6, y7]) ∧ t = s) ?_ ?_ _ _ ⟨⟨none, none, none, rfl⟩, rfl⟩
  · rintro k ls t hk ⟨⟨y5, y6, y7, rfl⟩, rfl⟩ hkk
    have hd := cd_dg h7 hH hk
    have hx7 := hx_7 h7 hH k hk
    have hU := uS_lt h7 hH (k := k) (by omega)
    refine v_il4 c_101_6 ?_
    refine v_bpN (n := 7) c_101_7 rfl ?_
    refine v_icmp_ge_F c_101_8 (by omega) (by omega) (by omega) ?_
    refine v_il1 c_101_9 ?_
    refine v_icN (n := 3) c_101_10 rfl ?_
    refine v_bpN (n := 6) c_101_11 rfl ?_
    refine v_il4 c_101_12 ?_
    refine v_isubN c_101_13 (by omega) ?_
    refine v_imulN c_101_14 ?_
    refine v_ishrN c_101_15 (by omega) (by omega) ?_
    refine v_bpN (n := 7) c_101_16 rfl ?_
    refine v_iandN c_101_17 ?_
    rw [hd]
    refine v_is5 c_101_18 rfl ?_
    refine v_icN (n := 0) c_101_19 rfl ?_
    refine v_is6 c_101_20 rfl ?_
    refine v_icN (n := 0) c_101_21 rfl ?_
    refine v_is7 c_101_22 rfl ?_
    refine vv_forS (hx n H k) (fun j ls u => ls = [some (.ref 88), some (.int (nI (cd n H 7))), some (.int (nI (lhN 7 (hx n H) k))), some (.int (nI (uS n H k))), some (.int (nI k)), some (.int (nI (hx n H k))), some (.int (nI (cnt (fun j => !(uS n H k).testBit j) j))), some (.int (nI j))] ∧ u = t) ?_ ?_ _ _ ⟨rfl, rfl⟩
    · rintro j ls u hj ⟨rfl, rfl⟩ hk2
      cases h1 : (uS n H k).testBit j
      · refine v_il7 c_101_23 ?_
        refine v_il5 c_101_24 ?_
        refine v_icmp_ge_F c_101_25 (by omega) (by omega) (by omega) ?_
        refine v_il6 c_101_26 ?_
        refine v_il3 c_101_27 ?_
        refine v_il7 c_101_28 ?_
        refine v_cSi c_101_29 rfl rfl rfl (q_has (by omega) (by omega)) ?_
        refine v_if_eq_tb c_101_30 (h1) ?_
        refine v_icN (n := 1) c_101_33 rfl ?_
        refine v_iaddN c_101_34 ?_
        refine v_is6 c_101_35 rfl ?_
        refine v_incN7 c_101_36 rfl rfl ?_
        refine v_goto c_101_37 ?_
        exact hk2 _ _ ⟨by rw [cnt_t (by simp [h1])], rfl⟩
      · refine v_il7 c_101_23 ?_
        refine v_il5 c_101_24 ?_
        refine v_icmp_ge_F c_101_25 (by omega) (by omega) (by omega) ?_
        refine v_il6 c_101_26 ?_
        refine v_il3 c_101_27 ?_
        refine v_il7 c_101_28 ?_
        refine v_cSi c_101_29 rfl rfl rfl (q_has (by omega) (by omega)) ?_
        refine v_if_eq_fb c_101_30 (h1) ?_
        refine v_icN (n := 0) c_101_31 rfl ?_
        refine v_goto c_101_32 ?_
        refine v_iaddN c_101_34 ?_
        refine v_is6 c_101_35 rfl ?_
        refine v_incN7 c_101_36 rfl rfl ?_
        refine v_goto c_101_37 ?_
        exact hk2 _ _ ⟨by rw [cnt_f (by simp [h1])]; rfl, rfl⟩
    · rintro ls u ⟨rfl, rfl⟩
      refine v_il7 c_101_23 ?_
      refine v_il5 c_101_24 ?_
      refine v_icmp_ge_T c_101_25 (by omega) (by omega) (by omega) ?_
      refine v_il2 c_101_38 ?_
      refine v_bpN (n := 7) c_101_39 rfl ?_
      refine v_il4 c_101_40 ?_
      refine v_isubN c_101_41 (by omega) ?_
      refine v_imulN c_101_42 ?_
      refine v_il6 c_101_43 ?_
      refine v_iaddN c_101_44 ?_
      refine v_is2 c_101_45 rfl ?_
      refine v_il3 c_101_46 ?_
      refine v_icN (n := 1) c_101_47 rfl ?_
      refine v_il5 c_101_48 ?_
      refine v_ishlN c_101_49 (by omega) ?_
      rw [Nat.one_mul]
      refine v_iorN c_101_50 ?_
      refine v_is3 c_101_51 rfl ?_
      refine v_incN4 c_101_52 rfl rfl ?_
      refine v_goto c_101_53 ?_
      have e1 : cnt (fun j => !(uS n H k).testBit j) (hx n H k) = lhC 7 (hx n H) k := cnt_cg _ fun j hj => uS_L (by omega)
      have e2 : lhN 7 (hx n H) (k + 1) = lhN 7 (hx n H) k * (7 - k) + cnt (fun j => !(uS n H k).testBit j) (hx n H k) := by rw [e1]; rfl
      have e3 : uS n H (k + 1) = uS n H k ||| 2 ^ hx n H k := rfl
      exact hkk _ _ ⟨⟨_, _, _, by rw [e2, e3]⟩, rfl⟩
  · rintro ls t ⟨⟨y5, y6, y7, rfl⟩, rfl⟩
    refine v_il4 c_101_6 ?_
    refine v_bpN (n := 7) c_101_7 rfl ?_
    refine v_icmp_ge_T c_101_8 (by omega) (by omega) (by omega) ?_
    refine v_il2 c_101_54 ?_
    exact v_ri c_101_55 ⟨_, rfl, rfl, rfl⟩
end SQM
