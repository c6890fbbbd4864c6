/-! THE SEARCH: the class's -/
theorem CQ.cg {s : zv_S} {n : Nat} {q q' : zQ} (h : CQ s n q) (e1 : q'.1 = q.1) (e2 : ∀ j, j < q.1 → q'.2.1 j = q.2.1 j ∧ q'.2.2 j = q.2.2 j) : CQ s n q' := by
  obtain ⟨h1, h2, h3⟩ := h
  refine ⟨by rw [e1]; exact h1, fun j hj => ?_, fun x hx => ?_⟩
  · rw [e1] at hj
    rw [(e2 j hj).1, (e2 j hj).2]
    exact h2 j hj
  · rw [h3 x hx, Bool.eq_iff_iff, qmt_iff, qmt_iff]
    constructor
    · rintro ⟨j, j1, j2⟩
      exact ⟨j, by rw [e1]; exact j1, by rw [(e2 j j1).1]; exact j2⟩
    · rintro ⟨j, j1, j2⟩
      rw [e1] at j1
      exact ⟨j, j1, by rw [(e2 j j1).1] at j2; exact j2⟩
theorem pr_dm {n a j : Nat} (hj : j < n) : (a * n + j) / n = a ∧ (a * n + j) % n = j := by
  constructor
  · rw [Nat.mul_comm, Nat.mul_add_div (by omega), Nat.div_eq_of_lt hj, Nat.add_zero]
  · rw [Nat.mul_comm, Nat.mul_add_mod, Nat.mod_eq_of_lt hj]
section QX
variable {M : zM} {H : Nat → Nat} {d : Nat} {q : zQ}
theorem qex_t {k : Nat} (h : prV M H k = true) : qex M H d q (k + 1) = qad (mN M) (qex M H d q k) (sw H (k / mN M) (k % mN M)) d := by
  show (if prV M H k then _ else _) = _
  rw [if_pos h]
theorem qex_f {k : Nat} (h : prV M H k = false) : qex M H d q (k + 1) = qex M H d q k := by
  show (if prV M H k then _ else _) = _
  rw [h, if_neg (by decide)]
theorem prV_at {a b : Nat} (hb : b < mN M) : prV M H (a * mN M + b) = (decide (a < b) && decide (mAg (wH M H) a b = 0)) := by
  unfold prV
  rw [(pr_dm hb).1, (pr_dm hb).2]
theorem qex_skip {a : Nat} (ha : a < mN M) : ∀ j, j ≤ a + 1 → qex M H d q (a * mN M + j) = qex M H d q (a * mN M)
  | 0, _ => rfl
  | j + 1, hj => by
    rw [← Nat.add_assoc, qex_f (by rw [prV_at (by omega), decide_eq_false (show ¬ a < j by omega)]; rfl)]
    exact qex_skip ha j (by omega)
end QX
theorem sm_lt {a b n : Nat} (ha : a < n) (hb : b < n) : a * n + b < n * n := by
  have h1 : (a + 1) * n ≤ n * n := Nat.mul_le_mul_right _ ha
  rw [Nat.succ_mul] at h1
  omega
section SX
variable {sc : Nat × (Nat → Int32)} {s : zv_S} {M : zM}
theorem s_exa {H : Nat → Nat} (hM : MK s 58 (wH M H)) (hw : MW M) (hH : PM (mN M) H) {q : zQ} {d w t : Nat} (hwn : w < mN M) (htn : t < mN M) (hd : smm (fun i => mR M i (H i)) (mN M) + d ≤ 63) (hQ : CQ s (mN M) q) (hV : QV1 M q) (hno : ∀ j, j < q.1 → q.2.1 j w ≠ t) :
    CC sc 148 [.ref 83, .ref 58, .int (nI (d + 1)), .int (nI w), .int (nI t)] s (QI fun x u => FR 58 86 s u ∧ ((x = bI true ∧ ∃ k, k < mN M * mN M ∧ (∀ j, j < (qex M H (d + 1) q k).1 → (qex M H (d + 1) q k).2.1 j w ≠ t) ∧ prV M H k = true ∧ sw H (k / mN M) (k % mN M) w = t) ∨
      (x = bI false ∧ MK u 58 (wH M H) ∧ CQ u (mN M) (qex M H (d + 1) q (mN M * mN M)) ∧ ∀ j, j < (qex M H (d + 1) q (mN M * mN M)).1 → (qex M H (d + 1) q (mN M * mN M)).2.1 j w ≠ t))) := by
  refine cc_of ml_148 rfl rfl ?_
  have h7 := hw.1
  have hm : isM 58 = true := rfl
  have hVk := fun k hk => QV1.ex hV hH hd k hk
  refine v_icN (n := 0) c_148_0 rfl ?_
  refine v_is5 c_148_1 rfl ?_
  refine vv_forS (mN M) (fun a ls u => (∃ y6, ls = [some (.ref 83), some (.ref 58), some (.int (nI (d + 1))), some (.int (nI w)), some (.int (nI t)), some (.int (nI a)), y6]) ∧ MK u 58 (wH M H) ∧ CQ u (mN M) (qex M H (d + 1) q (a * mN M)) ∧ (∀ j, j < (qex M H (d + 1) q (a * mN M)).1 → (qex M H (d + 1) q (a * mN M)).2.1 j w ≠ t) ∧ FR 58 86 s u) ?_ ?_ _ _ ⟨⟨none, rfl⟩, hM, by rw [Nat.zero_mul]; exact hQ, by rw [Nat.zero_mul]; exact hno, FR.rf⟩
  · rintro a ls u ha ⟨⟨y6, rfl⟩, g1, g2, g3, g4⟩ hk
    have u0 : u.1 58 0 = nI (mN M) := g1.1
    refine v_il5 c_148_2 ?_
    refine v_al1 c_148_3 ?_
    refine v_gI c_148_4 (kM_f0 hm) (u0) ?_
    refine v_icmp_ge_F c_148_5 (by omega) (by omega) (by omega) ?_
    refine v_il5 c_148_6 ?_
    refine v_icN (n := 1) c_148_7 rfl ?_
    refine v_iaddN c_148_8 ?_
    refine v_is6 c_148_9 rfl ?_
    have e0 := qex_skip (M := M) (H := H) (d := d + 1) (q := q) ha (a + 1) (Nat.le_refl _)
    refine vv_forS (mN M - (a + 1)) (fun j ls v => ls = [some (.ref 83), some (.ref 58), some (.int (nI (d + 1))), some (.int (nI w)), some (.int (nI t)), some (.int (nI a)), some (.int (nI (a + 1 + j)))] ∧ MK v 58 (wH M H) ∧ CQ v (mN M) (qex M H (d + 1) q (a * mN M + (a + 1 + j))) ∧ (∀ i, i < (qex M H (d + 1) q (a * mN M + (a + 1 + j))).1 → (qex M H (d + 1) q (a * mN M + (a + 1 + j))).2.1 i w ≠ t) ∧ FR 58 86 s v) ?_ ?_ _ _ ⟨rfl, g1, by rw [Nat.add_zero, e0]; exact g2, by rw [Nat.add_zero, e0]; exact g3, g4⟩
    · rintro j ls v hj ⟨rfl, f1, f2, f3, f4⟩ hkk
      obtain ⟨b, hb⟩ : ∃ b, b = a + 1 + j := ⟨_, rfl⟩
      rw [← hb] at f2 f3 ⊢
      have hbn : b < mN M := by omega
      have hwH := hw.wh hH
      have v0 : v.1 58 0 = nI (mN M) := f1.1
      have hag : RI sc 130 [.ref 58, .int (nI a), .int (nI b)] v (nI (mAg (wH M H) a b)) v := k_rsn hm f1 hwH ha hbn
      have hag6 : mAg (wH M H) a b ≤ 6 := by
        unfold mAg
        split <;> (try omega)
        split <;> (try omega)
        split <;> (try omega)
        split <;> (try omega)
        split <;> (try omega)
        split <;> omega
      have es : a * mN M + (a + 1 + (j + 1)) = a * mN M + b + 1 := by omega
      have epr := prV_at (M := M) (H := H) (a := a) hbn
      rw [decide_eq_true (show a < b by omega), Bool.true_and] at epr
      have hdm := pr_dm (a := a) hbn
      by_cases c : mAg (wH M H) a b = 0
      · rw [decide_eq_true c] at epr
        have e1 := qex_t (d := d + 1) (q := q) epr
        rw [hdm.1, hdm.2] at e1
        have hkn : a * mN M + b < mN M * mN M := sm_lt ha hbn
        have hV1 := hVk (a * mN M + b + 1) (by omega)
        rw [e1] at hV1
        have hHs : PM (mN M) (sw H a b) := hH.sw ha hbn
        have hd63 : d + 1 ≤ 63 := by
          have := sw_sum ha hbn c
          omega
        obtain ⟨x, hx⟩ : ∃ x, x = sI (sI v (58 + 2) a (v.1 (58 + 2) b)) (58 + 2) b (v.1 (58 + 2) a) := ⟨_, rfl⟩
        have mx : MK x 58 (wH M (sw H a b)) := by rw [hx]; exact MK.sw f1 ha hbn
        have fx : FR 58 61 v x := by rw [hx]; exact (FR.sI (by omega) (by omega)).tr (FR.sI (by omega) (by omega))
        have hv2 : x.1 60 w = nI (sw H a b w) := mx.2.2.2 w hwn
        have hsn : sw H a b w < mN M := hHs.1 w hwn
        by_cases c2 : sw H a b w = t
        · refine v_il6 c_148_10 ?_
          refine v_al1 c_148_11 ?_
          refine v_gI c_148_12 (kM_f0 hm) (v0) ?_
          refine v_icmp_ge_F c_148_13 (by omega) (by omega) (by omega) ?_
          refine v_al1 c_148_14 ?_
          refine v_il5 c_148_15 ?_
          refine v_il6 c_148_16 ?_
          refine v_cVi c_148_17 rfl (kM_lt hm) (kM_is hm) rfl (hag) ?_
          refine v_if_ne_F c_148_18 (c) (by omega) ?_
          refine v_al1 c_148_19 ?_
          refine v_il5 c_148_20 ?_
          refine v_il6 c_148_21 ?_
          refine v_cVv c_148_22 rfl (kM_lt hm) (kM_is hm) rfl (k_swp hm (by omega) (by omega)) ?_
          rw [← hx]
          refine v_al1 c_148_23 ?_
          refine v_gR c_148_24 (kM_r3 hm) ?_
          refine v_il3 c_148_25 ?_
          refine v_at c_148_26 (kM_a2 hm) (by omega) (hv2) rfl ?_
          refine v_il4 c_148_27 ?_
          refine v_icmp_ne_F c_148_28 (c2) (by omega) (by omega) ?_
          refine v_icN (n := 1) c_148_29 rfl ?_
          refine v_rb (B := true) c_148_30 rfl ?_
          refine ⟨_, rfl, f4.tr (fx.up (by omega) (by omega)), Or.inl ⟨rfl, a * mN M + b, hkn, f3, epr, ?_⟩⟩
          rw [hdm.1, hdm.2]
          exact c2
        · refine v_il6 c_148_10 ?_
          refine v_al1 c_148_11 ?_
          refine v_gI c_148_12 (kM_f0 hm) (v0) ?_
          refine v_icmp_ge_F c_148_13 (by omega) (by omega) (by omega) ?_
          refine v_al1 c_148_14 ?_
          refine v_il5 c_148_15 ?_
          refine v_il6 c_148_16 ?_
          refine v_cVi c_148_17 rfl (kM_lt hm) (kM_is hm) rfl (hag) ?_
          refine v_if_ne_F c_148_18 (c) (by omega) ?_
          refine v_al1 c_148_19 ?_
          refine v_il5 c_148_20 ?_
          refine v_il6 c_148_21 ?_
          refine v_cVv c_148_22 rfl (kM_lt hm) (kM_is hm) rfl (k_swp hm (by omega) (by omega)) ?_
          rw [← hx]
          refine v_al1 c_148_23 ?_
          refine v_gR c_148_24 (kM_r3 hm) ?_
          refine v_il3 c_148_25 ?_
          refine v_at c_148_26 (kM_a2 hm) (by omega) (hv2) rfl ?_
          refine v_il4 c_148_27 ?_
          refine v_icmp_ne_T c_148_28 (c2) (by omega) (by omega) ?_
          refine v_al0 c_148_31 ?_
          refine v_al1 c_148_32 ?_
          refine v_il2 c_148_33 ?_
          refine v_cVV c_148_34 rfl (by decide) rfl rfl (s_mee hm (by omega) mx hw hHs hd63 (f2.fr fx (by omega)) hV1) ?_
          rintro z ⟨z1, z2⟩
          have mz : MK z 58 (wH M (sw H a b)) := mx.fr z2 (by omega)
          obtain ⟨o, ho⟩ : ∃ o, o = sI (sI z (58 + 2) a (z.1 (58 + 2) b)) (58 + 2) b (z.1 (58 + 2) a) := ⟨_, rfl⟩
          have mo : MK o 58 (wH M H) := by
            have h1 : MK o 58 (wH M (sw (sw H a b) a b)) := by rw [ho]; exact MK.sw mz ha hbn
            rw [sw_sw] at h1
            exact h1
          have fo : FR 58 61 z o := by rw [ho]; exact (FR.sI (by omega) (by omega)).tr (FR.sI (by omega) (by omega))
          refine v_al1 c_148_35 ?_
          refine v_il5 c_148_36 ?_
          refine v_il6 c_148_37 ?_
          refine v_cVv c_148_38 rfl (kM_lt hm) (kM_is hm) rfl (k_swp hm (by omega) (by omega)) ?_
          rw [← ho]
          refine v_incN6 c_148_39 rfl rfl ?_
          refine v_goto c_148_40 ?_
          rw [hb]
          refine hkk _ _ ⟨by rw [show a + 1 + j + 1 = a + 1 + (j + 1) by omega], mo, by rw [es, e1]; exact z1.fr fo (by omega), ?_, ((f4.tr (fx.up (by omega) (by omega))).tr (z2.up (by omega) (by omega))).tr (fo.up (by omega) (by omega))⟩
          rw [es, e1]
          intro i hi
          unfold qad at hi ⊢
          cases c3 : qmt (mN M) (qex M H (d + 1) q (a * mN M + b)) (lhN (mN M) (sw H a b) (mN M))
          · rw [c3, if_neg (by decide)] at hi
            rw [if_neg (by decide)]
            have hi : i < (qex M H (d + 1) q (a * mN M + b)).1 + 1 := hi
            show fup (qex M H (d + 1) q (a * mN M + b)).2.1 (qex M H (d + 1) q (a * mN M + b)).1 (sw H a b) i w ≠ t
            by_cases e : i = (qex M H (d + 1) q (a * mN M + b)).1
            · rw [e, fup_s]; exact c2
            · rw [fup_o e]; exact f3 i (by omega)
          · rw [c3, if_pos rfl] at hi
            rw [if_pos rfl]
            exact f3 i hi
      · rw [decide_eq_false c] at epr
        have e1 := qex_f (d := d + 1) (q := q) epr
        refine v_il6 c_148_10 ?_
        refine v_al1 c_148_11 ?_
        refine v_gI c_148_12 (kM_f0 hm) (v0) ?_
        refine v_icmp_ge_F c_148_13 (by omega) (by omega) (by omega) ?_
        refine v_al1 c_148_14 ?_
        refine v_il5 c_148_15 ?_
        refine v_il6 c_148_16 ?_
        refine v_cVi c_148_17 rfl (kM_lt hm) (kM_is hm) rfl (hag) ?_
        refine v_if_ne_T c_148_18 (c) (by omega) ?_
        refine v_incN6 c_148_39 rfl rfl ?_
        refine v_goto c_148_40 ?_
        rw [hb]
        refine hkk _ _ ⟨by rw [show a + 1 + j + 1 = a + 1 + (j + 1) by omega], f1, by rw [es, e1]; exact f2, by rw [es, e1]; exact f3, f4⟩
    · rintro ls v ⟨rfl, f1, f2, f3, f4⟩
      have v0 : v.1 58 0 = nI (mN M) := f1.1
      have e9 : a * mN M + (a + 1 + (mN M - (a + 1))) = (a + 1) * mN M := by
        rw [Nat.succ_mul]
        omega
      rw [e9] at f2 f3
      refine v_il6 c_148_10 ?_
      refine v_al1 c_148_11 ?_
      refine v_gI c_148_12 (kM_f0 hm) (v0) ?_
      refine v_icmp_ge_T c_148_13 (by omega) (by omega) (by omega) ?_
      refine v_incN5 c_148_41 rfl rfl ?_
      refine v_goto c_148_42 ?_
      exact hk _ _ ⟨⟨_, rfl⟩, f1, f2, f3, f4⟩
  · rintro ls u ⟨⟨y6, rfl⟩, g1, g2, g3, g4⟩
    have u0 : u.1 58 0 = nI (mN M) := g1.1
    refine v_il5 c_148_2 ?_
    refine v_al1 c_148_3 ?_
    refine v_gI c_148_4 (kM_f0 hm) (u0) ?_
    refine v_icmp_ge_T c_148_5 (by omega) (by omega) (by omega) ?_
    refine v_icN (n := 0) c_148_43 rfl ?_
    refine v_rb (B := false) c_148_44 rfl ?_
    exact ⟨_, rfl, g4, Or.inr ⟨rfl, g1, g2, g3⟩⟩
def fewS (M : zM) (w t : Nat) : Int32 := if (mL M).testBit w then -9 else fwA M w t
theorem s_few (hM : MK s 58 M) (hw : MW M) {w t : Nat} (hwn : w < mN M) (htn : t < mN M) : CC sc 147 [.ref 83, .ref 58, .int (nI w), .int (nI t)] s (QI fun x u => x = fewS M w t ∧ FR 58 86 s u) := by
  refine cc_of ml_147 rfl rfl ?_
  have h7 := hw.1
  have hm : isM 58 = true := rfl
  have hb := hw.2.2.2.1 w hwn
  cases hp : (mL M).testBit w
  · by_cases c0 : mH M w = t
    · refine v_al1 c_147_0 ?_
      refine v_il2 c_147_1 ?_
      refine v_cVi c_147_2 rfl (kM_lt hm) (kM_is hm) rfl (k_isP hm hM hw (by omega)) ?_
      refine v_if_ne_tb c_147_3 (by rw [hp]; rfl) ?_
      refine v_al1 c_147_6 ?_
      refine v_gR c_147_7 (kM_r3 hm) ?_
      refine v_il2 c_147_8 ?_
      refine v_at c_147_9 (kM_a2 hm) (by omega) (hM.2.2.2 w hwn) rfl ?_
      refine v_il3 c_147_10 ?_
      refine v_icmp_ne_F c_147_11 (c0) (by omega) (by omega) ?_
      refine v_icN (n := 0) c_147_12 rfl ?_
      refine v_ri c_147_13 ?_
      refine ⟨_, rfl, ?_, FR.rf⟩
      unfold fewS
      rw [hp, if_neg (by decide)]
      exact (fw_hit (fw_in (M := M) (K := 0) (by omega)) (J := 0) (by show 0 < 1; omega) (fun j hj => absurd hj (Nat.not_lt_zero _)) c0).symm
    · refine v_al1 c_147_0 ?_
      refine v_il2 c_147_1 ?_
      refine v_cVi c_147_2 rfl (kM_lt hm) (kM_is hm) rfl (k_isP hm hM hw (by omega)) ?_
      refine v_if_ne_tb c_147_3 (by rw [hp]; rfl) ?_
      refine v_al1 c_147_6 ?_
      refine v_gR c_147_7 (kM_r3 hm) ?_
      refine v_il2 c_147_8 ?_
      refine v_at c_147_9 (kM_a2 hm) (by omega) (hM.2.2.2 w hwn) rfl ?_
      refine v_il3 c_147_10 ?_
      refine v_icmp_ne_T c_147_11 (c0) (by omega) (by omega) ?_
      refine v_al0 c_147_14 ?_
      refine v_icN (n := 0) c_147_15 rfl ?_
      refine v_pI c_147_16 rfl ?_
      refine v_al0 c_147_17 ?_
      refine v_gR (n0 := 85) c_147_18 rfl ?_
      refine v_lc c_147_19 ?_
      refine v_cSV c_147_20 rfl rfl rfl (k_fil) ?_
      rintro u ⟨u1, u2, u3⟩
      have Mu : MK u 58 (wH M (mH M)) := (hM.fr (FR.sI (lo := 83) (hi := 84) (by omega) (by omega)) (by omega)).fr u3 (by omega)
      have hV0 := qst_V hw 0
      have c0' : CQ u (mN M) (0, fun _ => mH M, fun _ => 0) := by
        refine ⟨by rw [u2, sI_s], fun j hj => absurd hj (Nat.not_lt_zero _), fun x hx => ?_⟩
        rw [u1 _ (by omega), lb_0]
        rfl
      have eq0 : qad (mN M) (0, fun _ => mH M, fun _ => 0) (mH M) 0 = (0 + 1, fup (fun _ => mH M) 0 (mH M), fup (fun _ => 0) 0 0) := rfl
      have hcg : ∀ j, j < 0 + 1 → (qst M 0).2.1 j = fup (fun _ => mH M) 0 (mH M) j ∧ (qst M 0).2.2 j = fup (fun _ => 0) 0 0 j := fun j hj => by
        rw [show j = 0 by omega, fup_s, fup_s]
        exact ⟨rfl, rfl⟩
      have hVa : QV1 M (qad (mN M) (0, fun _ => mH M, fun _ => 0) (mH M) 0) := by
        refine QV1.ad ⟨fun j hj => absurd hj (Nat.not_lt_zero _), fun i j hi => absurd hi (Nat.not_lt_zero _), fun j hj => absurd hj (Nat.not_lt_zero _)⟩ hw.pm ?_
        exact hV0.2.2 0 (by show 0 < 1; omega)
      refine v_al0 c_147_21 ?_
      refine v_al1 c_147_22 ?_
      refine v_icN (n := 0) c_147_23 rfl ?_
      refine v_cVV c_147_24 rfl (by decide) rfl rfl (s_mee hm (by omega) Mu hw hw.pm (by omega) c0' hVa) ?_
      rintro v ⟨v1, v2⟩
      rw [eq0] at v1
      have v1 := v1.cg (q' := qst M 0) rfl hcg
      have Mv : MK v 58 (wH M (mH M)) := Mu.fr v2 (by omega)
      have fv : FR 58 86 s v := (((FR.sI (lo := 58) (hi := 86) (by omega) (by omega)).tr (u3.up (by omega) (by omega)))).tr (v2.up (by omega) (by omega))
      refine v_icN (n := 0) c_147_25 rfl ?_
      refine v_is4 c_147_26 rfl ?_
      refine vv_forS 5040 (fun K ls x => (∃ y5 y6, ls = [some (.ref 83), some (.ref 58), some (.int (nI w)), some (.int (nI t)), some (.int (nI K)), y5, y6]) ∧ K ≤ (qst M K).1 ∧ (∃ H, MK x 58 (wH M H)) ∧ CQ x (mN M) (qst M K) ∧ (∀ j, j < (qst M K).1 → (qst M K).2.1 j w ≠ t) ∧ FR 58 86 s x) ?_ ?_ _ _ ⟨⟨none, none, rfl⟩, Nat.zero_le _, ⟨_, Mv⟩, v1, fun j hj => c0, fv⟩
      · rintro K ls x hK5 ⟨⟨y5, y6, rfl⟩, g1, g2, g3, g4, g5⟩ hk
        obtain ⟨Hx, g2⟩ := g2
        have hlen := qst_len hw K
        by_cases c1 : K < (qst M K).1
        · have hV := qst_V hw K
          have hHK := hV.1 K c1
          have hH8 : ∀ i, i < mN M → (qst M K).2.1 K i < 8 := fun i hi => by have := hHK.1 i hi; omega
          have hD := hV.2.2 K c1
          obtain ⟨p1, p2, p3⟩ := pk_e (n := mN M) (H := (qst M K).2.1 K) (D := (qst M K).2.2 K) h7 hH8 (by omega)
          have hcell := g3.2.1 K c1
          refine v_il4 c_147_27 ?_
          refine v_al0 c_147_28 ?_
          refine v_gI c_147_29 rfl (g3.1) ?_
          refine v_icmp_ge_F c_147_30 (by omega) (by omega) (by omega) ?_
          refine v_il4 c_147_31 ?_
          refine v_spN (n := 5040) c_147_32 rfl ?_
          refine v_icmp_ge_F c_147_33 (by omega) (by omega) (by omega) ?_
          refine v_al0 c_147_34 ?_
          refine v_gR (n0 := 84) c_147_35 rfl ?_
          refine v_il4 c_147_36 ?_
          refine v_at c_147_37 rfl (by omega) (hcell) rfl ?_
          refine v_is5 c_147_38 rfl ?_
          refine v_il5 c_147_39 ?_
          refine v_bpN (n := 21) c_147_40 rfl ?_
          refine v_ishrN c_147_41 (by omega) (by omega) ?_
          refine v_icN (n := 1) c_147_42 rfl ?_
          rw [p2]
          refine v_iaddN c_147_43 ?_
          refine v_is6 c_147_44 rfl ?_
          refine v_il5 c_147_45 ?_
          refine v_al1 c_147_46 ?_
          refine v_cSV c_147_47 rfl rfl rfl (s_unp hm g2 h7 p1 p3) ?_
          rintro y ⟨y1, y2⟩
          have y1 : MK y 58 (wH M ((qst M K).2.1 K)) := y1
          refine v_al0 c_147_48 ?_
          refine v_al1 c_147_49 ?_
          refine v_il6 c_147_50 ?_
          refine v_il2 c_147_51 ?_
          refine v_il3 c_147_52 ?_
          refine v_cVI c_147_53 rfl (by decide) rfl rfl (s_exa y1 hw hHK hwn htn hD (g3.fr y2 (by omega)) hV g4) ?_
          rintro x' z ⟨z1, z2⟩
          have fz : FR 58 86 s z := (g5.tr (y2.up (by omega) (by omega))).tr z1
          rcases z2 with ⟨rfl, k, k1, k2, k3, k4⟩ | ⟨rfl, m1, m2, m3⟩
          · refine v_if_eq_fb c_147_54 (rfl) ?_
            refine v_il6 c_147_55 ?_
            refine v_ri c_147_56 ?_
            refine ⟨_, rfl, ?_, fz⟩
            unfold fewS
            rw [hp, if_neg (by decide)]
            exact (fw_child hw hwn c1 k1 k2 k3 k4).symm
          · refine v_if_eq_tb c_147_54 (rfl) ?_
            refine v_incN4 c_147_57 rfl rfl ?_
            refine v_goto c_147_58 ?_
            have hE := (qst_E (M := M) (K := K) (K + 1) (by omega)).1
            refine hk _ _ ⟨⟨_, _, rfl⟩, ?_, ⟨_, m1⟩, by rw [qst_s c1]; exact m2, by rw [qst_s c1]; exact m3, fz⟩
            have hlt : K < (qst M (K + 1)).1 := by omega
            exact hlt
        · have eK : (qst M K).1 = K := by omega
          refine v_il4 c_147_27 ?_
          refine v_al0 c_147_28 ?_
          refine v_gI c_147_29 rfl (g3.1) ?_
          refine v_icmp_ge_T c_147_30 (by omega) (by omega) (by omega) ?_
          refine v_bp c_147_59 ?_
          refine v_ri c_147_60 ?_
          refine ⟨_, rfl, ?_, g5⟩
          unfold fewS
          rw [hp, if_neg (by decide)]
          exact (fw_none hw (by omega) g4).symm
      · rintro ls x ⟨⟨y5, y6, rfl⟩, g1, g2, g3, g4, g5⟩
        have hlen := qst_len hw 5040
        refine v_il4 c_147_27 ?_
        refine v_al0 c_147_28 ?_
        refine v_gI c_147_29 rfl (g3.1) ?_
        refine v_icmp_ge_T c_147_30 (by omega) (by omega) (by omega) ?_
        refine v_bp c_147_59 ?_
        refine v_ri c_147_60 ?_
        refine ⟨_, rfl, ?_, g5⟩
        unfold fewS
        rw [hp, if_neg (by decide)]
        exact (fw_none hw (by omega) g4).symm
  · refine v_al1 c_147_0 ?_
    refine v_il2 c_147_1 ?_
    refine v_cVi c_147_2 rfl (kM_lt hm) (kM_is hm) rfl (k_isP hm hM hw (by omega)) ?_
    refine v_if_ne_fb c_147_3 (by rw [hp]; rfl) ?_
    refine v_bp c_147_4 ?_
    refine v_ri c_147_5 ?_
    exact ⟨_, rfl, by unfold fewS; rw [hp]; rfl, FR.rf⟩
end SX
