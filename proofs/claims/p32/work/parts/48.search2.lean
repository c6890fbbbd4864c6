/-! THE SEARCH: packing, bits -/
theorem sL_s {s : zv_S} {o k : Nat} {v : Int64} : (sL s o k v).2.1 o k = v := by
  show (if o = o then vp_updL (s.2.1 o) k v else s.2.1 o) k = v
  rw [if_pos rfl]
  unfold vp_updL
  exact if_pos rfl
theorem sL_k {s : zv_S} {o k j : Nat} {v : Int64} (h : j ≠ k) : (sL s o k v).2.1 o j = s.2.1 o j := by
  show (if o = o then vp_updL (s.2.1 o) k v else s.2.1 o) j = _
  rw [if_pos rfl]
  unfold vp_updL
  exact if_neg h
theorem sL_o {s : zv_S} {o k a : Nat} {v : Int64} (h : a ≠ o) : (sL s o k v).2.1 a = s.2.1 a := if_neg h
def lb (w : Int64) (r : Nat) : Bool := w.toBitVec.getLsbD r
def l1 (r : Nat) : Int64 := (1 : Int64) <<< ((nI r).toInt64 &&& 63)
theorem lb_l1 : ∀ r, r < 64 → ∀ i, i < 64 → lb (l1 r) i = decide (i = r) := by decide +kernel
theorem lb_and {w : Int64} {r : Nat} (hr : r < 64) : (w &&& l1 r = 0) ↔ lb w r = false := by
  constructor
  · intro h
    have h1 : lb (w &&& l1 r) r = false := by rw [h]; unfold lb; simp
    have h2 : lb (w &&& l1 r) r = (lb w r && lb (l1 r) r) := by
      unfold lb
      rw [Int64.toBitVec_and, BitVec.getLsbD_and]
    rw [h2, lb_l1 r hr r hr, decide_eq_true rfl, Bool.and_true] at h1
    exact h1
  · intro h
    apply Int64.toBitVec_inj.mp
    apply BitVec.eq_of_getLsbD_eq
    intro i hi
    rw [Int64.toBitVec_and, BitVec.getLsbD_and]
    show (lb w i && lb (l1 r) i) = _
    rw [lb_l1 r hr i hi]
    by_cases e : i = r
    · rw [e, h]; simp
    · rw [decide_eq_false e]; simp
theorem lb_or {w : Int64} {r i : Nat} (hr : r < 64) (hi : i < 64) : lb (w ||| l1 r) i = (lb w i || decide (i = r)) := by
  show (w ||| l1 r).toBitVec.getLsbD i = _
  rw [Int64.toBitVec_or, BitVec.getLsbD_or]
  show (lb w i || lb (l1 r) i) = _
  rw [lb_l1 r hr i hi]
theorem lb_0 (r : Nat) : lb 0 r = false := by unfold lb; simp
def pkK (H : Nat → Nat) : Nat → Nat := orS (fun i => H i * 2 ^ (i * 3))
theorem mul_tb (a k p : Nat) : (a * 2 ^ k).testBit p = (decide (k ≤ p) && a.testBit (p - k)) := by
  rw [Nat.testBit_mul_two_pow]
theorem tb_8 {a k : Nat} (ha : a < 8) (h : a.testBit k = true) : k < 3 := by
  rcases Nat.lt_or_ge k 3 with h1 | h1
  · exact h1
  · rw [Nat.testBit_lt_two_pow (Nat.lt_of_lt_of_le ha (Nat.pow_le_pow_right (by omega) h1 : 2 ^ 3 ≤ 2 ^ k))] at h
    cases h
section PK
variable {n : Nat} {H : Nat → Nat}
theorem pkK_lt (h7 : n ≤ 7) (hH : ∀ i, i < n → H i < 8) : pkK H n < 2 ^ 21 := orS_lt (k := 21) n fun i hi => by
  have h1 : H i * 2 ^ (i * 3) < 8 * 2 ^ (i * 3) := Nat.mul_lt_mul_of_pos_right (hH i hi) (Nat.two_pow_pos _)
  have h2 : 8 * 2 ^ (i * 3) = 2 ^ (i * 3 + 3) := by rw [Nat.pow_add, Nat.mul_comm]
  have h3 : 2 ^ (i * 3 + 3) ≤ 2 ^ 21 := Nat.pow_le_pow_right (by omega) (by omega)
  omega
theorem pk_e {D : Nat} (h7 : n ≤ 7) (hH : ∀ i, i < n → H i < 8) (hD : D ≤ 63) : D * 2 ^ 21 ||| pkK H n < 2147483648 ∧ (D * 2 ^ 21 ||| pkK H n) / 2 ^ 21 = D ∧ ∀ i, i < n → (D * 2 ^ 21 ||| pkK H n) / 2 ^ (i * 3) &&& 7 = H i := by
  have hp := pkK_lt h7 hH
  have e : D * 2 ^ 21 ||| pkK H n = 2 ^ 21 * D + pkK H n := by rw [Nat.mul_comm, Nat.two_pow_add_eq_or_of_lt hp]
  refine ⟨by rw [e]; omega, by rw [e, Nat.mul_add_div (Nat.two_pow_pos _), Nat.div_eq_of_lt hp, Nat.add_zero], fun i hi => ?_⟩
  apply Nat.eq_of_testBit_eq
  intro j
  rw [Nat.testBit_and, Nat.testBit_div_two_pow, Nat.testBit_or, show (7 : Nat) = 2 ^ 3 - 1 from rfl, Nat.testBit_two_pow_sub_one]
  by_cases hj : j < 3
  · rw [decide_eq_true hj, Bool.and_true, mul_tb, decide_eq_false (show ¬ 21 ≤ j + i * 3 by omega), Bool.false_and, Bool.false_or]
    cases c : (H i).testBit j
    · cases c2 : (pkK H n).testBit (j + i * 3)
      · rfl
      · obtain ⟨k, k1, k2⟩ := (orS_tb n).mp c2
        rw [mul_tb, Bool.and_eq_true, decide_eq_true_eq] at k2
        have := tb_8 (hH k k1) k2.2
        have ek : k = i := by omega
        subst ek
        rw [show j + k * 3 - k * 3 = j by omega, c] at k2
        exact absurd k2.2 (by decide)
    · refine (orS_tb n).mpr ⟨i, hi, ?_⟩
      rw [mul_tb, decide_eq_true (by omega), show j + i * 3 - i * 3 = j by omega, c]
      rfl
  · rw [decide_eq_false hj, Bool.and_false]
    cases c : (H i).testBit j
    · rfl
    · exact absurd (tb_8 (hH i hi) c) hj
end PK
theorem pc_cnt : ∀ L, L < 128 → ∀ h, h < 7 → pc (L &&& (2 ^ h - 1)) = cnt (fun j => L.testBit j) h := by decide +kernel
/-- the class's queue -/
def CQ (s : zv_S) (n : Nat) (q : zQ) : Prop := s.1 83 1 = nI q.1 ∧ (∀ j, j < q.1 → s.1 84 j = nI (q.2.2 j * 2 ^ 21 ||| pkK (q.2.1 j) n)) ∧ ∀ x, x < 5040 → lb (s.2.1 85 (x / 64)) (x % 64) = qmt n q x
theorem CQ.fr {s t : zv_S} {n lo hi : Nat} {q : zQ} (h : CQ s n q) (hf : FR lo hi s t) (h1 : 86 ≤ lo ∨ hi ≤ 83) : CQ t n q := by
  unfold CQ
  rw [hf.at (a := 83) (by omega), hf.at (a := 84) (by omega), hf.atL (a := 85) (by omega)]
  exact h
section SR
variable {sc : Nat × (Nat → Int32)} {s : zv_S} {m : Nat} {M : zM}
theorem k_fil : CC sc 208 [.ref 85, .long 0] s (QV fun t => (∀ j, j < 79 → t.2.1 85 j = 0) ∧ t.1 = s.1 ∧ FR 85 86 s t) := by
  refine cc_of ml_208 rfl rfl ?_
  refine v_icN (n := 0) c_208_0 rfl ?_
  refine v_is3 c_208_1 rfl ?_
  refine v_al0 c_208_2 ?_
  refine v_len c_208_3 rfl ?_
  refine v_is4 c_208_4 rfl ?_
  refine vv_forS 79 (fun i ls t => ls = [some (.ref 85), some (.long 0), none, some (.int (nI i)), some (.int (nI 79))] ∧ (∀ j, j < i → t.2.1 85 j = 0) ∧ t.1 = s.1 ∧ FR 85 86 s t) ?_ ?_ _ _ ⟨rfl, fun j hj => absurd hj (by omega), rfl, FR.rf⟩
  · rintro i ls t hi ⟨rfl, g1, g2, g3⟩ hk
    refine v_il3 c_208_5 ?_
    refine v_il4 c_208_6 ?_
    refine v_icmp_ge_F c_208_7 (by omega) (by omega) (by omega) ?_
    refine v_al0 c_208_8 ?_
    refine v_il3 c_208_9 ?_
    refine v_ll1 c_208_10 ?_
    refine v_sL c_208_11 rfl (by omega) ?_
    refine v_incN3 c_208_12 rfl rfl ?_
    refine v_goto c_208_13 ?_
    refine hk _ _ ⟨rfl, fun j hj => ?_, g2, g3.tr (FR.sL (by omega) (by omega))⟩
    by_cases e : j = i
    · rw [e, sL_s]
    · rw [sL_k e]; exact g1 j (by omega)
  · rintro ls t ⟨rfl, g1, g2, g3⟩
    refine v_il3 c_208_5 ?_
    refine v_il4 c_208_6 ?_
    refine v_icmp_ge_T c_208_7 (by omega) (by omega) (by omega) ?_
    exact v_rv c_208_14 ⟨rfl, ⟨g1, g2, g3⟩⟩
theorem s_num (hm : isM m = true) (hM : MK s m M) (hw : MW M) : RI sc 150 [.ref m] s (nI (lhN (mN M) (mH M) (mN M))) s := by
  refine cc_of ml_150 rfl rfl ?_
  have h7 := hw.1
  have hp := hw.p128
  refine v_icN (n := 0) c_150_0 rfl ?_
  refine v_is1 c_150_1 rfl ?_
  refine v_al0 c_150_2 ?_
  refine v_cVi c_150_3 rfl (kM_lt hm) (kM_is hm) rfl (k_eve hm hM hw) ?_
  refine v_is2 c_150_4 rfl ?_
  refine v_icN (n := 0) c_150_5 rfl ?_
  refine v_is3 c_150_6 rfl ?_
  refine vv_forS (mN M) (fun i ls t => (∃ y4, ls = [some (.ref m), some (.int (nI (lhN (mN M) (mH M) i))), some (.int (nI (lhL (mN M) (mH M) i))), some (.int (nI i)), y4]) ∧ t = s) ?_ ?_ _ _ ⟨⟨none, rfl⟩, rfl⟩
  · rintro i ls t hi ⟨⟨y4, rfl⟩, rfl⟩ hk
    have bi := hw.2.2.2.1 i hi
    have hL : lhL (mN M) (mH M) i < 128 := O_7 h7 fun x hx => ((lhL_tb i x).mp hx).1
    have hA : lhL (mN M) (mH M) i &&& (2 ^ mH M i - 1) < 128 := Nat.lt_of_le_of_lt Nat.and_le_left hL
    have hp0 := Nat.two_pow_pos (mH M i)
    refine v_il3 c_150_7 ?_
    refine v_al0 c_150_8 ?_
    refine v_gI c_150_9 (kM_f0 hm) (hM.1) ?_
    refine v_icmp_ge_F c_150_10 (by omega) (by omega) (by omega) ?_
    refine v_al0 c_150_11 ?_
    refine v_gR c_150_12 (kM_r3 hm) ?_
    refine v_il3 c_150_13 ?_
    refine v_at c_150_14 (kM_a2 hm) (by omega) (hM.2.2.2 i hi) rfl ?_
    refine v_is4 c_150_15 rfl ?_
    refine v_il1 c_150_16 ?_
    refine v_al0 c_150_17 ?_
    refine v_gI c_150_18 (kM_f0 hm) (hM.1) ?_
    refine v_il3 c_150_19 ?_
    refine v_isubN c_150_20 (by omega) ?_
    refine v_imulN c_150_21 ?_
    refine v_il2 c_150_22 ?_
    refine v_il4 c_150_23 ?_
    refine v_cSi c_150_24 rfl rfl rfl (k_bit (by omega)) ?_
    refine v_icN (n := 1) c_150_25 rfl ?_
    refine v_isubN c_150_26 (by omega) ?_
    refine v_iandN c_150_27 ?_
    refine v_cSi c_150_28 rfl rfl rfl (k_bc hA) ?_
    refine v_iaddN c_150_29 ?_
    refine v_is1 c_150_30 rfl ?_
    refine v_il2 c_150_31 ?_
    refine v_il4 c_150_32 ?_
    refine v_cSi c_150_33 rfl rfl rfl (k_bit (by omega)) ?_
    refine v_ic c_150_34 ?_
    refine v_ixor c_150_35 ?_
    refine v_iand c_150_36 ?_
    rw [nI_not, pc_cnt _ hL _ (by omega)]
    refine v_is2 c_150_37 rfl ?_
    refine v_incN3 c_150_38 rfl rfl ?_
    refine v_goto c_150_39 ?_
    exact hk _ _ ⟨⟨_, rfl⟩, rfl⟩
  · rintro ls t ⟨⟨y4, rfl⟩, rfl⟩
    refine v_il3 c_150_7 ?_
    refine v_al0 c_150_8 ?_
    refine v_gI c_150_9 (kM_f0 hm) (hM.1) ?_
    refine v_icmp_ge_T c_150_10 (by omega) (by omega) (by omega) ?_
    refine v_il1 c_150_40 ?_
    exact v_ri c_150_41 ⟨_, rfl, rfl, rfl⟩
theorem s_pck (hm : isM m = true) (hM : MK s m M) (hw : MW M) : RI sc 151 [.ref m] s (nI (pkK (mH M) (mN M))) s := by
  refine cc_of ml_151 rfl rfl ?_
  have h7 := hw.1
  refine v_icN (n := 0) c_151_0 rfl ?_
  refine v_is1 c_151_1 rfl ?_
  refine v_icN (n := 0) c_151_2 rfl ?_
  refine v_is2 c_151_3 rfl ?_
  refine vv_for (mN M) (fun i => [some (.ref m), some (.int (nI (pkK (mH M) i))), some (.int (nI i))]) ?_ ?_
  · intro i hi hk
    refine v_il2 c_151_4 ?_
    refine v_al0 c_151_5 ?_
    refine v_gI c_151_6 (kM_f0 hm) (hM.1) ?_
    refine v_icmp_ge_F c_151_7 (by omega) (by omega) (by omega) ?_
    refine v_il1 c_151_8 ?_
    refine v_al0 c_151_9 ?_
    refine v_gR c_151_10 (kM_r3 hm) ?_
    refine v_il2 c_151_11 ?_
    refine v_at c_151_12 (kM_a2 hm) (by omega) (hM.2.2.2 i hi) rfl ?_
    refine v_il2 c_151_13 ?_
    refine v_icN (n := 3) c_151_14 rfl ?_
    refine v_imulN c_151_15 ?_
    refine v_ishlN c_151_16 (by omega) ?_
    refine v_iorN c_151_17 ?_
    refine v_is1 c_151_18 rfl ?_
    refine v_incN2 c_151_19 rfl rfl ?_
    refine v_goto c_151_20 ?_
    exact hk
  · refine v_il2 c_151_4 ?_
    refine v_al0 c_151_5 ?_
    refine v_gI c_151_6 (kM_f0 hm) (hM.1) ?_
    refine v_icmp_ge_T c_151_7 (by omega) (by omega) (by omega) ?_
    refine v_il1 c_151_21 ?_
    exact v_ri c_151_22 ⟨_, rfl, rfl, rfl⟩
theorem s_unp (hm : isM m = true) (hM : MK s m M) (h7 : mN M ≤ 7) {e : Nat} {H : Nat → Nat} (he : e < 2147483648) (hd : ∀ i, i < mN M → e / 2 ^ (i * 3) &&& 7 = H i) : CC sc 152 [.int (nI e), .ref m] s (QV fun t => MK t m (wH M H) ∧ FR m (m + 3) s t) := by
  refine cc_of ml_152 rfl rfl ?_
  refine v_icN (n := 0) c_152_0 rfl ?_
  refine v_is2 c_152_1 rfl ?_
  refine vv_forS (mN M) (fun i ls t => ls = [some (.int (nI e)), some (.ref m), some (.int (nI i))] ∧ t.1 m = s.1 m ∧ t.1 (m + 1) = s.1 (m + 1) ∧ (∀ j, j < i → t.1 (m + 2) j = nI (H j)) ∧ FR m (m + 3) s t) ?_ ?_ _ _ ⟨rfl, rfl, rfl, fun j hj => absurd hj (by omega), FR.rf⟩
  · rintro i ls t hi ⟨rfl, g1, g2, g3, g4⟩ hk
    have t0 : t.1 m 0 = nI (mN M) := by rw [g1]; exact hM.1
    refine v_il2 c_152_2 ?_
    refine v_al1 c_152_3 ?_
    refine v_gI c_152_4 (kM_f0 hm) (t0) ?_
    refine v_icmp_ge_F c_152_5 (by omega) (by omega) (by omega) ?_
    refine v_al1 c_152_6 ?_
    refine v_gR c_152_7 (kM_r3 hm) ?_
    refine v_il2 c_152_8 ?_
    refine v_il0 c_152_9 ?_
    refine v_il2 c_152_10 ?_
    refine v_icN (n := 3) c_152_11 rfl ?_
    refine v_imulN c_152_12 ?_
    refine v_ishrN c_152_13 (by omega) (by omega) ?_
    refine v_bpN (n := 7) c_152_14 rfl ?_
    refine v_iandN c_152_15 ?_
    refine v_put c_152_16 (kM_a2 hm) (by omega) rfl ?_
    refine v_incN2 c_152_17 rfl rfl ?_
    refine v_goto c_152_18 ?_
    refine hk _ _ ⟨rfl, by rw [sI_o (by omega)]; exact g1, by rw [sI_o (by omega)]; exact g2, fun j hj => ?_, g4.tr (FR.sI (by omega) (by omega))⟩
    by_cases c : j = i
    · rw [c, sI_s, hd i hi]
    · rw [sI_k c]; exact g3 j (by omega)
  · rintro ls t ⟨rfl, g1, g2, g3, g4⟩
    have t0 : t.1 m 0 = nI (mN M) := by rw [g1]; exact hM.1
    refine v_il2 c_152_2 ?_
    refine v_al1 c_152_3 ?_
    refine v_gI c_152_4 (kM_f0 hm) (t0) ?_
    refine v_icmp_ge_T c_152_5 (by omega) (by omega) (by omega) ?_
    refine v_rv c_152_19 ?_
    exact ⟨rfl, ⟨t0, by rw [g1]; exact hM.2.1, fun a b ha hb => by rw [g2]; exact hM.2.2.1 a b ha hb, g3⟩, g4⟩
theorem s_mee (hm : isM m = true) (hmr : m + 3 ≤ 83 ∨ 86 ≤ m) {H : Nat → Nat} (hM : MK s m (wH M H)) (hw : MW M) (hH : PM (mN M) H) {q : zQ} {d : Nat} (hd : d ≤ 63) (hQ : CQ s (mN M) q) (hV : QV1 M (qad (mN M) q H d)) :
    CC sc 149 [.ref 83, .ref m, .int (nI d)] s (QV fun t => CQ t (mN M) (qad (mN M) q H d) ∧ FR 83 86 s t) := by
  refine cc_of ml_149 rfl rfl ?_
  have h7 := hw.1
  have hwH := hw.wh hH
  obtain ⟨x, hx⟩ : ∃ x, x = lhN (mN M) H (mN M) := ⟨_, rfl⟩
  have hx5 : x < 5040 := by rw [hx]; exact lh_lt hH h7
  have hnum := s_num (sc := sc) hm hM hwH
  have hnum : RI sc 150 [.ref m] s (nI x) s := by rw [hx]; exact hnum
  have hl5 := QV1.len hw hV
  obtain ⟨q1, q2, q3⟩ := hQ
  have hr : x % 64 < 64 := Nat.mod_lt _ (by omega)
  refine v_al1 c_149_0 ?_
  refine v_cSi c_149_1 rfl rfl rfl (hnum) ?_
  refine v_is3 c_149_2 rfl ?_
  refine v_il3 c_149_3 ?_
  refine v_bpN (n := 64) c_149_4 rfl ?_
  refine v_idivN c_149_5 (by omega) (by omega) (by omega) ?_
  refine v_is4 c_149_6 rfl ?_
  refine v_lc c_149_7 ?_
  refine v_il3 c_149_8 ?_
  refine v_bpN (n := 64) c_149_9 rfl ?_
  refine v_iremN c_149_10 (by omega) (by omega) (by omega) ?_
  refine v_lshl c_149_11 ?_
  rw [show (1 : Int64) <<< ((nI (x % 64)).toInt64 &&& 63) = l1 (x % 64) from rfl]
  cases c : qmt (mN M) q x
  · have c' : qmt (mN M) q (lhN (mN M) H (mN M)) = false := by rw [← hx]; exact c
    have e : qad (mN M) q H d = (q.1 + 1, fup q.2.1 q.1 H, fup q.2.2 q.1 d) := by
      unfold qad
      rw [c', if_neg (by decide)]
    rw [e] at hl5 ⊢
    have hl5 : q.1 + 1 ≤ 5040 := hl5
    have hb : s.2.1 85 (x / 64) &&& l1 (x % 64) = 0 := (lb_and hr).mpr ((q3 x hx5).trans c)
    obtain ⟨u, hu⟩ : ∃ u, u = sL s 85 (x / 64) (s.2.1 85 (x / 64) ||| l1 (x % 64)) := ⟨_, rfl⟩
    have u1 : u.1 = s.1 := by rw [hu]; rfl
    have fu : FR 85 86 s u := by rw [hu]; exact FR.sL (by omega) (by omega)
    have hMu : MK u m (wH M H) := hM.fr fu (by omega)
    refine v_ls5 c_149_12 rfl ?_
    refine v_il4 c_149_13 ?_
    refine v_if_lt_F c_149_14 (by omega) ?_
    refine v_il4 c_149_15 ?_
    refine v_al0 c_149_16 ?_
    refine v_gR (n0 := 85) c_149_17 rfl ?_
    refine v_len c_149_18 rfl ?_
    refine v_icmp_ge_F c_149_19 (by omega) (by omega) (by omega) ?_
    refine v_al0 c_149_20 ?_
    refine v_gR (n0 := 85) c_149_21 rfl ?_
    refine v_il4 c_149_22 ?_
    refine v_aL c_149_23 rfl (by omega) (rfl) ?_
    refine v_ll5 c_149_24 ?_
    refine v_land c_149_25 ?_
    refine v_lc c_149_26 ?_
    refine v_lcmp c_149_27 ?_
    refine v_if_ne_f c_149_28 (((lg_cmp_eq _ _).mpr hb)) ?_
    refine v_al0 c_149_29 ?_
    refine v_gI c_149_30 rfl (q1) ?_
    refine v_spN (n := 5040) c_149_31 rfl ?_
    refine v_icmp_ge_F c_149_32 (by omega) (by omega) (by omega) ?_
    refine v_al0 c_149_33 ?_
    refine v_gR (n0 := 85) c_149_34 rfl ?_
    refine v_il4 c_149_35 ?_
    refine v_dup2 c_149_36 ?_
    refine v_aL c_149_37 rfl (by omega) (rfl) ?_
    refine v_ll5 c_149_38 ?_
    refine v_lor c_149_39 ?_
    refine v_sL c_149_40 rfl (by omega) ?_
    rw [← hu]
    have u77 : u.1 83 1 = nI q.1 := by rw [u1]; exact q1
    refine v_al0 c_149_41 ?_
    refine v_gR (n0 := 84) c_149_42 rfl ?_
    refine v_al0 c_149_43 ?_
    refine v_gI c_149_44 rfl (u77) ?_
    refine v_il2 c_149_45 ?_
    refine v_bpN (n := 21) c_149_46 rfl ?_
    refine v_ishlN c_149_47 (by omega) ?_
    refine v_al1 c_149_48 ?_
    refine v_cSi c_149_49 rfl rfl rfl (s_pck hm hMu hwH) ?_
    refine v_iorN c_149_50 ?_
    refine v_put c_149_51 rfl (by omega) rfl ?_
    refine v_al0 c_149_52 ?_
    refine v_dupr c_149_53 ?_
    refine v_gI c_149_54 rfl (show (sI u 84 q.1 _).1 83 1 = nI q.1 by rw [sI_o (by omega)]; exact u77) ?_
    refine v_icN (n := 1) c_149_55 rfl ?_
    refine v_iaddN c_149_56 ?_
    refine v_pI c_149_57 rfl ?_
    refine v_rv c_149_58 ?_
    refine ⟨rfl, ⟨by rw [sI_s], fun j hj => ?_, fun y hy => ?_⟩, (fu.up (by omega) (by omega)).tr ((FR.sI (by omega) (by omega)).tr (FR.sI (by omega) (by omega)))⟩
    · have hj : j < q.1 + 1 := hj
      rw [sI_o (by omega)]
      show _ = nI (fup q.2.2 q.1 d j * 2 ^ 21 ||| pkK (fup q.2.1 q.1 H j) (mN M))
      by_cases e : j = q.1
      · rw [e, sI_s, fup_s, fup_s]
      · rw [sI_k e, fup_o e, fup_o e, u1]
        exact q2 j (by omega)
    · show lb (u.2.1 85 (y / 64)) (y % 64) = _
      have hiff : qmt (mN M) (q.1 + 1, fup q.2.1 q.1 H, fup q.2.2 q.1 d) y = (qmt (mN M) q y || decide (y = x)) := by
        rw [Bool.eq_iff_iff, Bool.or_eq_true, decide_eq_true_eq, qmt_iff, qmt_iff]
        constructor
        · rintro ⟨j, j1, j2⟩
          have j1 : j < q.1 + 1 := j1
          have j2 : lhN (mN M) (fup q.2.1 q.1 H j) (mN M) = y := j2
          by_cases e : j = q.1
          · rw [e, fup_s] at j2
            exact Or.inr (by rw [hx, j2])
          · rw [fup_o e] at j2
            exact Or.inl ⟨j, by omega, j2⟩
        · rintro (⟨j, j1, j2⟩ | h)
          · exact ⟨j, by show j < q.1 + 1; omega, by show lhN (mN M) (fup q.2.1 q.1 H j) (mN M) = y; rw [fup_o (by omega)]; exact j2⟩
          · exact ⟨q.1, by show q.1 < q.1 + 1; omega, by show lhN (mN M) (fup q.2.1 q.1 H q.1) (mN M) = y; rw [fup_s, h, hx]⟩
      rw [hiff, hu]
      by_cases e : y / 64 = x / 64
      · rw [e, sL_s, lb_or hr (Nat.mod_lt _ (by omega)), ← e, q3 y hy]
        congr 1
        exact decide_eq_decide.mpr (by omega)
      · rw [sL_k e, q3 y hy, decide_eq_false (fun z => e (by rw [z])), Bool.or_false]
  · have c' : qmt (mN M) q (lhN (mN M) H (mN M)) = true := by rw [← hx]; exact c
    have e : qad (mN M) q H d = q := by
      unfold qad
      rw [c', if_pos rfl]
    rw [e]
    have hb : ¬ s.2.1 85 (x / 64) &&& l1 (x % 64) = 0 := fun z => by
      have := (lb_and hr).mp z
      rw [q3 x hx5, c] at this
      cases this
    refine v_ls5 c_149_12 rfl ?_
    refine v_il4 c_149_13 ?_
    refine v_if_lt_F c_149_14 (by omega) ?_
    refine v_il4 c_149_15 ?_
    refine v_al0 c_149_16 ?_
    refine v_gR (n0 := 85) c_149_17 rfl ?_
    refine v_len c_149_18 rfl ?_
    refine v_icmp_ge_F c_149_19 (by omega) (by omega) (by omega) ?_
    refine v_al0 c_149_20 ?_
    refine v_gR (n0 := 85) c_149_21 rfl ?_
    refine v_il4 c_149_22 ?_
    refine v_aL c_149_23 rfl (by omega) (rfl) ?_
    refine v_ll5 c_149_24 ?_
    refine v_land c_149_25 ?_
    refine v_lc c_149_26 ?_
    refine v_lcmp c_149_27 ?_
    refine v_if_ne_t c_149_28 ((fun z => hb ((lg_cmp_eq _ _).mp z))) ?_
    exact v_rv c_149_58 ⟨rfl, ⟨⟨q1, q2, q3⟩, FR.rf⟩⟩
end SR
