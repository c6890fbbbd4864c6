/-! THE MARKET: what each of its methods answers and does -/
abbrev zM : Type := Nat × Nat × (Nat → Nat → Nat) × (Nat → Nat)
abbrev mN (M : zM) : Nat := M.1
abbrev mL (M : zM) : Nat := M.2.1
abbrev mR (M : zM) : Nat → Nat → Nat := M.2.2.1
abbrev mH (M : zM) : Nat → Nat := M.2.2.2
def MK (s : zv_S) (o : Nat) (M : zM) : Prop := s.1 o 0 = nI (mN M) ∧ s.1 o 1 = nI (mL M) ∧ (∀ i t, i < mN M → t < mN M → s.1 (o + 1) (i * 7 + t) = nI (mR M i t)) ∧ ∀ i, i < mN M → s.1 (o + 2) i = nI (mH M i)
def MW (M : zM) : Prop := mN M ≤ 7 ∧ mL M < 2 ^ mN M ∧ (∀ i t, i < mN M → t < mN M → mR M i t ≤ 9) ∧ (∀ i, i < mN M → mH M i < mN M) ∧ ∀ i j, i < mN M → j < mN M → mH M i = mH M j → i = j
theorem MW.l128 {M : zM} (h : MW M) : mL M < 128 := Nat.lt_of_lt_of_le h.2.1 (Nat.pow_le_pow_right (by omega) h.1 : 2 ^ mN M ≤ 2 ^ 7)
theorem MW.p128 {M : zM} (h : MW M) : 2 ^ mN M ≤ 128 := (Nat.pow_le_pow_right (by omega) h.1 : 2 ^ mN M ≤ 2 ^ 7)
theorem MK.fr {s t : zv_S} {o : Nat} {M : zM} {lo hi : Nat} (h : MK s o M) (hf : FR lo hi s t) (h0 : o + 3 ≤ lo ∨ hi ≤ o) : MK t o M := by
  unfold MK
  rw [hf.at (a := o) (by omega), hf.at (a := o + 1) (by omega), hf.at (a := o + 2) (by omega)]
  exact h
def cnt (p : Nat → Bool) : Nat → Nat
  | 0 => 0
  | n + 1 => cnt p n + (p n).toNat
def smm (f : Nat → Nat) : Nat → Nat
  | 0 => 0
  | n + 1 => smm f n + f n
def orS (f : Nat → Nat) : Nat → Nat
  | 0 => 0
  | n + 1 => orS f n ||| f n
theorem cnt_le (p : Nat → Bool) : ∀ n, cnt p n ≤ n
  | 0 => Nat.le_refl _
  | n + 1 => by
    have := cnt_le p n
    have h : (p n).toNat ≤ 1 := by cases p n <;> decide
    show cnt p n + (p n).toNat ≤ n + 1
    omega
theorem orS_lt {f : Nat → Nat} {k : Nat} : ∀ n, (∀ i, i < n → f i < 2 ^ k) → orS f n < 2 ^ k
  | 0, _ => Nat.two_pow_pos k
  | n + 1, h => Nat.or_lt_two_pow (orS_lt n fun i hi => h i (by omega)) (h n (by omega))
theorem orS_tb {f : Nat → Nat} {k : Nat} : ∀ n, (orS f n).testBit k = true ↔ ∃ i, i < n ∧ (f i).testBit k = true
  | 0 => by simp [orS]
  | n + 1 => by
    show (orS f n ||| f n).testBit k = true ↔ _
    rw [Nat.testBit_or, Bool.or_eq_true, orS_tb n]
    constructor
    · rintro (⟨i, h1, h2⟩ | h)
      · exact ⟨i, by omega, h2⟩
      · exact ⟨n, by omega, h⟩
    · rintro ⟨i, h1, h2⟩
      rcases Nat.lt_or_eq_of_le (Nat.le_of_lt_succ h1) with h3 | h3
      · exact Or.inl ⟨i, h3, h2⟩
      · subst h3; exact Or.inr h2
/-- who is present, as bits -/
def mP (M : zM) : Nat := zdf (2 ^ mN M - 1) (mL M)
theorem mP_lt (M : zM) : mP M < 2 ^ mN M := zdf_lt (Nat.sub_lt (Nat.two_pow_pos _) (by omega))
theorem mP_tb (M : zM) (i : Nat) : (mP M).testBit i = (decide (i < mN M) && !(mL M).testBit i) := by
  unfold mP
  rw [zdf_tb, Nat.testBit_two_pow_sub_one]
theorem mP_128 {M : zM} (hw : MW M) : mP M < 128 := Nat.lt_of_lt_of_le (mP_lt M) hw.p128
/-- the things of some traders -/
def mTh (M : zM) (S : Nat) : Nat := orS (fun i => if S.testBit i then 2 ^ mH M i else 0) (mN M)
theorem mTh_128 {M : zM} (hw : MW M) (S : Nat) : mTh M S < 128 := orS_lt (k := 7) _ fun i hi => by
  split
  · exact Nat.pow_lt_pow_right (by omega) (Nat.lt_of_lt_of_le (hw.2.2.2.1 i hi) hw.1)
  · decide
def mSum (M : zM) : Nat := smm (fun i => mR M i (mH M i)) (mN M)
def mLs (M : zM) (i t : Nat) : Int32 := nI (mR M i t) - nI (mR M i (mH M i))
theorem ls_lt {a b : Nat} (ha : a ≤ 9) (hb : b ≤ 9) : nI a - nI b < 0 ↔ a < b := by
  have h : ∀ a, a ≤ 9 → ∀ b, b ≤ 9 → (nI a - nI b < 0 ↔ a < b) := by decide +kernel
  exact h a ha b hb
theorem ls_eq {a b : Nat} (ha : a ≤ 9) (hb : b ≤ 9) : nI a - nI b = 0 ↔ a = b := by
  have h : ∀ a, a ≤ 9 → ∀ b, b ≤ 9 → (nI a - nI b = 0 ↔ a = b) := by decide +kernel
  exact h a ha b hb
theorem ls_gt {a b : Nat} (ha : a ≤ 9) (hb : b ≤ 9) : 0 < nI a - nI b ↔ b < a := by
  have h : ∀ a, a ≤ 9 → ∀ b, b ≤ 9 → (0 < nI a - nI b ↔ b < a) := by decide +kernel
  exact h a ha b hb
theorem ls_ge {a b : Nat} (ha : a ≤ 9) (hb : b ≤ 9) : 0 ≤ nI a - nI b ↔ b ≤ a := by
  have h : ∀ a, a ≤ 9 → ∀ b, b ≤ 9 → (0 ≤ nI a - nI b ↔ b ≤ a) := by decide +kernel
  exact h a ha b hb
theorem ls_le {a b : Nat} (ha : a ≤ 9) (hb : b ≤ 9) : nI a - nI b ≤ 0 ↔ a ≤ b := by
  have h : ∀ a, a ≤ 9 → ∀ b, b ≤ 9 → (nI a - nI b ≤ 0 ↔ a ≤ b) := by decide +kernel
  exact h a ha b hb
def mEn (M : zM) (i j : Nat) : Bool := !(mL M).testBit i && (!(mL M).testBit j && decide (mR M i (mH M j) < mR M i (mH M i)))
def mAg (M : zM) (i j : Nat) : Nat := if i = j then 1 else if (mL M).testBit i then 2 else if (mL M).testBit j then 3 else if mR M i (mH M i) < mR M i (mH M j) then 4 else if mR M j (mH M j) < mR M j (mH M i) then 5 else if mR M i (mH M j) = mR M i (mH M i) ∧ mR M j (mH M i) = mR M j (mH M j) then 6 else 0
def mSw (M : zM) (i j : Nat) : zM := (mN M, mL M, mR M, fun k => if k = j then mH M i else if k = i then mH M j else mH M k)
def mTk (M : zM) (S : Nat) (g : Nat → Nat) : zM := (mN M, mL M, mR M, fun k => if S.testBit k then g k else mH M k)
def mLv (M : zM) (i : Nat) : zM := (mN M, mL M ||| 2 ^ i, mR M, mH M)
def mHo (M : zM) : zM := (mN M, 0, mR M, fun k => k)
def mRk (M : zM) (i t r : Nat) : zM := (mN M, mL M, fun a b => if a = i ∧ b = t then r else mR M a b, mH M)
def mAd (M : zM) : zM := (mN M + 1, mL M, fun a b => if a = mN M ∧ b = mN M then 6 else if a = mN M ∨ b = mN M then 5 else mR M a b, fun k => if k = mN M then mN M else mH M k)
section KM
variable {sc : Nat × (Nat → Int32)} {s : zv_S} {o : Nat} {M : zM}
theorem k_bit {k : Nat} (hk : k < 31) : RI sc 36 [.int (nI k)] s (nI (2 ^ k)) s := by
  refine cc_of ml_36 rfl rfl ?_
  refine v_icN (n := 1) c_36_0 rfl ?_
  refine v_il0 c_36_1 ?_
  refine v_ishlN c_36_2 (by omega) ?_
  exact v_ri c_36_3 ⟨_, rfl, by rw [Nat.one_mul], rfl⟩
theorem k_con {b k : Nat} (hb : b < 2147483648) (hk : k < 32) : RI sc 37 [.int (nI b), .int (nI k)] s (bI (b.testBit k)) s := by
  refine cc_of ml_37 rfl rfl ?_
  cases h : b.testBit k
  · refine v_il0 c_37_0 ?_
    refine v_il1 c_37_1 ?_
    refine v_ishrN c_37_2 (by omega) (by omega) ?_
    refine v_icN (n := 1) c_37_3 rfl ?_
    refine v_iandN c_37_4 ?_
    refine v_if_eq_t c_37_5 (by rw [tb_and, h]; rfl) ?_
    refine v_icN (n := 0) c_37_8 rfl ?_
    exact v_rb (B := false) c_37_9 rfl ⟨_, rfl, rfl, rfl⟩
  · refine v_il0 c_37_0 ?_
    refine v_il1 c_37_1 ?_
    refine v_ishrN c_37_2 (by omega) (by omega) ?_
    refine v_icN (n := 1) c_37_3 rfl ?_
    refine v_iandN c_37_4 ?_
    refine v_if_eq_f c_37_5 (by rw [tb_and, h]; decide) ?_
    refine v_icN (n := 1) c_37_6 rfl ?_
    refine v_goto c_37_7 ?_
    exact v_rb (B := true) c_37_9 rfl ⟨_, rfl, rfl, rfl⟩
theorem k_has {n : Nat} (ho : isM o = true) (hn : s.1 o 0 = nI n) (hn7 : n ≤ 7) (x : Int32) : RI sc 116 [.ref o, .int x] s (bI (decide (0 ≤ x) && decide (x < nI n))) s := by
  refine cc_of ml_116 rfl rfl ?_
  by_cases h0 : x < 0
  · have h1 : ¬ 0 ≤ x := Int32.not_le.mpr h0
    refine v_il1 c_116_0 ?_
    refine v_if_lt_t c_116_1 (h0) ?_
    refine v_icN (n := 0) c_116_8 rfl ?_
    exact v_rb (B := false) c_116_9 rfl ⟨_, rfl, by simp [h1], rfl⟩
  · have h1 : 0 ≤ x := Int32.not_lt.mp h0
    by_cases h2 : nI n ≤ x
    · have h3 : ¬ x < nI n := Int32.not_lt.mpr h2
      refine v_il1 c_116_0 ?_
      refine v_if_lt_f c_116_1 (h0) ?_
      refine v_il1 c_116_2 ?_
      refine v_al0 c_116_3 ?_
      refine v_gI c_116_4 (kM_f0 ho) (hn) ?_
      refine v_icmp_ge_t c_116_5 (h2) ?_
      refine v_icN (n := 0) c_116_8 rfl ?_
      exact v_rb (B := false) c_116_9 rfl ⟨_, rfl, by simp [h3], rfl⟩
    · have h3 : x < nI n := Int32.not_le.mp h2
      refine v_il1 c_116_0 ?_
      refine v_if_lt_f c_116_1 (h0) ?_
      refine v_il1 c_116_2 ?_
      refine v_al0 c_116_3 ?_
      refine v_gI c_116_4 (kM_f0 ho) (hn) ?_
      refine v_icmp_ge_f c_116_5 (h2) ?_
      refine v_icN (n := 1) c_116_6 rfl ?_
      refine v_goto c_116_7 ?_
      exact v_rb (B := true) c_116_9 rfl ⟨_, rfl, by simp [h1, h3], rfl⟩
theorem k_eve (ho : isM o = true) (hM : MK s o M) (hw : MW M) : RI sc 117 [.ref o] s (nI (2 ^ mN M - 1)) s := by
  refine cc_of ml_117 rfl rfl ?_
  have := hw.1
  have := Nat.two_pow_pos (mN M)
  refine v_al0 c_117_0 ?_
  refine v_gI c_117_1 (kM_f0 ho) (hM.1) ?_
  refine v_cSi c_117_2 rfl rfl rfl (k_bit (by omega)) ?_
  refine v_icN (n := 1) c_117_3 rfl ?_
  refine v_isubN c_117_4 (by omega) ?_
  exact v_ri c_117_5 ⟨_, rfl, rfl, rfl⟩
theorem k_pre (ho : isM o = true) (hM : MK s o M) (hw : MW M) : RI sc 118 [.ref o] s (nI (mP M)) s := by
  refine cc_of ml_118 rfl rfl ?_
  refine v_al0 c_118_0 ?_
  refine v_cVi c_118_1 rfl (kM_lt ho) (kM_is ho) rfl (k_eve ho hM hw) ?_
  refine v_al0 c_118_2 ?_
  refine v_gI c_118_3 (kM_f1 ho) (hM.2.1) ?_
  refine v_ic c_118_4 ?_
  refine v_ixor c_118_5 ?_
  refine v_iand c_118_6 ?_
  exact v_ri c_118_7 ⟨_, rfl, nI_not _ _, rfl⟩
theorem k_isP (ho : isM o = true) (hM : MK s o M) (hw : MW M) {i : Nat} (hi : i < 7) : RI sc 119 [.ref o, .int (nI i)] s (bI (!(mL M).testBit i)) s := by
  refine cc_of ml_119 rfl rfl ?_
  have := hw.l128
  cases h : (mL M).testBit i
  · refine v_al0 c_119_0 ?_
    refine v_gI c_119_1 (kM_f1 ho) (hM.2.1) ?_
    refine v_il1 c_119_2 ?_
    refine v_cSi c_119_3 rfl rfl rfl (k_con (by omega) (by omega)) ?_
    refine v_if_ne_fb c_119_4 (h) ?_
    refine v_icN (n := 1) c_119_5 rfl ?_
    refine v_goto c_119_6 ?_
    exact v_rb (B := true) c_119_8 rfl ⟨_, rfl, rfl, rfl⟩
  · refine v_al0 c_119_0 ?_
    refine v_gI c_119_1 (kM_f1 ho) (hM.2.1) ?_
    refine v_il1 c_119_2 ?_
    refine v_cSi c_119_3 rfl rfl rfl (k_con (by omega) (by omega)) ?_
    refine v_if_ne_tb c_119_4 (h) ?_
    refine v_icN (n := 0) c_119_7 rfl ?_
    exact v_rb (B := false) c_119_8 rfl ⟨_, rfl, rfl, rfl⟩
theorem k_rkB (ho : isM o = true) (hM : MK s o M) (hw : MW M) {i t : Nat} (hi : i < mN M) (ht : t < mN M) : RI sc 121 [.ref o, .int (nI i), .int (nI t)] s (nI (mR M i t)) s := by
  refine cc_of ml_121 rfl rfl ?_
  have := hw.1
  refine v_il1 c_121_0 ?_
  refine v_bpN (n := 7) c_121_1 rfl ?_
  refine v_imulN c_121_2 ?_
  refine v_il2 c_121_3 ?_
  refine v_iaddN c_121_4 ?_
  refine v_is3 c_121_5 rfl ?_
  refine v_il3 c_121_6 ?_
  refine v_if_lt_F c_121_7 (by omega) ?_
  refine v_il3 c_121_8 ?_
  refine v_al0 c_121_9 ?_
  refine v_gR c_121_10 (kM_r2 ho) ?_
  refine v_len c_121_11 (kM_n1 ho) ?_
  refine v_icmp_ge_F c_121_12 (by omega) (by omega) (by omega) ?_
  refine v_al0 c_121_13 ?_
  refine v_gR c_121_14 (kM_r2 ho) ?_
  refine v_il3 c_121_15 ?_
  refine v_aI c_121_16 (kM_a1 ho) (by omega) (hM.2.2.1 i t hi ht) ?_
  refine v_goto c_121_17 ?_
  exact v_ri c_121_19 ⟨_, rfl, rfl, rfl⟩
theorem k_rkH (ho : isM o = true) (hM : MK s o M) (hw : MW M) {i : Nat} (hi : i < mN M) : RI sc 122 [.ref o, .int (nI i)] s (nI (mR M i (mH M i))) s := by
  refine cc_of ml_122 rfl rfl ?_
  have := hw.1
  refine v_al0 c_122_0 ?_
  refine v_il1 c_122_1 ?_
  refine v_al0 c_122_2 ?_
  refine v_gR c_122_3 (kM_r3 ho) ?_
  refine v_il1 c_122_4 ?_
  refine v_at c_122_5 (kM_a2 ho) (by omega) (hM.2.2.2 i hi) rfl ?_
  refine v_cVi c_122_6 rfl (kM_lt ho) (kM_is ho) rfl (k_rkB ho hM hw hi (hw.2.2.2.1 i hi)) ?_
  exact v_ri c_122_7 ⟨_, rfl, rfl, rfl⟩
theorem k_lss (ho : isM o = true) (hM : MK s o M) (hw : MW M) {i t : Nat} (hi : i < mN M) (ht : t < mN M) : RI sc 124 [.ref o, .int (nI i), .int (nI t)] s (mLs M i t) s := by
  refine cc_of ml_124 rfl rfl ?_
  have := hw.1
  refine v_al0 c_124_0 ?_
  refine v_il1 c_124_1 ?_
  refine v_il2 c_124_2 ?_
  refine v_cVi c_124_3 rfl (kM_lt ho) (kM_is ho) rfl (k_rkB ho hM hw hi ht) ?_
  refine v_al0 c_124_4 ?_
  refine v_il1 c_124_5 ?_
  refine v_cVi c_124_6 rfl (kM_lt ho) (kM_is ho) rfl (k_rkH ho hM hw hi) ?_
  refine v_isub c_124_7 ?_
  exact v_ri c_124_8 ⟨_, rfl, rfl, rfl⟩
end KM
