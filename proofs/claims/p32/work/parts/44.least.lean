/-! THE LEAST SUM -/
/-- the lowest place of the least value -/
def bT (f : Nat → Nat) (c : Nat → Bool) : Nat → Option Nat
  | 0 => none
  | k + 1 => if c k then (match bT f c k with
    | none => some k
    | some b => if f k < f b then some k else some b) else bT f c k
theorem bT_s (f : Nat → Nat) (c : Nat → Bool) (k : Nat) : bT f c (k + 1) = if c k then (match bT f c k with
    | none => some k
    | some b => if f k < f b then some k else some b) else bT f c k := rfl
theorem bT_none {f : Nat → Nat} {c : Nat → Bool} : ∀ n, bT f c n = none → ∀ t, t < n → c t = false
  | 0, _, t, ht => absurd ht (Nat.not_lt_zero _)
  | n + 1, h, t, ht => by
    rw [bT_s] at h
    cases h1 : c n
    · rw [h1, if_neg (by decide)] at h
      by_cases e : t = n
      · rw [e]; exact h1
      · exact bT_none n h t (by omega)
    · rw [h1, if_pos rfl] at h
      cases h2 : bT f c n with
      | none => rw [h2] at h; cases h
      | some b =>
        rw [h2] at h
        dsimp only at h
        split at h <;> cases h
theorem bT_some {f : Nat → Nat} {c : Nat → Bool} {b : Nat} : ∀ n, bT f c n = some b → b < n ∧ c b = true ∧ (∀ t, t < n → c t = true → f b ≤ f t) ∧ ∀ t, t < b → c t = true → f b < f t
  | 0, h => by cases h
  | n + 1, h => by
    rw [bT_s] at h
    cases h1 : c n
    · rw [h1, if_neg (by decide)] at h
      obtain ⟨a1, a2, a3, a4⟩ := bT_some n h
      refine ⟨by omega, a2, fun t ht hc => ?_, a4⟩
      by_cases e : t = n
      · rw [e, h1] at hc; cases hc
      · exact a3 t (by omega) hc
    · rw [h1, if_pos rfl] at h
      cases h2 : bT f c n with
      | none =>
        rw [h2] at h
        have e0 : n = b := Option.some.inj h
        subst e0
        have := bT_none n h2
        refine ⟨by omega, h1, fun t ht hc => ?_, fun t ht hc => ?_⟩
        · by_cases e : t = n
          · rw [e]; exact Nat.le_refl _
          · rw [this t (by omega)] at hc; cases hc
        · rw [this t ht] at hc; cases hc
      | some d =>
        rw [h2] at h
        dsimp only at h
        obtain ⟨a1, a2, a3, a4⟩ := bT_some (b := d) n h2
        by_cases q : f n < f d
        · rw [if_pos q] at h
          have e0 : n = b := Option.some.inj h
          subst e0
          refine ⟨by omega, h1, fun t ht hc => ?_, fun t ht hc => ?_⟩
          · by_cases e : t = n
            · rw [e]; exact Nat.le_refl _
            · have := a3 t (by omega) hc; omega
          · have := a3 t ht hc; omega
        · rw [if_neg q] at h
          cases h
          refine ⟨by omega, a2, fun t ht hc => ?_, a4⟩
          by_cases e : t = n
          · rw [e]; omega
          · exact a3 t (by omega) hc
def mF (M : zM) : Nat := mTh M (mP M)
def mK (M : zM) : Nat := bS (mP M) (mN M)
def mLi (M : zM) : Nat → Nat := selF (mP M) (mN M)
def mLS (M : zM) : Nat → Nat → Nat
  | 0, _ => 0
  | d + 1, X => match bT (fun t => mR M (mLi M (pc X)) t + mLS M d (X ||| 2 ^ t)) (fun t => (zdf (mF M) X).testBit t) (mN M) with
    | none => 0
    | some b => mR M (mLi M (pc X)) b + mLS M d (X ||| 2 ^ b)
def mBW (M : zM) (d X : Nat) : Option Nat := bT (fun t => mR M (mLi M (pc X)) t + mLS M d (X ||| 2 ^ t)) (fun t => (zdf (mF M) X).testBit t) (mN M)
theorem mLS_s (M : zM) (d X : Nat) : mLS M (d + 1) X = match mBW M d X with
    | none => 0
    | some b => mR M (mLi M (pc X)) b + mLS M d (X ||| 2 ^ b) := rfl
def pX (M : zM) : Nat → Nat
  | 0 => 0
  | k + 1 => pX M k ||| 2 ^ ((mBW M (mK M - 1 - k) (pX M k)).getD 0)
def lOf (M : zM) (i : Nat) : Int32 := if (mP M).testBit i then oI (mBW M (mK M - 1 - bS (mP M) i) (pX M (bS (mP M) i))) else -9
theorem selF_n {S n k : Nat} (hn : 0 < n) : ∀ i, i ≤ n → selF S i k < n
  | 0, _ => hn
  | i + 1, hi => by
    show (if S.testBit i && decide (k = bS S i) then i else selF S i k) < n
    split
    · omega
    · exact selF_n hn i (by omega)
theorem pc_mono {X F : Nat} (h : sub X F = true) : pc X ≤ pc F := by
  have h1 : ∀ x, (X.testBit x).toNat ≤ (F.testBit x).toNat := fun x => by
    cases e : X.testBit x
    · exact Nat.zero_le _
    · rw [sub_iff.mp h x e]; exact Nat.le_refl _
  unfold pc
  have := h1 0; have := h1 1; have := h1 2; have := h1 3; have := h1 4; have := h1 5; have := h1 6
  omega
theorem pc_sub0 {F X : Nat} (hF : F < 128) (hX : X < 128) (h : sub X F = true) (hne : X ≠ F) : pc X < pc F := by
  have h1 : ∃ t, F.testBit t = true ∧ X.testBit t = false := by
    refine Classical.byContradiction fun hh => hne ?_
    apply Nat.eq_of_testBit_eq
    intro x
    cases c : X.testBit x
    · cases c2 : F.testBit x
      · rfl
      · exact absurd ⟨x, c2, c⟩ hh
    · rw [sub_iff.mp h x c]
  obtain ⟨t, t1, t2⟩ := h1
  have ht := tb_7 hF t1
  have h2 := (pc_or X hX t ht t2).2
  have h3 : sub (X ||| 2 ^ t) F = true := sub_iff.mpr fun x hx => by
    rw [Nat.testBit_or, Bool.or_eq_true] at hx
    rcases hx with hx | hx
    · exact sub_iff.mp h x hx
    · rw [Nat.testBit_two_pow] at hx
      rw [← of_decide_eq_true hx]; exact t1
  have := pc_mono h3
  omega
section LE
variable {M : zM}
theorem mF_128 (hw : MW M) : mF M < 128 := mTh_128 hw _
theorem mF_lt (hw : MW M) : ∀ x, (mF M).testBit x = true → x < mN M := mT_lt hw
theorem mF_pc (hw : MW M) : pc (mF M) = mK M := by
  have h7 := hw.1
  have : ∀ i, i ≤ mN M → orS (fun i => if (mP M).testBit i then 2 ^ mH M i else 0) i < 128 ∧ pc (orS (fun i => if (mP M).testBit i then 2 ^ mH M i else 0) i) = bS (mP M) i := by
    intro i
    induction i with
    | zero => exact fun _ => ⟨Nat.zero_lt_succ _, show pc 0 = 0 from rfl⟩
    | succ i ih =>
      intro hi
      obtain ⟨a1, a2⟩ := ih (by omega)
      rw [orS_s]
      cases h : (mP M).testBit i
      · rw [if_neg (by decide), Nat.or_zero, bS_f h]
        exact ⟨a1, a2⟩
      · rw [if_pos rfl, bS_t h]
        have hb := hw.2.2.2.1 i (by omega)
        have hno : (orS (fun i => if (mP M).testBit i then 2 ^ mH M i else 0) i).testBit (mH M i) = false := by
          cases e : (orS (fun i => if (mP M).testBit i then 2 ^ mH M i else 0) i).testBit (mH M i)
          · rfl
          · obtain ⟨j, j1, j2⟩ := (orS_tb i).mp e
            cases h3 : (mP M).testBit j
            · rw [h3] at j2; simp at j2
            · rw [h3, if_pos rfl, Nat.testBit_two_pow] at j2
              have := hw.2.2.2.2 j i (by omega) (by omega) (of_decide_eq_true j2)
              omega
        obtain ⟨b1, b2⟩ := pc_or _ a1 (mH M i) (by omega) hno
        exact ⟨b1, by rw [b2, a2]⟩
  exact (this _ (Nat.le_refl _)).2
theorem ltK (hw : MW M) {X : Nat} (h : sub X (mF M) = true) (hne : X ≠ mF M) : pc X < mK M := by
  rw [← mF_pc hw]
  have h1 := mF_128 hw
  have h2 := sub_le h
  exact pc_sub0 h1 (by omega) h hne
theorem mK_7 (hw : MW M) : mK M ≤ mN M := cnt_le _ _
theorem mLi_lt {k : Nat} (hn : 0 < mN M) : mLi M k < mN M := selF_n hn _ (Nat.le_refl _)
theorem mLS_b (hw : MW M) : ∀ d X, mLS M d X ≤ 9 * d
  | 0, _ => Nat.le_refl _
  | d + 1, X => by
    rw [mLS_s]
    cases h : mBW M d X with
    | none => exact Nat.zero_le _
    | some b =>
      show mR M (mLi M (pc X)) b + mLS M d (X ||| 2 ^ b) ≤ 9 * (d + 1)
      have hb := (bT_some _ h).1
      have h1 := hw.2.2.1 (mLi M (pc X)) b (mLi_lt (by omega)) hb
      have h2 := mLS_b hw d (X ||| 2 ^ b)
      omega
theorem sub_or {X t F : Nat} (h : sub X F = true) (ht : F.testBit t = true) : sub (X ||| 2 ^ t) F = true := sub_iff.mpr fun x hx => by
  rw [Nat.testBit_or, Bool.or_eq_true] at hx
  rcases hx with hx | hx
  · exact sub_iff.mp h x hx
  · rw [Nat.testBit_two_pow] at hx
    rw [← of_decide_eq_true hx]; exact ht
theorem zdf_one {F X t : Nat} (h : (zdf F X).testBit t = true) : F.testBit t = true ∧ X.testBit t = false := by
  rw [zdf_tb, Bool.and_eq_true, Bool.not_eq_true'] at h
  exact h
theorem mBW_ex (hw : MW M) {d X : Nat} (h : sub X (mF M) = true) (hne : X ≠ mF M) : ∃ b, mBW M d X = some b := by
  cases e : mBW M d X with
  | some b => exact ⟨b, rfl⟩
  | none =>
    exfalso
    apply hne
    have h1 := bT_none _ e
    apply Nat.eq_of_testBit_eq
    intro x
    cases c : X.testBit x
    · cases c2 : (mF M).testBit x
      · rfl
      · have := h1 x (mF_lt hw x c2)
        rw [zdf_tb, c, c2] at this
        cases this
    · rw [sub_iff.mp h x c]
theorem mBW_ok (hw : MW M) {d X b : Nat} (h : sub X (mF M) = true) (e : mBW M d X = some b) : b < mN M ∧ (zdf (mF M) X).testBit b = true ∧ sub (X ||| 2 ^ b) (mF M) = true ∧ pc (X ||| 2 ^ b) = pc X + 1 := by
  obtain ⟨a1, a2, a3, a4⟩ := bT_some _ e
  have h7 := hw.1
  have hF := mF_128 hw
  have hX := sub_le h
  obtain ⟨b1, b2⟩ := zdf_one a2
  exact ⟨a1, a2, sub_or h b1, (pc_or X (by omega) b (by omega) b2).2⟩
theorem sub_0 (F : Nat) : sub 0 F = true := sub_iff.mpr fun x hx => by simp at hx
theorem pX_ok (hw : MW M) : ∀ k, k ≤ mK M → sub (pX M k) (mF M) = true ∧ pc (pX M k) = k
  | 0, _ => ⟨sub_0 _, show pc 0 = 0 from rfl⟩
  | k + 1, hk => by
    obtain ⟨a1, a2⟩ := pX_ok hw k (by omega)
    have hne : pX M k ≠ mF M := fun e => by
      have := mF_pc hw
      rw [← e] at this
      omega
    obtain ⟨b, hb⟩ := mBW_ex hw (d := mK M - 1 - k) a1 hne
    obtain ⟨_, _, c1, c2⟩ := mBW_ok hw a1 hb
    have e : pX M (k + 1) = pX M k ||| 2 ^ b := by
      show pX M k ||| 2 ^ ((mBW M (mK M - 1 - k) (pX M k)).getD 0) = _
      rw [hb]; rfl
    rw [e, c2, a2]
    exact ⟨c1, rfl⟩
theorem pX_ne (hw : MW M) {k : Nat} (hk : k < mK M) : pX M k ≠ mF M := fun e => by
  have := mF_pc hw
  rw [← e, (pX_ok hw k (by omega)).2] at this
  omega
theorem pX_s {k b : Nat} (h : mBW M (mK M - 1 - k) (pX M k) = some b) : pX M (k + 1) = pX M k ||| 2 ^ b := by
  show pX M k ||| 2 ^ ((mBW M (mK M - 1 - k) (pX M k)).getD 0) = _
  rw [h]; rfl
end LE
section LC
variable {sc : Nat × (Nat → Int32)} {s : zv_S} {m : Nat} {M : zM}
theorem s_swt (hm : isM m = true) (hM : MK s m M) (hw : MW M) {w X t g : Nat} (hX : X ||| 2 ^ t < 128) (hwn : w < mN M) (ht : t < mN M) (hg : s.1 82 (X ||| 2 ^ t) = nI g) :
    RI sc 165 [.ref 77, .ref m, .int (nI w), .int (nI X), .int (nI t)] s (nI (mR M w t + g)) s := by
  refine cc_of ml_165 rfl rfl ?_
  have h7 := hw.1
  refine v_al1 c_165_0 ?_
  refine v_il2 c_165_1 ?_
  refine v_il4 c_165_2 ?_
  refine v_cVi c_165_3 rfl (kM_lt hm) (kM_is hm) rfl (k_rkB hm hM hw hwn ht) ?_
  refine v_al0 c_165_4 ?_
  refine v_gR (n0 := 82) c_165_5 rfl ?_
  refine v_il3 c_165_6 ?_
  refine v_il4 c_165_7 ?_
  refine v_cSi c_165_8 rfl rfl rfl (k_bit (by omega)) ?_
  refine v_iorN c_165_9 ?_
  refine v_at c_165_10 rfl (hX) (hg) rfl ?_
  refine v_iaddN c_165_11 ?_
  exact v_ri c_165_12 ⟨_, rfl, rfl, rfl⟩
theorem s_bst (hm : isM m = true) (hM : MK s m M) (hw : MW M) {w X : Nat} {g : Nat → Nat} (hX : X < 128) (hwn : w < mN M) (hF : mF M < 128) (hg : ∀ t, (zdf (mF M) X).testBit t = true → s.1 82 (X ||| 2 ^ t) = nI (g (X ||| 2 ^ t)) ∧ g (X ||| 2 ^ t) ≤ 100) :
    RI sc 164 [.ref 77, .ref m, .int (nI w), .int (nI X), .int (nI (mF M))] s (oI (bT (fun t => mR M w t + g (X ||| 2 ^ t)) (fun t => (zdf (mF M) X).testBit t) (mN M))) s := by
  refine cc_of ml_164 rfl rfl ?_
  have h7 := hw.1
  have hz : zdf (mF M) X < 128 := zdf_lt (n := 7) hF
  refine v_il4 c_164_0 ?_
  refine v_il3 c_164_1 ?_
  refine v_ic c_164_2 ?_
  refine v_ixor c_164_3 ?_
  refine v_iand c_164_4 ?_
  rw [nI_not]
  refine v_is5 c_164_5 rfl ?_
  refine v_bp c_164_6 ?_
  refine v_is6 c_164_7 rfl ?_
  refine v_icN (n := 0) c_164_8 rfl ?_
  refine v_is7 c_164_9 rfl ?_
  obtain ⟨f, hf⟩ : ∃ f, f = fun t => mR M w t + g (X ||| 2 ^ t) := ⟨_, rfl⟩
  obtain ⟨c, hc⟩ : ∃ c, c = fun t => (zdf (mF M) X).testBit t := ⟨_, rfl⟩
  have hfe : ∀ t, f t = mR M w t + g (X ||| 2 ^ t) := fun t => by rw [hf]
  have hce : ∀ t, c t = (zdf (mF M) X).testBit t := fun t => by rw [hc]
  rw [← hf, ← hc]
  refine vv_for (mN M) (fun i => [some (.ref 77), some (.ref m), some (.int (nI w)), some (.int (nI X)), some (.int (nI (mF M))), some (.int (nI (zdf (mF M) X))), some (.int (oI (bT f c i))), some (.int (nI i))]) ?_ ?_
  · intro i hi hk
    rw [bT_s] at hk
    have hr := hw.2.2.1 w i hwn hi
    cases h1 : c i
    · rw [h1] at hk
      rw [hce] at h1
      refine v_il7 c_164_10 ?_
      refine v_al1 c_164_11 ?_
      refine v_gI c_164_12 (kM_f0 hm) (hM.1) ?_
      refine v_icmp_ge_F c_164_13 (by omega) (by omega) (by omega) ?_
      refine v_il5 c_164_14 ?_
      refine v_il7 c_164_15 ?_
      refine v_cSi c_164_16 rfl rfl rfl (k_con (by omega) (by omega)) ?_
      refine v_if_eq_tb c_164_17 (h1) ?_
      refine v_incN7 c_164_36 rfl rfl ?_
      refine v_goto c_164_37 ?_
      exact hk
    · rw [h1] at hk
      rw [hce] at h1
      have hg1 := hg i h1
      have hX1 : X ||| 2 ^ i < 128 := or_128 hX (by omega)
      have hs1 := s_swt (sc := sc) hm hM hw hX1 hwn hi hg1.1
      rw [← hfe] at hs1
      have hfb := hfe i
      cases h2 : bT f c i with
      | none =>
        rw [h2] at hk
        refine v_il7 c_164_10 ?_
        refine v_al1 c_164_11 ?_
        refine v_gI c_164_12 (kM_f0 hm) (hM.1) ?_
        refine v_icmp_ge_F c_164_13 (by omega) (by omega) (by omega) ?_
        refine v_il5 c_164_14 ?_
        refine v_il7 c_164_15 ?_
        refine v_cSi c_164_16 rfl rfl rfl (k_con (by omega) (by omega)) ?_
        refine v_if_eq_fb c_164_17 (h1) ?_
        refine v_il6 c_164_18 ?_
        refine v_bp c_164_19 ?_
        refine v_icmp_eq_t c_164_20 (rfl) ?_
        refine v_il7 c_164_34 ?_
        refine v_is6 c_164_35 rfl ?_
        refine v_incN7 c_164_36 rfl rfl ?_
        refine v_goto c_164_37 ?_
        exact hk
      | some b =>
        rw [h2] at hk
        obtain ⟨b1, b2, _, _⟩ := bT_some _ h2
        rw [hce] at b2
        have hr2 := hw.2.2.1 w b hwn (by omega)
        have hg2 := hg b b2
        have hX2 : X ||| 2 ^ b < 128 := or_128 hX (by omega)
        have hs2 := s_swt (sc := sc) hm hM hw hX2 hwn (by omega) hg2.1
        rw [← hfe] at hs2
        have hfb2 := hfe b
        by_cases q : f i < f b
        · dsimp only at hk
          rw [if_pos rfl, if_pos q] at hk
          refine v_il7 c_164_10 ?_
          refine v_al1 c_164_11 ?_
          refine v_gI c_164_12 (kM_f0 hm) (hM.1) ?_
          refine v_icmp_ge_F c_164_13 (by omega) (by omega) (by omega) ?_
          refine v_il5 c_164_14 ?_
          refine v_il7 c_164_15 ?_
          refine v_cSi c_164_16 rfl rfl rfl (k_con (by omega) (by omega)) ?_
          refine v_if_eq_fb c_164_17 (h1) ?_
          refine v_il6 c_164_18 ?_
          refine v_bp c_164_19 ?_
          refine v_icmp_eq_f c_164_20 ((dg_9 b (by omega))) ?_
          refine v_al0 c_164_21 ?_
          refine v_al1 c_164_22 ?_
          refine v_il2 c_164_23 ?_
          refine v_il3 c_164_24 ?_
          refine v_il7 c_164_25 ?_
          refine v_cVi c_164_26 rfl (by decide) rfl rfl (hs1) ?_
          refine v_al0 c_164_27 ?_
          refine v_al1 c_164_28 ?_
          refine v_il2 c_164_29 ?_
          refine v_il3 c_164_30 ?_
          refine v_il6 c_164_31 ?_
          refine v_cVi c_164_32 rfl (by decide) rfl rfl (hs2) ?_
          refine v_icmp_ge_F c_164_33 (by omega) (by omega) (by omega) ?_
          refine v_il7 c_164_34 ?_
          refine v_is6 c_164_35 rfl ?_
          refine v_incN7 c_164_36 rfl rfl ?_
          refine v_goto c_164_37 ?_
          exact hk
        · dsimp only at hk
          rw [if_pos rfl, if_neg q] at hk
          refine v_il7 c_164_10 ?_
          refine v_al1 c_164_11 ?_
          refine v_gI c_164_12 (kM_f0 hm) (hM.1) ?_
          refine v_icmp_ge_F c_164_13 (by omega) (by omega) (by omega) ?_
          refine v_il5 c_164_14 ?_
          refine v_il7 c_164_15 ?_
          refine v_cSi c_164_16 rfl rfl rfl (k_con (by omega) (by omega)) ?_
          refine v_if_eq_fb c_164_17 (h1) ?_
          refine v_il6 c_164_18 ?_
          refine v_bp c_164_19 ?_
          refine v_icmp_eq_f c_164_20 ((dg_9 b (by omega))) ?_
          refine v_al0 c_164_21 ?_
          refine v_al1 c_164_22 ?_
          refine v_il2 c_164_23 ?_
          refine v_il3 c_164_24 ?_
          refine v_il7 c_164_25 ?_
          refine v_cVi c_164_26 rfl (by decide) rfl rfl (hs1) ?_
          refine v_al0 c_164_27 ?_
          refine v_al1 c_164_28 ?_
          refine v_il2 c_164_29 ?_
          refine v_il3 c_164_30 ?_
          refine v_il6 c_164_31 ?_
          refine v_cVi c_164_32 rfl (by decide) rfl rfl (hs2) ?_
          refine v_icmp_ge_T c_164_33 (by omega) (by omega) (by omega) ?_
          refine v_incN7 c_164_36 rfl rfl ?_
          refine v_goto c_164_37 ?_
          exact hk
  · refine v_il7 c_164_10 ?_
    refine v_al1 c_164_11 ?_
    refine v_gI c_164_12 (kM_f0 hm) (hM.1) ?_
    refine v_icmp_ge_T c_164_13 (by omega) (by omega) (by omega) ?_
    refine v_il6 c_164_38 ?_
    exact v_ri c_164_39 ⟨_, rfl, rfl, rfl⟩
theorem s_lsm (hm : isM m = true) (hmr : m + 3 ≤ 77 ∨ 83 ≤ m) (hM : MK s m M) (hw : MW M) :
    CC sc 162 [.ref 77, .ref m] s (QI fun x t => x = nI (mLS M (mK M) 0) ∧ LN t (mP M) (mN M) ∧ (∀ Y, sub Y (mF M) = true → t.1 82 Y = nI (mLS M (mK M - pc Y) Y)) ∧ FR 77 83 s t) := by
  refine cc_of ml_162 rfl rfl ?_
  have h7 := hw.1
  have hP7 := mP_128 hw
  have hF7 := mF_128 hw
  have hpF := mF_pc hw
  have hK := mK_7 hw
  refine v_al1 c_162_0 ?_
  refine v_al1 c_162_1 ?_
  refine v_cVi c_162_2 rfl (kM_lt hm) (kM_is hm) rfl (k_pre hm hM hw) ?_
  refine v_cVi c_162_3 rfl (kM_lt hm) (kM_is hm) rfl (k_thg hm hM hw (by omega)) ?_
  refine v_is2 c_162_4 rfl ?_
  refine v_al0 c_162_5 ?_
  refine v_al1 c_162_6 ?_
  refine v_al1 c_162_7 ?_
  refine v_cVi c_162_8 rfl (kM_lt hm) (kM_is hm) rfl (k_pre hm hM hw) ?_
  refine v_cVV c_162_9 rfl (by decide) rfl rfl (s_lin hm hmr hM hw hP7) ?_
  rintro t0 ⟨l1, l2, l3⟩
  have f0 : FR 77 83 s t0 := l3.up (by omega) (by omega)
  rw [show mTh M (mP M) = mF M from rfl]
  refine v_al0 c_162_10 ?_
  refine v_gR (n0 := 82) c_162_11 rfl ?_
  refine v_il2 c_162_12 ?_
  refine v_icN (n := 0) c_162_13 rfl ?_
  refine v_put c_162_14 rfl (by omega) rfl ?_
  refine v_il2 c_162_15 ?_
  refine v_icN (n := 1) c_162_16 rfl ?_
  refine v_isub c_162_17 ?_
  refine v_is3 c_162_18 rfl ?_
  refine vv_forS (mF M) (fun a ls t => (∃ y4 y5, ls = [some (.ref 77), some (.ref m), some (.int (nI (mF M))), some (.int (nI (mF M - a) - nI 1)), y4, y5]) ∧ (∀ Y, sub Y (mF M) = true → mF M - a ≤ Y → t.1 82 Y = nI (mLS M (mK M - pc Y) Y)) ∧ FR 82 83 t0 t) ?_ ?_ _ _ ⟨⟨none, none, rfl⟩, fun Y hY h2 => ?_, FR.sI (by omega) (by omega)⟩
  · rintro a ls t ha ⟨⟨y4, y5, rfl⟩, g1, g2⟩ hk
    have hM' := hM.fr (f0.tr (g2.up (by omega) (by omega))) (by omega)
    have hLN := l1.fr g2 (by omega)
    have ej : nI (mF M - a) - nI 1 = nI (mF M - a - 1) := pk_sub (by omega)
    rw [ej]
    obtain ⟨X, hX⟩ : ∃ X, X = mF M - a - 1 := ⟨_, rfl⟩
    rw [← hX]
    have hX8 : X < 128 := by omega
    have fin : ∀ u y4 y5, (sub X (mF M) = true → u.1 82 X = nI (mLS M (mK M - pc X) X)) → (∀ Y, Y ≠ X → u.1 82 Y = t.1 82 Y) → FR 82 83 t0 u → VV sc 162 19 [some (.ref 77), some (.ref m), some (.int (nI (mF M))), some (.int (nI X + (-1))), y4, y5] [] u (QI fun x t => x = nI (mLS M (mK M) 0) ∧ LN t (mP M) (mN M) ∧ (∀ Y, sub Y (mF M) = true → t.1 82 Y = nI (mLS M (mK M - pc Y) Y)) ∧ FR 77 83 s t) := by
      intro u y4 y5 r1 r2 r3
      have := hk [some (.ref 77), some (.ref m), some (.int (nI (mF M))), some (.int (nI (mF M - (a + 1)) - nI 1)), y4, y5] u ⟨⟨y4, y5, rfl⟩, fun Y hY h2 => ?_, r3⟩
      · rw [show mF M - (a + 1) = X by omega, show nI X - nI 1 = nI X + (-1) by rw [Int32.sub_eq_add_neg]; rfl] at this
        exact this
      · by_cases e : Y = X
        · rw [e]; exact r1 (by rw [← e]; exact hY)
        · rw [r2 Y e]; exact g1 Y hY (by omega)
    cases c1 : sub X (mF M)
    · have hz0 : zdf X (mF M) ≠ 0 := fun z => by rw [zdf_sub.mp z] at c1; cases c1
      have hz : zdf X (mF M) < 128 := zdf_lt (n := 7) hX8
      refine v_il3 c_162_19 ?_
      refine v_if_lt_F c_162_20 (by omega) ?_
      refine v_il3 c_162_21 ?_
      refine v_cSi c_162_22 rfl rfl rfl (k_bc hX8) ?_
      refine v_is4 c_162_23 rfl ?_
      refine v_il3 c_162_24 ?_
      refine v_il2 c_162_25 ?_
      refine v_ic c_162_26 ?_
      refine v_ixor c_162_27 ?_
      refine v_iand c_162_28 ?_
      rw [nI_not]
      refine v_if_ne_T c_162_29 (hz0) (by omega) ?_
      refine v_inc3 c_162_54 rfl ?_
      refine v_goto c_162_55 ?_
      exact fin t _ _ (fun z => by rw [z] at c1; cases c1) (fun _ _ => rfl) g2
    · have hz0 : zdf X (mF M) = 0 := zdf_sub.mpr c1
      have hne : X ≠ mF M := by omega
      have hlt := ltK hw c1 hne
      have hlt2 : pc X < bS (mP M) (mN M) := hlt
      have hpX := pc_le X
      have hKe : bS (mP M) (mN M) = mK M := rfl
      obtain ⟨d, hd⟩ : ∃ d, mK M - pc X = d + 1 := ⟨mK M - pc X - 1, by omega⟩
      have hn0 : 0 < mN M := by omega
      have hlin : t.1 81 (pc X) = nI (mLi M (pc X)) := hLN.2 _ hlt
      have hgg : ∀ t', (zdf (mF M) X).testBit t' = true → t.1 82 (X ||| 2 ^ t') = nI (mLS M d (X ||| 2 ^ t')) ∧ mLS M d (X ||| 2 ^ t') ≤ 100 := by
        intro t' ht'
        obtain ⟨b1, b2⟩ := zdf_one ht'
        have hpo := (pc_or X hX8 t' (by have := mF_lt hw t' b1; omega) b2).2
        have hgt : X < X ||| 2 ^ t' := by
          have h1 : X ≤ X ||| 2 ^ t' := Nat.left_le_or
          rcases Nat.lt_or_eq_of_le h1 with h2 | h2
          · exact h2
          · rw [← h2] at hpo; omega
        rw [g1 _ (sub_or c1 b1) (by omega), hpo, show mK M - (pc X + 1) = d by omega]
        exact ⟨rfl, by have := mLS_b hw d (X ||| 2 ^ t'); omega⟩
      have hb := s_bst (sc := sc) hm hM' hw hX8 (mLi_lt (k := pc X) hn0) hF7 hgg
      obtain ⟨b, hbe⟩ := mBW_ex hw (d := d) c1 hne
      obtain ⟨b1, b2, b3, b4⟩ := mBW_ok hw c1 hbe
      rw [show bT _ _ _ = mBW M d X from rfl, hbe] at hb
      have hs := s_swt (sc := sc) hm hM' hw (or_128 hX8 (show b < 7 by omega)) (mLi_lt (k := pc X) hn0) b1 (hgg b b2).1
      refine v_il3 c_162_19 ?_
      refine v_if_lt_F c_162_20 (by omega) ?_
      refine v_il3 c_162_21 ?_
      refine v_cSi c_162_22 rfl rfl rfl (k_bc hX8) ?_
      refine v_is4 c_162_23 rfl ?_
      refine v_il3 c_162_24 ?_
      refine v_il2 c_162_25 ?_
      refine v_ic c_162_26 ?_
      refine v_ixor c_162_27 ?_
      refine v_iand c_162_28 ?_
      rw [nI_not]
      refine v_if_ne_F c_162_29 (hz0) (by omega) ?_
      refine v_il4 c_162_30 ?_
      refine v_al0 c_162_31 ?_
      refine v_gI c_162_32 rfl (hLN.1) ?_
      refine v_icmp_ge_F c_162_33 (by omega) (by omega) (by omega) ?_
      refine v_al0 c_162_34 ?_
      refine v_gR (n0 := 81) c_162_35 rfl ?_
      refine v_il4 c_162_36 ?_
      refine v_at c_162_37 rfl (by omega) (hlin) rfl ?_
      refine v_is5 c_162_38 rfl ?_
      refine v_al0 c_162_39 ?_
      refine v_gR (n0 := 82) c_162_40 rfl ?_
      refine v_il3 c_162_41 ?_
      refine v_al0 c_162_42 ?_
      refine v_al1 c_162_43 ?_
      refine v_il5 c_162_44 ?_
      refine v_il3 c_162_45 ?_
      refine v_al0 c_162_46 ?_
      refine v_al1 c_162_47 ?_
      refine v_il5 c_162_48 ?_
      refine v_il3 c_162_49 ?_
      refine v_il2 c_162_50 ?_
      refine v_cVi c_162_51 rfl (by decide) rfl rfl (hb) ?_
      refine v_cVi c_162_52 rfl (by decide) rfl rfl (hs) ?_
      refine v_put c_162_53 rfl (by omega) rfl ?_
      refine v_inc3 c_162_54 rfl ?_
      refine v_goto c_162_55 ?_
      refine fin _ _ _ (fun _ => ?_) (fun Y hY => sI_k hY) (g2.tr (FR.sI (by omega) (by omega)))
      rw [sI_s, hd, mLS_s, hbe]
  · rintro ls t ⟨⟨y4, y5, rfl⟩, g1, g2⟩
    rw [Nat.sub_self] at g1 ⊢
    have h0 := g1 0 (sub_0 _) (Nat.zero_le _)
    rw [show pc 0 = 0 from rfl, Nat.sub_zero] at h0
    refine v_il3 c_162_19 ?_
    refine v_if_lt_t c_162_20 ((by decide)) ?_
    refine v_al0 c_162_56 ?_
    refine v_gR (n0 := 82) c_162_57 rfl ?_
    refine v_icN (n := 0) c_162_58 rfl ?_
    refine v_at c_162_59 rfl (by omega) (h0) rfl ?_
    refine v_ri c_162_60 ?_
    exact ⟨_, rfl, rfl, l1.fr g2 (by omega), fun Y hY => g1 Y hY (Nat.zero_le _), f0.tr (g2.up (by omega) (by omega))⟩
  · have := sub_le hY
    have e : Y = mF M := by omega
    rw [e, sI_s, hpF, Nat.sub_self]
    rfl
theorem s_tal (hm : isM m = true) (hmr : m + 3 ≤ 77 ∨ 83 ≤ m) (hM : MK s m M) (hw : MW M) {i : Nat} (hi : i < mN M) :
    CC sc 163 [.ref 77, .ref m, .int (nI i)] s (QI fun x t => x = lOf M i ∧ FR 77 83 s t) := by
  refine cc_of ml_163 rfl rfl ?_
  have h7 := hw.1
  have hP7 := mP_128 hw
  have hF7 := mF_128 hw
  have hK := mK_7 hw
  refine v_al0 c_163_0 ?_
  refine v_al1 c_163_1 ?_
  refine v_cVI c_163_2 rfl (by decide) rfl rfl (s_lsm hm hmr hM hw) ?_
  rintro x t ⟨rfl, l1, l2, l3⟩
  have hM' := hM.fr l3 (by omega)
  refine v_pop c_163_3 ?_
  refine v_al1 c_163_4 ?_
  refine v_al1 c_163_5 ?_
  refine v_cVi c_163_6 rfl (kM_lt hm) (kM_is hm) rfl (k_pre hm hM' hw) ?_
  refine v_cVi c_163_7 rfl (kM_lt hm) (kM_is hm) rfl (k_thg hm hM' hw (by omega)) ?_
  refine v_is3 c_163_8 rfl ?_
  refine v_icN (n := 0) c_163_9 rfl ?_
  refine v_is4 c_163_10 rfl ?_
  refine v_icN (n := 0) c_163_11 rfl ?_
  refine v_is5 c_163_12 rfl ?_
  rw [show mTh M (mP M) = mF M from rfl]
  refine vv_forS (mK M) (fun k ls u => (∃ y6, ls = [some (.ref 77), some (.ref m), some (.int (nI i)), some (.int (nI (mF M))), some (.int (nI (pX M k))), some (.int (nI k)), y6]) ∧ ((mP M).testBit i = true → k ≤ bS (mP M) i) ∧ u = t) ?_ ?_ _ _ ⟨⟨none, rfl⟩, fun _ => Nat.zero_le _, rfl⟩
  · rintro k ls u hk ⟨⟨y6, rfl⟩, g1, rfl⟩ hkk
    obtain ⟨p1, p2⟩ := pX_ok hw k (by omega)
    have hpl := sub_le p1
    have hne := pX_ne hw hk
    have hn0 : 0 < mN M := by omega
    have hKe : bS (mP M) (mN M) = mK M := rfl
    obtain ⟨s1, s2, s3, s4⟩ := selF_lt (S := mP M) (n := mN M) (k := k) (mN M) (Nat.le_refl _) hk
    have hlin : u.1 81 k = nI (mLi M k) := l1.2 _ hk
    have hlk := mLi_lt (k := k) hn0
    have hgg : ∀ t', (zdf (mF M) (pX M k)).testBit t' = true → u.1 82 (pX M k ||| 2 ^ t') = nI (mLS M (mK M - 1 - k) (pX M k ||| 2 ^ t')) ∧ mLS M (mK M - 1 - k) (pX M k ||| 2 ^ t') ≤ 100 := by
      intro t' ht'
      obtain ⟨b1, b2⟩ := zdf_one ht'
      have hpo := (pc_or (pX M k) (by omega) t' (by have := mF_lt hw t' b1; omega) b2).2
      rw [l2 _ (sub_or p1 b1), hpo, p2, show mK M - (k + 1) = mK M - 1 - k by omega]
      exact ⟨rfl, by have := mLS_b hw (mK M - 1 - k) (pX M k ||| 2 ^ t'); omega⟩
    have hb := s_bst (sc := sc) hm hM' hw (by omega) (mLi_lt (k := k) hn0) hF7 hgg
    obtain ⟨b, hbe⟩ := mBW_ex hw (d := mK M - 1 - k) p1 hne
    obtain ⟨b1, b2, b3, b4⟩ := mBW_ok hw p1 hbe
    have hbe2 := hbe
    unfold mBW at hbe2
    rw [p2] at hbe2
    rw [hbe2] at hb
    by_cases c : mLi M k = i
    · have c2 : (mP M).testBit i = true := by rw [← c]; exact s2
      have c3 : bS (mP M) i = k := by rw [← c]; exact s3
      refine v_il5 c_163_13 ?_
      refine v_al0 c_163_14 ?_
      refine v_gI c_163_15 rfl (l1.1) ?_
      refine v_icmp_ge_F c_163_16 (by omega) (by omega) (by omega) ?_
      refine v_al0 c_163_17 ?_
      refine v_al1 c_163_18 ?_
      refine v_al0 c_163_19 ?_
      refine v_gR (n0 := 81) c_163_20 rfl ?_
      refine v_il5 c_163_21 ?_
      refine v_at c_163_22 rfl (by omega) (hlin) rfl ?_
      refine v_il4 c_163_23 ?_
      refine v_il3 c_163_24 ?_
      refine v_cVi c_163_25 rfl (by decide) rfl rfl (hb) ?_
      refine v_is6 c_163_26 rfl ?_
      refine v_al0 c_163_27 ?_
      refine v_gR (n0 := 81) c_163_28 rfl ?_
      refine v_il5 c_163_29 ?_
      refine v_at c_163_30 rfl (by omega) (hlin) rfl ?_
      refine v_il2 c_163_31 ?_
      refine v_icmp_ne_F c_163_32 (c) (by omega) (by omega) ?_
      refine v_il6 c_163_33 ?_
      refine v_ri c_163_34 ?_
      exact ⟨_, rfl, by unfold lOf; rw [c2, if_pos rfl, c3, hbe], l3⟩
    · refine v_il5 c_163_13 ?_
      refine v_al0 c_163_14 ?_
      refine v_gI c_163_15 rfl (l1.1) ?_
      refine v_icmp_ge_F c_163_16 (by omega) (by omega) (by omega) ?_
      refine v_al0 c_163_17 ?_
      refine v_al1 c_163_18 ?_
      refine v_al0 c_163_19 ?_
      refine v_gR (n0 := 81) c_163_20 rfl ?_
      refine v_il5 c_163_21 ?_
      refine v_at c_163_22 rfl (by omega) (hlin) rfl ?_
      refine v_il4 c_163_23 ?_
      refine v_il3 c_163_24 ?_
      refine v_cVi c_163_25 rfl (by decide) rfl rfl (hb) ?_
      refine v_is6 c_163_26 rfl ?_
      refine v_al0 c_163_27 ?_
      refine v_gR (n0 := 81) c_163_28 rfl ?_
      refine v_il5 c_163_29 ?_
      refine v_at c_163_30 rfl (by omega) (hlin) rfl ?_
      refine v_il2 c_163_31 ?_
      refine v_icmp_ne_T c_163_32 (c) (by omega) (by omega) ?_
      refine v_il4 c_163_35 ?_
      refine v_il6 c_163_36 ?_
      refine v_cSi c_163_37 rfl rfl rfl (k_bit (by omega)) ?_
      refine v_iorN c_163_38 ?_
      refine v_is4 c_163_39 rfl ?_
      refine v_incN5 c_163_40 rfl rfl ?_
      refine v_goto c_163_41 ?_
      refine hkk _ _ ⟨⟨_, by rw [pX_s hbe]⟩, fun h => ?_, rfl⟩
      have := g1 h
      have hne2 : k ≠ bS (mP M) i := fun e => c (by rw [e]; exact selF_at h _ hi)
      omega
  · rintro ls u ⟨⟨y6, rfl⟩, g1, rfl⟩
    have hKe : bS (mP M) (mN M) = mK M := rfl
    refine v_il5 c_163_13 ?_
    refine v_al0 c_163_14 ?_
    refine v_gI c_163_15 rfl (l1.1) ?_
    refine v_icmp_ge_T c_163_16 (by omega) (by omega) (by omega) ?_
    refine v_bp c_163_42 ?_
    refine v_ri c_163_43 ?_
    refine ⟨_, rfl, ?_, l3⟩
    unfold lOf
    cases h : (mP M).testBit i
    · rfl
    · have h1 := g1 h
      have h2 := bS_mono (S := mP M) (i := i + 1) _ hi
      rw [bS_t h] at h2
      omega
end LC
