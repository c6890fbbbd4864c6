/-! FACTS: the least sum -/
section FB
variable {M : zM}
def mB (M : zM) (k : Nat) : Nat := (mBW M (mK M - 1 - k) (pX M k)).getD 0
def mLo (M : zM) (i : Nat) : Nat := mB M (bS (mP M) i)
theorem mB_ok (hw : MW M) {k : Nat} (hk : k < mK M) : mBW M (mK M - 1 - k) (pX M k) = some (mB M k) ∧ mB M k < mN M := by
  obtain ⟨p1, p2⟩ := pX_ok hw k (by omega)
  obtain ⟨b, hb⟩ := mBW_ex hw (d := mK M - 1 - k) p1 (pX_ne hw hk)
  have e : mB M k = b := by unfold mB; rw [hb]; rfl
  rw [e]
  exact ⟨hb, (mBW_ok hw p1 hb).1⟩
theorem bS_lt {S i n : Nat} (h : S.testBit i = true) (hi : i < n) : bS S i < bS S n := by
  have h1 := bS_mono (S := S) (i := i + 1) n hi
  rw [bS_t h] at h1
  omega
theorem f_lof (hw : MW M) {i : Nat} (hi : (mP M).testBit i = true) : lOf M i = nI (mLo M i) ∧ mLo M i < mN M := by
  have hk : bS (mP M) i < mK M := bS_lt hi (mP_n i hi)
  obtain ⟨a1, a2⟩ := mB_ok hw hk
  refine ⟨?_, a2⟩
  unfold lOf
  rw [hi, if_pos rfl, a1]
  rfl
theorem f_lset0 (hw : MW M) : ∀ m, m ≤ mN M → orS (fun i => if (mP M).testBit i then 1 * 2 ^ mLo M i else 0) m = pX M (bS (mP M) m)
  | 0, _ => rfl
  | m + 1, hm => by
    rw [orS_s, f_lset0 hw m (by omega)]
    cases c : (mP M).testBit m
    · rw [if_neg (by decide), Nat.or_zero, bS_f c]
    · have hk : bS (mP M) m < mK M := bS_lt c (by omega)
      rw [if_pos rfl, bS_t c, pX_s (mB_ok hw hk).1, Nat.one_mul]
      rfl
/-- the least way shares just the held things -/
theorem f_lset (hw : MW M) : orS (fun i => if (mP M).testBit i then 1 * 2 ^ mLo M i else 0) (mN M) = orS (fun i => if (mP M).testBit i then 1 * 2 ^ mH M i else 0) (mN M) := by
  have e : orS (fun i => if (mP M).testBit i then 1 * 2 ^ mH M i else 0) (mN M) = mF M := orS_cg _ fun i _ => by rw [Nat.one_mul]
  rw [f_lset0 hw _ (Nat.le_refl _), e]
  obtain ⟨p1, p2⟩ := pX_ok hw (mK M) (Nat.le_refl _)
  show pX M (mK M) = mF M
  apply Classical.byContradiction
  intro hne
  have h1 := sub_le p1
  have h2 := mF_128 hw
  have := pc_sub0 h2 (by omega) p1 hne
  rw [p2, mF_pc hw] at this
  omega
def lsN (M : zM) : Nat → Nat := smm (fun i => if (mP M).testBit i then mR M i (mLo M i) else 0)
def hN (M : zM) : Nat → Nat := smm (fun i => if (mP M).testBit i then mR M i (mH M i) else 0)
theorem mLi_at {m : Nat} (h : (mP M).testBit m = true) (hm : m < mN M) : mLi M (bS (mP M) m) = m := selF_at h _ hm
theorem f_lsum0 (hw : MW M) : ∀ m, m ≤ mN M → lsN M m + mLS M (mK M - bS (mP M) m) (pX M (bS (mP M) m)) = mLS M (mK M) 0
  | 0, _ => by
    show 0 + mLS M (mK M - 0) 0 = _
    rw [Nat.zero_add, Nat.sub_zero]
  | m + 1, hm => by
    have ih := f_lsum0 hw m (by omega)
    have es : lsN M (m + 1) = lsN M m + (if (mP M).testBit m then mR M m (mLo M m) else 0) := rfl
    rw [es]
    cases c : (mP M).testBit m
    · rw [if_neg (by decide), Nat.add_zero, bS_f c]
      exact ih
    · have hk : bS (mP M) m < mK M := bS_lt c (by omega)
      obtain ⟨b1, b2⟩ := mB_ok hw hk
      obtain ⟨p1, p2⟩ := pX_ok hw (bS (mP M) m) (by omega)
      rw [if_pos rfl, bS_t c, pX_s b1]
      rw [show mK M - bS (mP M) m = (mK M - 1 - bS (mP M) m) + 1 by omega, mLS_s, b1] at ih
      replace ih : lsN M m + (mR M (mLi M (pc (pX M (bS (mP M) m)))) (mB M (bS (mP M) m)) + mLS M (mK M - 1 - bS (mP M) m) (pX M (bS (mP M) m) ||| 2 ^ mB M (bS (mP M) m))) = mLS M (mK M) 0 := ih
      rw [p2, mLi_at c (by omega)] at ih
      rw [show mK M - (bS (mP M) m + 1) = mK M - 1 - bS (mP M) m by omega]
      have e : mLo M m = mB M (bS (mP M) m) := rfl
      rw [e]
      omega
theorem f_lsum (hw : MW M) : lsN M (mN M) = mLS M (mK M) 0 := by
  have h := f_lsum0 hw _ (Nat.le_refl _)
  rw [show mK M - bS (mP M) (mN M) = 0 from Nat.sub_self _] at h
  exact h
theorem f_ltop0 (hw : MW M) : ∀ m, m ≤ mN M → mLS M (mK M) 0 ≤ hN M m + mLS M (mK M - bS (mP M) m) (orS (fun i => if (mP M).testBit i then 2 ^ mH M i else 0) m) ∧ sub (orS (fun i => if (mP M).testBit i then 2 ^ mH M i else 0) m) (mF M) = true ∧ pc (orS (fun i => if (mP M).testBit i then 2 ^ mH M i else 0) m) = bS (mP M) m
  | 0, _ => ⟨by
    show mLS M (mK M) 0 ≤ 0 + mLS M (mK M - 0) 0
    rw [Nat.zero_add, Nat.sub_zero]
    exact Nat.le_refl _, sub_0 _, show pc 0 = 0 by decide⟩
  | m + 1, hm => by
    obtain ⟨i1, i2, i3⟩ := f_ltop0 hw m (by omega)
    have es : hN M (m + 1) = hN M m + (if (mP M).testBit m then mR M m (mH M m) else 0) := rfl
    have eo : orS (fun i => if (mP M).testBit i then 2 ^ mH M i else 0) (m + 1) = orS (fun i => if (mP M).testBit i then 2 ^ mH M i else 0) m ||| (if (mP M).testBit m then 2 ^ mH M m else 0) := rfl
    rw [es, eo]
    obtain ⟨X, hX⟩ : ∃ X, X = orS (fun i => if (mP M).testBit i then 2 ^ mH M i else 0) m := ⟨_, rfl⟩
    have hXno : (mP M).testBit m = true → X.testBit (mH M m) = false := fun c => by
      cases e : X.testBit (mH M m)
      · rfl
      · rw [hX] at e
        obtain ⟨j, j1, j2⟩ := (orS_tb m).mp e
        cases h3 : (mP M).testBit j
        · rw [h3] at j2; simp at j2
        · rw [h3, if_pos rfl, Nat.testBit_two_pow] at j2
          have := hw.2.2.2.2 j m (by omega) (by omega) (of_decide_eq_true j2)
          omega
    rw [← hX] at i1 i2 i3 ⊢
    cases c : (mP M).testBit m
    · rw [if_neg (by decide), if_neg (by decide), Nat.add_zero, Nat.or_zero, bS_f c]
      exact ⟨i1, i2, i3⟩
    · have hXn := hXno c
      have hk : bS (mP M) m < mK M := bS_lt c (by omega)
      have hFm : (mF M).testBit (mH M m) = true := by
        unfold mF mTh
        exact (orS_tb _).mpr ⟨m, by omega, by rw [c, if_pos rfl, Nat.testBit_two_pow_self]⟩
      have hX8 : X < 128 := by have := sub_le i2; have := mF_128 hw; omega
      have hHm := hw.2.2.2.1 m (by omega)
      have h7 := hw.1
      have hpo := (pc_or X hX8 (mH M m) (by omega) hXn).2
      rw [if_pos rfl, if_pos rfl, bS_t c]
      refine ⟨?_, sub_or i2 hFm, by rw [hpo, i3]⟩
      obtain ⟨b, hb⟩ := mBW_ex hw (d := mK M - 1 - bS (mP M) m) i2 (fun z => by rw [z, mF_pc hw] at i3; omega)
      rw [show mK M - bS (mP M) m = (mK M - 1 - bS (mP M) m) + 1 by omega, mLS_s, hb] at i1
      replace i1 : mLS M (mK M) 0 ≤ hN M m + (mR M (mLi M (pc X)) b + mLS M (mK M - 1 - bS (mP M) m) (X ||| 2 ^ b)) := i1
      have hmin := (bT_some _ hb).2.2.1 (mH M m) hHm (by rw [zdf_tb, hFm, hXn]; rfl)
      rw [i3, mLi_at c (by omega)] at hmin i1
      rw [show mK M - (bS (mP M) m + 1) = mK M - 1 - bS (mP M) m by omega]
      omega
theorem f_ltop (hw : MW M) : mLS M (mK M) 0 ≤ hN M (mN M) := by
  have h := (f_ltop0 hw _ (Nat.le_refl _)).1
  rw [show mK M - bS (mP M) (mN M) = 0 from Nat.sub_self _] at h
  exact h
theorem f_hN (hw : MW M) : ∀ m, m ≤ mN M → hN M m ≤ m * 9
  | 0, _ => Nat.zero_le _
  | m + 1, hm => by
    have es : hN M (m + 1) = hN M m + (if (mP M).testBit m then mR M m (mH M m) else 0) := rfl
    have ih := f_hN hw m (by omega)
    have := hw.2.2.1 m _ hm (hw.2.2.2.1 m hm)
    rw [es]
    split <;> omega
theorem f_lN (hw : MW M) : ∀ m, m ≤ mN M → lsN M m ≤ m * 9
  | 0, _ => Nat.zero_le _
  | m + 1, hm => by
    have es : lsN M (m + 1) = lsN M m + (if (mP M).testBit m then mR M m (mLo M m) else 0) := rfl
    have ih := f_lN hw m (by omega)
    rw [es]
    cases c : (mP M).testBit m
    · rw [if_neg (by decide)]; omega
    · rw [if_pos rfl]
      have := hw.2.2.1 m _ hm (f_lof hw c).2
      omega
/-! groups -/
theorem WL_sum {lk0 lk1 lk2 : Nat → Nat → Bool} {line : Nat → Nat} (h0 : ∀ w t, lk0 w t = (lk1 w t || lk2 w t)) (hd : ∀ w t, lk1 w t = true → lk2 w t = false) :
    ∀ d X, (WL lk1 line d X ≤ WL lk0 line d X ∧ WL lk2 line d X ≤ WL lk0 line d X) ∧ (0 < d → WL lk1 line d X + WL lk2 line d X ≤ WL lk0 line d X)
  | 0, X => ⟨⟨Nat.le_refl _, Nat.le_refl _⟩, fun h => absurd h (Nat.lt_irrefl _)⟩
  | d + 1, X => by
    have ih := WL_sum (line := line) h0 hd d
    have key : ∀ n, smm (fun t => if X.testBit t && lk1 (line d) t then WL lk1 line d (X ^^^ 2 ^ t) else 0) n + smm (fun t => if X.testBit t && lk2 (line d) t then WL lk2 line d (X ^^^ 2 ^ t) else 0) n ≤ smm (fun t => if X.testBit t && lk0 (line d) t then WL lk0 line d (X ^^^ 2 ^ t) else 0) n := by
      intro n
      induction n with
      | zero => exact Nat.le_refl _
      | succ n ihn =>
        rw [smm_s, smm_s, smm_s]
        obtain ⟨⟨a1, a2⟩, -⟩ := ih (X ^^^ 2 ^ n)
        rw [h0 (line d) n]
        cases c0 : X.testBit n
        · simpa using ihn
        · cases c1 : lk1 (line d) n
          · cases c2 : lk2 (line d) n
            · simpa using ihn
            · simp only [Bool.true_and, Bool.false_or, if_true, Bool.false_eq_true, if_false, eq_self]
              omega
          · rw [hd _ _ c1]
            simp only [Bool.true_and, Bool.or_false, if_true, Bool.false_eq_true, if_false, eq_self]
            omega
    have k7 := key 7
    have e0 : WL lk0 line (d + 1) X = smm (fun t => if X.testBit t && lk0 (line d) t then WL lk0 line d (X ^^^ 2 ^ t) else 0) 7 := rfl
    have e1 : WL lk1 line (d + 1) X = smm (fun t => if X.testBit t && lk1 (line d) t then WL lk1 line d (X ^^^ 2 ^ t) else 0) 7 := rfl
    have e2 : WL lk2 line (d + 1) X = smm (fun t => if X.testBit t && lk2 (line d) t then WL lk2 line d (X ^^^ 2 ^ t) else 0) 7 := rfl
    rw [e0, e1, e2]
    exact ⟨⟨by omega, by omega⟩, fun _ => k7⟩
theorem f_cdo {S : Nat} (hS : S ≠ 0) (hS8 : S < 128) (h : cdo M S true = true) : cdo M S false = true := by
  have h : decide (0 < wyS M S S 2) = true := h
  show decide (wyS M S S 1 < wyS M S S 0) = true
  rw [decide_eq_true_eq] at h ⊢
  unfold wyS FX at h ⊢
  have hpc : 0 < pc S := by
    rcases Nat.eq_zero_or_pos (pc S) with e | e
    · exact absurd (pc_0 S hS8 e) hS
    · exact e
  by_cases c : (sub S S && decide (pc S ≤ bS S (mN M))) = true
  · rw [if_pos c] at h ⊢
    rw [if_pos c]
    have k := (WL_sum (lk0 := lkM M 0) (lk1 := lkM M 1) (lk2 := lkM M 2) (line := selF S (mN M)) (fun w t => by
      show decide (mR M w t ≤ mR M w (mH M w)) = (decide (mR M w t = mR M w (mH M w)) || decide (mR M w t < mR M w (mH M w)))
      rw [← Bool.decide_or]
      exact decide_eq_decide.mpr (by omega)) (fun w t h => by
      have h : decide (mR M w t = mR M w (mH M w)) = true := h
      rw [decide_eq_true_eq] at h
      show decide (mR M w t < mR M w (mH M w)) = false
      exact decide_eq_false (by omega)) (pc S) S).2 hpc
    omega
  · rw [if_neg c] at h
    omega
theorem f_gle (hw : MW M) : mGr M true ≤ mGr M false := by
  have h7 := hw.p128
  have key : ∀ n, n ≤ 2 ^ mN M - 1 → cnt (fun k => cdo M (1 + k) true) n ≤ cnt (fun k => cdo M (1 + k) false) n := by
    intro n
    induction n with
    | zero => exact fun _ => Nat.le_refl _
    | succ n ih =>
      intro hn
      have := ih (by omega)
      rw [cnt_s, cnt_s]
      cases c : cdo M (1 + n) true
      · show _ + 0 ≤ _
        omega
      · rw [f_cdo (by omega) (by omega) c]
        omega
  exact key _ (Nat.le_refl _)
theorem f_bg {much : Bool} : ∀ n, (bgF M much n = none → cnt (fun k => cdo M (1 + k) much) n = 0 ∧ ∀ k, k < n → cdo M (1 + k) much = false) ∧ (∀ b, bgF M much n = some b → 0 < cnt (fun k => cdo M (1 + k) much) n ∧ cdo M b much = true ∧ ∀ k, k < n → cdo M (1 + k) much = true → pc b ≤ pc (1 + k))
  | 0 => ⟨fun _ => ⟨rfl, fun k hk => absurd hk (Nat.not_lt_zero _)⟩, fun b h => by cases h⟩
  | n + 1 => by
    obtain ⟨a1, a2⟩ := f_bg n
    have e : bgF M much (n + 1) = (match bgF M much n with
      | none => if cdo M (1 + n) much then some (1 + n) else none
      | some b => if decide (pc (1 + n) < pc b) && cdo M (1 + n) much then some (1 + n) else some b) := rfl
    rw [e, cnt_s]
    cases c : bgF M much n with
    | none =>
      obtain ⟨b1, b2⟩ := a1 c
      dsimp only
      cases d : cdo M (1 + n) much
      · rw [if_neg (by decide)]
        refine ⟨fun _ => ⟨b1, fun k hk => ?_⟩, fun b h => by cases h⟩
        rcases Nat.lt_or_eq_of_le (Nat.le_of_lt_succ hk) with h | h
        · exact b2 k h
        · rw [h]; exact d
      · rw [if_pos rfl]
        refine ⟨fun h => (by cases h), fun b h => ?_⟩
        cases h
        refine ⟨(by show 0 < _ + 1; omega), d, fun k hk h => ?_⟩
        rcases Nat.lt_or_eq_of_le (Nat.le_of_lt_succ hk) with h1 | h1
        · rw [b2 k h1] at h; cases h
        · rw [h1]; exact Nat.le_refl _
    | some b0 =>
      obtain ⟨b1, b2, b3⟩ := a2 b0 c
      dsimp only
      by_cases d : (decide (pc (1 + n) < pc b0) && cdo M (1 + n) much) = true
      · rw [if_pos d]
        rw [Bool.and_eq_true, decide_eq_true_eq] at d
        refine ⟨fun h => (by cases h), fun b h => ?_⟩
        cases h
        refine ⟨by omega, d.2, fun k hk h => ?_⟩
        rcases Nat.lt_or_eq_of_le (Nat.le_of_lt_succ hk) with h1 | h1
        · have := b3 k h1 h; omega
        · rw [h1]; exact Nat.le_refl _
      · rw [if_neg d]
        refine ⟨fun h => (by cases h), fun b h => ?_⟩
        cases h
        refine ⟨by omega, b2, fun k hk h => ?_⟩
        rcases Nat.lt_or_eq_of_le (Nat.le_of_lt_succ hk) with h1 | h1
        · exact b3 k h1 h
        · subst h1
          rw [h, Bool.and_true, decide_eq_true_eq] at d
          omega
/-- the two groups that are told: none, or their numbers -/
theorem f_grp (hw : MW M) : ((bgF M false (2 ^ mN M - 1) = none ∧ mGr M false = 0) ∨ ∃ g, bgF M false (2 ^ mN M - 1) = some g ∧ 0 < mGr M false ∧ 1 ≤ g ∧ g < 128) ∧
    ((bgF M true (2 ^ mN M - 1) = none ∧ mGr M true = 0) ∨ ∃ g b, bgF M false (2 ^ mN M - 1) = some g ∧ bgF M true (2 ^ mN M - 1) = some b ∧ 0 < mGr M true ∧ 1 ≤ b ∧ b < 128 ∧ pc g ≤ pc b) := by
  have h7 := hw.p128
  obtain ⟨a1, a2⟩ := f_bg (M := M) (much := false) (2 ^ mN M - 1)
  obtain ⟨b1, b2⟩ := f_bg (M := M) (much := true) (2 ^ mN M - 1)
  constructor
  · cases c : bgF M false (2 ^ mN M - 1) with
    | none => exact Or.inl ⟨rfl, (a1 c).1⟩
    | some g =>
      have h9 := bgF_le _ c
      exact Or.inr ⟨g, rfl, (a2 g c).1, h9.1, by omega⟩
  · cases d : bgF M true (2 ^ mN M - 1) with
    | none => exact Or.inl ⟨rfl, (b1 d).1⟩
    | some b =>
      have h9 := bgF_le _ d
      obtain ⟨d1, d2, -⟩ := b2 b d
      have d3 := f_cdo (by omega) (by omega) d2
      cases c : bgF M false (2 ^ mN M - 1) with
      | none =>
        have := (a1 c).2 (b - 1) (by omega)
        rw [show 1 + (b - 1) = b by omega, d3] at this
        cases this
      | some g =>
        have hm := (a2 g c).2.2 (b - 1) (by omega) (by rw [show 1 + (b - 1) = b by omega]; exact d3)
        rw [show 1 + (b - 1) = b by omega] at hm
        exact Or.inr ⟨g, b, rfl, rfl, d1, h9.1, by omega, hm⟩
end FB
