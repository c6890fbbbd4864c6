/-! FACTS: actions -/
section FC9
variable {M : zM}
/-! behind the trading everybody gets what it holds -/
theorem ring_fix {p r : Nat → Nat} {O i : Nat} (hp : ∀ x, O.testBit x = true → O.testBit (p x) = true) (hr : ∀ x, O.testBit x = true → p x = x ∨ r (p x) < r x) (hi : O.testBit i = true) (h : rgF p i ≠ 0) : p i = i := by
  obtain ⟨-, h2, -, -⟩ := rgF_ok h
  have key : ∀ a, O.testBit (itr p (a + 1) i) = true ∧ r (itr p (a + 1) i) ≤ r (p i) := by
    intro a
    induction a with
    | zero => exact ⟨hp i hi, Nat.le_refl _⟩
    | succ a ih =>
      refine ⟨hp _ ih.1, ?_⟩
      show r (p (itr p (a + 1) i)) ≤ _
      rcases hr _ ih.1 with e | e
      · rw [e]; exact ih.2
      · omega
  have h9 := (key (rgK p i)).2
  rw [h2] at h9
  rcases hr i hi with e | e
  · exact e
  · omega
theorem rgF_fx {p : Nat → Nat} {x : Nat} (e : p x = x) : rgF p x ≠ 0 := by
  have hk : rgK p x = 0 := rgK_at (fun a ha => absurd ha (Nat.not_lt_zero _)) e (by omega)
  intro z
  have : (rgF p x).testBit x = true := by
    unfold rgF
    rw [hk, if_pos (by omega), mtS_tb]
    exact ⟨0, by omega, rfl⟩
  rw [z] at this
  simp at this
theorem tCl_in {hd p : Nat → Nat} {O : Nat} {T : zT} {j : Nat} (h1 : O.testBit j = true) (h2 : rgF p j ≠ 0) : ∀ m, j < m → (tCl hd p O T m).2.testBit j = true
  | 0, h => absurd h (Nat.not_lt_zero _)
  | m + 1, h => by
    have e : tCl hd p O T (m + 1) = if O.testBit m && (!(tCl hd p O T m).2.testBit m && decide (rgF p m ≠ 0)) then (tAdd hd p (tCl hd p O T m).1 (rgF p m), (tCl hd p O T m).2 ||| rgF p m) else tCl hd p O T m := rfl
    rw [e]
    by_cases c : (O.testBit m && (!(tCl hd p O T m).2.testBit m && decide (rgF p m ≠ 0))) = true
    · rw [if_pos c]
      rcases Nat.lt_or_eq_of_le (Nat.le_of_lt_succ h) with h3 | h3
      · exact ori.mpr (Or.inl (tCl_in h1 h2 m h3))
      · rw [h3]
        rw [h3] at h2
        exact ori.mpr (Or.inr (rgF_self h2))
    · rw [if_neg c]
      rcases Nat.lt_or_eq_of_le (Nat.le_of_lt_succ h) with h3 | h3
      · exact tCl_in h1 h2 m h3
      · subst h3
        simp only [Bool.and_eq_true, Bool.not_eq_true', decide_eq_true_eq] at c
        cases e2 : (tCl hd p O T j).2.testBit j
        · exact absurd ⟨h1, e2, h2⟩ c
        · rfl
theorem tCl_ge {hd p : Nat → Nat} {O : Nat} {T : zT} (hT : ∀ x, tGe T x = -9 ∨ tGe T x = nI (hd x)) (hp : ∀ i, O.testBit i = true → rgF p i ≠ 0 → p i = i) : ∀ m x, tGe (tCl hd p O T m).1 x = -9 ∨ tGe (tCl hd p O T m).1 x = nI (hd x)
  | 0, x => hT x
  | m + 1, x => by
    have ih := tCl_ge (O := O) hT hp m x
    have e : tCl hd p O T (m + 1) = if O.testBit m && (!(tCl hd p O T m).2.testBit m && decide (rgF p m ≠ 0)) then (tAdd hd p (tCl hd p O T m).1 (rgF p m), (tCl hd p O T m).2 ||| rgF p m) else tCl hd p O T m := rfl
    rw [e]
    by_cases c : (O.testBit m && (!(tCl hd p O T m).2.testBit m && decide (rgF p m ≠ 0))) = true
    · rw [if_pos c]
      simp only [Bool.and_eq_true, Bool.not_eq_true', decide_eq_true_eq] at c
      show (if (rgF p m).testBit x then nI (hd (p x)) else tGe (tCl hd p O T m).1 x) = -9 ∨ (if (rgF p m).testBit x then nI (hd (p x)) else tGe (tCl hd p O T m).1 x) = nI (hd x)
      by_cases d : (rgF p m).testBit x = true
      · have e1 := hp m c.1 c.2.2
        have e2 := rgF_se c.2.2 (rgF_self c.2.2) e1 d
        rw [if_pos d, e2, e1]
        exact Or.inr rfl
      · rw [if_neg d]
        exact ih
    · rw [if_neg c]
      exact ih
theorem f_still (hw : MW M) {i : Nat} (hi : (mP M).testBit i = true) : gT (mTk M (mP M) (gT M (mP M))) (mP (mTk M (mP M) (gT M (mP M)))) i = mH (mTk M (mP M) (gT M (mP M))) i := by
  obtain ⟨q, r, k, rr, h1, h2, h3, h4, h5, h6⟩ := mXX hw
  have hw' := hw.tkP
  obtain ⟨M', hM'⟩ : ∃ M', M' = mTk M (mP M) (gT M (mP M)) := ⟨_, rfl⟩
  have eN : mN M' = mN M := by rw [hM']; rfl
  have eR : mR M' = mR M := by rw [hM']; rfl
  have eP : mP M' = mP M := by rw [hM']; rfl
  have eH : ∀ x, (mP M).testBit x = true → mH M' x = mH M (q x) := fun x hx => by
    obtain ⟨a1, a2, -⟩ := h1 x hx
    rw [hM']
    show (if (mP M).testBit x then gT M (mP M) x else mH M x) = _
    rw [if_pos hx, f_q hw hx a1 a2]
  rw [← hM'] at hw' ⊢
  have hrq : ∀ x, (mP M).testBit x = true → r (q x) = r x := fun x hx => by
    obtain ⟨a1, a2, a3, a4, a5, a6, a7⟩ := h1 x hx
    obtain ⟨b1, b2, b3, b4, b5, b6⟩ := h2 _ a5
    obtain ⟨c1, c2, c3⟩ := b4 x a6
    obtain ⟨d1, d2, d3⟩ := b4 (q x) c3
    have := (h1 (q x) d1).2.2.2.2.2.2
    rw [d2] at this
    omega
  have key : ∀ s, (∀ x, (tRs (mN M) (mR M) (mH M') (mP M) s).2.testBit x = true → (mP M).testBit x = true ∧ s ≤ r x) ∧ ∀ x, tGe (tRs (mN M) (mR M) (mH M') (mP M) s).1 x = -9 ∨ tGe (tRs (mN M) (mR M) (mH M') (mP M) s).1 x = nI (mH M' x) := by
    intro s
    induction s with
    | zero => exact ⟨fun x hx => ⟨hx, Nat.zero_le _⟩, fun x => Or.inl rfl⟩
    | succ s ih =>
      have e : tRs (mN M) (mR M) (mH M') (mP M) (s + 1) = tRd (mN M) (mR M) (mH M') (tRs (mN M) (mR M) (mH M') (mP M) s) := rfl
      rw [e]
      generalize tRs (mN M) (mR M) (mH M') (mP M) s = Z at ih ⊢
      obtain ⟨i1, i2⟩ := ih
      by_cases c : Z.2 = 0
      · have e2 : tRd (mN M) (mR M) (mH M') Z = Z := if_pos c
        rw [e2]
        refine ⟨fun x hx => ?_, i2⟩
        rw [c] at hx
        simp at hx
      · obtain ⟨p, hp⟩ : ∃ p, p = chs (mN M) (mR M) (mH M') Z.2 := ⟨_, rfl⟩
        have e2 : tRd (mN M) (mR M) (mH M') Z = (((tCl (mH M') p Z.2 (tFs p Z.2 Z.1) (mN M)).1.1, (tCl (mH M') p Z.2 (tFs p Z.2 Z.1) (mN M)).1.2.1 + 1, (tCl (mH M') p Z.2 (tFs p Z.2 Z.1) (mN M)).1.2.2), zdf Z.2 (tCl (mH M') p Z.2 (tFs p Z.2 Z.1) (mN M)).2) := by
          rw [hp]
          exact if_neg c
        rw [e2]
        have hZn : ∀ x, Z.2.testBit x = true → x < mN M := fun x hx => mP_n x (i1 x hx).1
        have hpc : ∀ x, Z.2.testBit x = true → Z.2.testBit (p x) = true := fun x hx => by rw [hp]; exact (chs_in (hZn x hx) hx).2
        have P1 : ∀ x, Z.2.testBit x = true → p x = x ∨ r (p x) < r x := fun x hx => by
          by_cases d : p x = x
          · exact Or.inl d
          · refine Or.inr ?_
            have hc := chF_is (rk := mR M) (hd := mH M') (O := Z.2) (i := x) (mN M)
            have ep : p x = chF (mR M) (mH M') Z.2 x (mN M) := by rw [hp]; rfl
            have hlt := hc.2.2.2.1 (by rw [← ep]; exact d)
            rw [← ep] at hlt
            have hx1 := (i1 x hx).1
            have hy1 := (i1 _ (hpc x hx)).1
            rw [eH x hx1, eH _ hy1] at hlt
            rcases Nat.lt_or_ge (r (p x)) (r x) with h | h
            · exact h
            · have h9 := (h4 x hx1).1 (q (p x)) (h1 _ hy1).1 (by rw [hrq _ hy1]; exact h)
              omega
        have hfix : ∀ i, Z.2.testBit i = true → rgF p i ≠ 0 → p i = i := fun i hi h => ring_fix hpc P1 hi h
        refine ⟨fun x hx => ?_, fun x => ?_⟩
        · have hx : (zdf Z.2 (tCl (mH M') p Z.2 (tFs p Z.2 Z.1) (mN M)).2).testBit x = true := hx
          rw [zdf_tb, Bool.and_eq_true, Bool.not_eq_true'] at hx
          obtain ⟨x1, x2⟩ := hx
          obtain ⟨y1, y2⟩ := i1 x x1
          refine ⟨y1, ?_⟩
          rcases Nat.lt_or_eq_of_le y2 with h | h
          · exact h
          · have hpx : p x = x := by
              rcases P1 x x1 with e9 | e9
              · exact e9
              · have := (i1 _ (hpc x x1)).2
                omega
            rw [tCl_in x1 (rgF_fx hpx) (mN M) (hZn x x1)] at x2
            cases x2
        · exact tCl_ge (T := tFs p Z.2 Z.1) i2 hfix (mN M) x
  have h9 := (key 7).2 i
  have hi' : (mP M').testBit i = true := by rw [eP]; exact hi
  obtain ⟨g1, g2⟩ := gT_ok hw' mP_n hi'
  have e9 : tGe (mT M' (mP M')) i = tGe (tRs (mN M) (mR M) (mH M') (mP M) 7).1 i := by rw [eP]; unfold mT tF; rw [eN, eR]
  have b := hw'.2.2.2.1 i (mP_n i hi')
  have h7 := hw'.1
  rw [← e9, g1] at h9
  rcases h9 with h | h
  · exact absurd h (dg_9 _ (by omega))
  · exact (nI_eq (by omega) (by omega)).mp h
theorem f_mov0 (hw : MW M) : mMov (mTk M (mP M) (gT M (mP M))) = 0 := by
  unfold mMov
  have key : ∀ n, cnt (fun i => (mP (mTk M (mP M) (gT M (mP M)))).testBit i && !decide (gT (mTk M (mP M) (gT M (mP M))) (mP (mTk M (mP M) (gT M (mP M)))) i = mH (mTk M (mP M) (gT M (mP M))) i)) n = 0 := by
    intro n
    induction n with
    | zero => rfl
    | succ n ih =>
      rw [cnt_s, ih]
      cases c : (mP (mTk M (mP M) (gT M (mP M)))).testBit n
      · rfl
      · have c' : (mP M).testBit n = true := c
        rw [decide_eq_true (f_still hw c')]
        rfl
  exact key _
theorem f_trd : cnt (fun i => (mP M).testBit i && !decide (mH M i = gT M (mP M) i)) (mN M) = mMov M := by
  unfold mMov
  refine cnt_cg _ fun i _ => ?_
  rw [decide_eq_decide.mpr (eq_comm (a := mH M i) (b := gT M (mP M) i))]
/-! a ring done -/
theorem pc_one_b : ∀ R, R < 128 → (decide (R = 0) || ((List.range 7).any fun x => (List.range 7).any fun y => R.testBit x && R.testBit y && !decide (y = x)) || decide (pc R = 1)) = true := by decide +kernel
theorem one_pc_b : ∀ R, R < 128 → ∀ x, x < 7 → ∀ y, y < 7 → (!(decide (pc R = 1) && R.testBit x && R.testBit y) || decide (y = x)) = true := by decide +kernel
theorem pc_one (R : Nat) (hR : R < 128) (h0 : R ≠ 0) (h : ∀ x, x < 7 → ∀ y, y < 7 → R.testBit x = true → R.testBit y = true → y = x) : pc R = 1 := by
  have w := pc_one_b R hR
  rw [Bool.or_eq_true, Bool.or_eq_true, decide_eq_true_eq, decide_eq_true_eq] at w
  rcases w with (z | z) | z
  · exact absurd z h0
  · obtain ⟨x, hx, z⟩ := List.any_eq_true.mp z
    obtain ⟨y, hy, z⟩ := List.any_eq_true.mp z
    rw [Bool.and_eq_true, Bool.and_eq_true, Bool.not_eq_true', decide_eq_false_iff_not] at z
    exact absurd (h x (List.mem_range.mp hx) y (List.mem_range.mp hy) z.1.1 z.1.2) z.2
  · exact z
theorem one_pc (R : Nat) (hR : R < 128) (h : pc R = 1) (x : Nat) (hx : x < 7) (y : Nat) (hy : y < 7) (h1 : R.testBit x = true) (h2 : R.testBit y = true) : y = x := by
  have w := one_pc_b R hR x hx y hy
  rw [decide_eq_true h, h1, h2] at w
  exact of_decide_eq_true w
theorem f_drg (hw : MW M) {j : Nat} (hj : j < mRn M) : cnt (fun i => (rSet M j).testBit i && !decide (mH M i = gT M (mP M) i)) (mN M) = if pc (rSet M j) = 1 then 0 else pc (rSet M j) := by
  obtain ⟨q, r, k, rr, h1, h2, -⟩ := mXX hw
  obtain ⟨b1, b2, b3, b4, b5, b6⟩ := h2 j hj
  have h128 := (rSet_ok hw hj).2.2.2
  have h7 := hw.1
  have hin : ∀ x, (rSet M j).testBit x = true → x < mN M := fun x hx => mP_n x (b4 x hx).1
  have hg : ∀ x, (rSet M j).testBit x = true → (mH M x = gT M (mP M) x ↔ q x = x) := fun x hx => by
    obtain ⟨c1, c2, c3⟩ := b4 x hx
    obtain ⟨a1, a2, -⟩ := h1 x c1
    rw [f_q hw c1 a1 a2]
    constructor
    · intro e
      exact (hw.2.2.2.2 x (q x) (mP_n x c1) (mP_n _ a1) e).symm
    · intro e
      rw [e]
  by_cases c : pc (rSet M j) = 1
  · rw [if_pos c]
    have hfx : ∀ x, (rSet M j).testBit x = true → q x = x := fun x hx =>
      one_pc _ h128 c x (by have := hin x hx; omega) (q x) (by have := hin _ (b4 x hx).2.2; omega) hx (b4 x hx).2.2
    have key : ∀ n, cnt (fun i => (rSet M j).testBit i && !decide (mH M i = gT M (mP M) i)) n = 0 := by
      intro n
      induction n with
      | zero => rfl
      | succ n ih =>
        rw [cnt_s, ih]
        cases d : (rSet M j).testBit n
        · rfl
        · rw [decide_eq_true ((hg n d).mpr (hfx n d))]
          rfl
    exact key _
  · rw [if_neg c]
    have hnf : ∀ x, (rSet M j).testBit x = true → q x ≠ x := fun x hx e => by
      refine c (pc_one _ h128 b2 fun a _ b _ ha hb => ?_)
      rw [b6 x a hx e ha, b6 x b hx e hb]
    rw [← bS_pc h128, bS_top hin 7 h7]
    refine cnt_cg _ fun i _ => ?_
    cases d : (rSet M j).testBit i
    · rfl
    · rw [decide_eq_false (fun e => hnf i d ((hg i d).mp e))]
      rfl
/-! an exchange -/
theorem ag_sym {i j : Nat} (h : mAg M i j = 0) : mAg M j i = 0 := by
  obtain ⟨h1, h2, h3, h4, h5, h6⟩ := ag_0 h
  unfold mAg
  rw [if_neg (fun e => h1 e.symm), h3, if_neg (by decide), h2, if_neg (by decide), if_neg (by omega), if_neg (by omega), if_neg (by omega)]
theorem qex_no {H : Nat → Nat} {d w t : Nat} {q : zQ} (h0 : ∀ j, j < q.1 → q.2.1 j w ≠ t) : ∀ k, (∀ k', k' < k → prV M H k' = true → sw H (k' / mN M) (k' % mN M) w ≠ t) → ∀ j, j < (qex M H d q k).1 → (qex M H d q k).2.1 j w ≠ t
  | 0, _ => h0
  | k + 1, h => by
    have ih := qex_no (d := d) h0 k fun k' hk => h k' (by omega)
    have e : qex M H d q (k + 1) = if prV M H k then qad (mN M) (qex M H d q k) (sw H (k / mN M) (k % mN M)) d else qex M H d q k := rfl
    rw [e]
    by_cases c : prV M H k = true
    · rw [if_pos c]
      unfold qad
      split
      · exact ih
      · intro j hj
        have hj : j < (qex M H d q k).1 + 1 := hj
        show fup (qex M H d q k).2.1 (qex M H d q k).1 (sw H (k / mN M) (k % mN M)) j w ≠ t
        by_cases e2 : j = (qex M H d q k).1
        · rw [e2, fup_s]
          exact h k (by omega) c
        · rw [fup_o e2]
          exact ih j (by omega)
    · rw [if_neg c]
      exact ih
theorem ex_first {p : Nat → Prop} : ∀ n k, k < n → p k → ∃ k, k < n ∧ p k ∧ ∀ k', k' < k → ¬ p k'
  | 0, k, h, _ => absurd h (Nat.not_lt_zero _)
  | n + 1, k, h, hp => by
    by_cases c : ∃ k', k' < n ∧ p k'
    · obtain ⟨k', c1, c2⟩ := c
      obtain ⟨k0, a1, a2, a3⟩ := ex_first n k' c1 c2
      exact ⟨k0, by omega, a2, a3⟩
    · have hk : k = n := by
        rcases Nat.lt_or_eq_of_le (Nat.le_of_lt_succ h) with h1 | h1
        · exact absurd ⟨k, h1, hp⟩ c
        · exact h1
      subst hk
      exact ⟨k, by omega, hp, fun k' hk' hp' => c ⟨k', hk', hp'⟩⟩
theorem f_few0 (hw : MW M) {a b w t : Nat} (ha : a < mN M) (hb : b < mN M) (hwn : w < mN M) (hab : a < b) (h : mAg M a b = 0) (hne : mH M w ≠ t) (hs : sw (mH M) a b w = t) : fwA M w t = nI 1 := by
  have hn : 0 < mN M := by omega
  have hk : a * mN M + b < mN M * mN M := by
    have h1 : (a + 1) * mN M ≤ mN M * mN M := Nat.mul_le_mul_right _ ha
    rw [Nat.succ_mul] at h1
    omega
  have hd : (a * mN M + b) / mN M = a := by
    rw [Nat.mul_comm, Nat.mul_add_div hn, Nat.div_eq_of_lt hb, Nat.add_zero]
  have hm : (a * mN M + b) % mN M = b := by
    rw [Nat.mul_comm, Nat.mul_add_mod, Nat.mod_eq_of_lt hb]
  have hpr : prV M (mH M) (a * mN M + b) = true := by
    unfold prV
    rw [hd, hm, decide_eq_true hab]
    exact decide_eq_true h
  obtain ⟨k0, c1, ⟨c2, c3⟩, c4⟩ := ex_first (p := fun k => prV M (mH M) k = true ∧ sw (mH M) (k / mN M) (k % mN M) w = t) (mN M * mN M) _ hk ⟨hpr, by rw [hd, hm]; exact hs⟩
  have h0 : (0 : Nat) < (qst M 0).1 := Nat.one_pos
  have key := qex_no (M := M) (H := mH M) (d := 0 + 1) (w := w) (t := t) (q := qst M 0) (fun j hj => hne) k0 (fun k' hk' h1 h2 => c4 k' hk' ⟨h1, h2⟩)
  exact fw_child (K := 0) hw hwn h0 c1 key c2 c3
theorem f_few (hw : MW M) {i j : Nat} (hi : i < mN M) (hj : j < mN M) (h : mAg M i j = 0) : fewS M i (mH M j) = nI 1 := by
  obtain ⟨h1, h2, h3, -⟩ := ag_0 h
  unfold fewS
  rw [h2, if_neg (by decide)]
  have hne : mH M i ≠ mH M j := fun e => h1 (hw.2.2.2.2 i j hi hj e)
  rcases Nat.lt_or_ge i j with c | c
  · refine f_few0 hw hi hj hi c h hne ?_
    show (if i = j then mH M i else if i = i then mH M j else mH M i) = mH M j
    rw [if_neg (by omega), if_pos rfl]
  · refine f_few0 hw hj hi hi (by omega) (ag_sym h) hne ?_
    show (if i = i then mH M j else if i = j then mH M i else mH M i) = mH M j
    rw [if_pos rfl]
theorem f_xsum (hw : MW M) {i j : Nat} (hi : i < mN M) (hj : j < mN M) (h : mAg M i j = 0) : mSum (mSw M i j) < mSum M := by
  have h1 := sw_sum (H := mH M) hi hj h
  exact h1
theorem f_sum (hw : MW M) : mSum M ≤ 63 := by
  have h1 := smm_lb (f := fun i => mR M i (mH M i)) (c := 9) (mN M) (fun i hi => hw.2.2.1 i _ hi (hw.2.2.2.1 i hi))
  have h7 := hw.1
  unfold mSum
  omega
/-! home, leaving -/
theorem pc_all7 : ∀ n, n ≤ 7 → pc (2 ^ n - 1) = n := by decide
theorem f_hpc (hw : MW M) : pc (mP (mHo M)) = mN M := by
  have e : mP (mHo M) = 2 ^ mN M - 1 := by
    apply Nat.eq_of_testBit_eq
    intro x
    rw [mP_tb, Nat.testBit_two_pow_sub_one]
    show (decide (x < mN M) && !(0 : Nat).testBit x) = _
    rw [Nat.zero_testBit]
    simp
  rw [e, pc_all7 _ hw.1]
theorem f_hown : mOwn (mHo M) = mN M := by
  unfold mOwn
  exact cnt_all _ fun i _ => decide_eq_true rfl
theorem f_lv {i : Nat} : (mL (mLv M i)).testBit i = true := by
  show (mL M ||| 2 ^ i).testBit i = true
  rw [Nat.testBit_or, Nat.testBit_two_pow_self, Bool.or_true]
end FC9
