/-! FACTS: rings, sets -/
section FA
variable {M : zM}
theorem mXX (hw : MW M) : ∃ q r k rr : Nat → Nat,
    (∀ i, (mP M).testBit i = true → (mP M).testBit (q i) = true ∧ tGe (mT M (mP M)) i = nI (mH M (q i)) ∧ tRf (mT M (mP M)) i = nI (r i) ∧ tGf (mT M (mP M)) i = nI (k i) ∧ k i < mRn M ∧ (rSet M (k i)).testBit i = true ∧ rr (k i) = r i) ∧
    (∀ j, j < mRn M → tRr (mT M (mP M)) j = nI (rr j) ∧ rSet M j ≠ 0 ∧ rr j < tRo (mT M (mP M)) ∧ (∀ x, (rSet M j).testBit x = true → (mP M).testBit x = true ∧ k x = j ∧ (rSet M j).testBit (q x) = true) ∧ (∀ x, (rSet M j).testBit x = true → ∃ y, (rSet M j).testBit y = true ∧ q y = x) ∧ (∀ x y, (rSet M j).testBit x = true → q x = x → (rSet M j).testBit y = true → y = x)) ∧
    (∀ j j', j ≤ j' → j' < mRn M → rr j ≤ rr j') ∧
    (∀ i, (mP M).testBit i = true → (∀ j, (mP M).testBit j = true → r i ≤ r j → mR M i (mH M (q i)) ≤ mR M i (mH M j)) ∧ (q i ≠ i → mR M i (mH M (q i)) < mR M i (mH M i))) ∧
    tRo (mT M (mP M)) ≤ mRn M ∧ ∀ i, i < mN M → tFi (mT M (mP M)) i = if (mP M).testBit i then nI (chs (mN M) (mR M) (mH M) (mP M) i) else -9 := by
  obtain ⟨q, r, k, R, rr, ⟨h1, h2, h3, h4, h5⟩, a1, a2, a3, a4⟩ := mTX hw (mP_n (M := M))
  have hR : ∀ j, j < mRn M → rSet M j = R j := fun j hj => by
    obtain ⟨b1, b2, b3, b4, b5, b6, b7⟩ := h3 j hj
    have h128 : R j < 128 := O_7 hw.1 fun x hx => mP_n x (b5 x hx).1
    unfold rSet
    rw [b1, nI_clamp (by omega)]
  refine ⟨q, r, k, rr, fun i hi => ?_, fun j hj => ?_, h4, fun i hi => ⟨fun j hj hr => (h5 i hi).1 j hj fun _ => hr, (h5 i hi).2⟩, a3, a4⟩
  · obtain ⟨b1, b2, b3, b4, b5, b6, b7⟩ := h2 i hi
    exact ⟨b2, b1, b3, b4, b5, by rw [hR _ b5]; exact b6, b7⟩
  · obtain ⟨b1, b2, b3, b4, b5, b6, b7⟩ := h3 j hj
    rw [hR j hj]
    exact ⟨b2, b3, a2 j hj, b5, b6, b7⟩
theorem f_q (hw : MW M) {i q : Nat} (hi : (mP M).testBit i = true) (hq : (mP M).testBit q = true) (h : tGe (mT M (mP M)) i = nI (mH M q)) : gT M (mP M) i = mH M q := by
  have h7 := hw.1
  have b := hw.2.2.2.1 q (mP_n q hq)
  obtain ⟨g1, g2⟩ := gT_ok hw mP_n hi
  exact (nI_eq (by omega) (by omega)).mp (g1.symm.trans h)
/-- nobody present gets something worse; the first choice is the best of all -/
theorem f_get (hw : MW M) {i : Nat} (hi : (mP M).testBit i = true) : mR M i (gT M (mP M) i) ≤ mR M i (mH M i) ∧ chs (mN M) (mR M) (mH M) (mP M) i < mN M ∧ mR M i (mH M (chs (mN M) (mR M) (mH M) (mP M) i)) ≤ mR M i (gT M (mP M) i) := by
  obtain ⟨q, r, k, rr, h1, -, -, h4, -, -⟩ := mXX hw
  obtain ⟨a1, a2, -⟩ := h1 i hi
  rw [f_q hw hi a1 a2]
  have hin := mP_n i hi
  have hc := chF_is (rk := mR M) (hd := mH M) (O := mP M) (i := i) (mN M)
  refine ⟨?_, (chs_in hin hi).1, hc.2.1 (q i) (Nat.zero_le _) (mP_n _ a1) a1⟩
  by_cases e : q i = i
  · rw [e]; exact Nat.le_refl _
  · exact Nat.le_of_lt ((h4 i hi).2 e)
theorem b1_tb {a x : Nat} : (1 * 2 ^ a).testBit x = decide (a = x) := by rw [Nat.one_mul, Nat.testBit_two_pow]
theorem or1_tb {c : Nat → Bool} {f : Nat → Nat} {n x : Nat} : (orS (fun i => if c i then 1 * 2 ^ f i else 0) n).testBit x = true ↔ ∃ i, i < n ∧ c i = true ∧ f i = x := by
  rw [orS_tb]
  constructor
  · rintro ⟨i, h1, h2⟩
    cases h3 : c i
    · rw [h3] at h2; simp at h2
    · rw [h3, if_pos rfl, b1_tb] at h2
      exact ⟨i, h1, h3, of_decide_eq_true h2⟩
  · rintro ⟨i, h1, h2, h3⟩
    exact ⟨i, h1, by rw [h2, if_pos rfl, b1_tb]; exact decide_eq_true h3⟩
theorem orS_perm {S n : Nat} {q h : Nat → Nat} (h1 : ∀ x, S.testBit x = true → x < n ∧ S.testBit (q x) = true) (h2 : ∀ x, S.testBit x = true → ∃ y, S.testBit y = true ∧ q y = x) :
    orS (fun i => if S.testBit i then 1 * 2 ^ h (q i) else 0) n = orS (fun i => if S.testBit i then 1 * 2 ^ h i else 0) n := by
  apply Nat.eq_of_testBit_eq
  intro x
  rw [Bool.eq_iff_iff, or1_tb, or1_tb]
  constructor
  · rintro ⟨i, a1, a2, a3⟩
    exact ⟨q i, (h1 _ (h1 i a2).2).1, (h1 i a2).2, a3⟩
  · rintro ⟨i, a1, a2, a3⟩
    obtain ⟨y, b1, b2⟩ := h2 i a2
    exact ⟨y, (h1 y b1).1, b1, by rw [b2]; exact a3⟩
theorem orS_cg {f g : Nat → Nat} : ∀ n, (∀ i, i < n → f i = g i) → orS f n = orS g n
  | 0, _ => rfl
  | n + 1, h => by rw [orS_s, orS_s, orS_cg n (fun i hi => h i (by omega)), h n (by omega)]
/-- what those of a ring get are their things -/
theorem f_ring (hw : MW M) {j : Nat} (hj : j < mRn M) : orS (fun i => if (rSet M j).testBit i then 1 * 2 ^ gT M (mP M) i else 0) (mN M) = orS (fun i => if (rSet M j).testBit i then 1 * 2 ^ mH M i else 0) (mN M) := by
  obtain ⟨q, r, k, rr, h1, h2, -⟩ := mXX hw
  obtain ⟨-, -, -, b4, b5, -⟩ := h2 j hj
  rw [← orS_perm (q := q) (h := mH M) (fun x hx => ⟨mP_n x (b4 x hx).1, (b4 x hx).2.2⟩) b5]
  refine orS_cg _ fun i _ => ?_
  by_cases c : (rSet M j).testBit i = true
  · obtain ⟨c1, -, -⟩ := b4 i c
    obtain ⟨a1, a2, -⟩ := h1 i c1
    rw [if_pos c, if_pos c, f_q hw c1 a1 a2]
  · rw [if_neg c, if_neg c]
theorem f_got (hw : MW M) : orS (fun i => if (mP M).testBit i then 1 * 2 ^ gT M (mP M) i else 0) (mN M) = orS (fun i => if (mP M).testBit i then 1 * 2 ^ mH M i else 0) (mN M) := by
  obtain ⟨q, r, k, rr, h1, h2, -⟩ := mXX hw
  rw [← orS_perm (q := q) (h := mH M) (fun x hx => ⟨mP_n x hx, (h1 x hx).1⟩) (fun x hx => by
    obtain ⟨-, -, -, -, a5, a6, -⟩ := h1 x hx
    obtain ⟨-, -, -, b4, b5, -⟩ := h2 _ a5
    obtain ⟨y, y1, y2⟩ := b5 x a6
    exact ⟨y, (b4 y y1).1, y2⟩)]
  refine orS_cg _ fun i _ => ?_
  by_cases c : (mP M).testBit i = true
  · obtain ⟨a1, a2, -⟩ := h1 i c
    rw [if_pos c, if_pos c, f_q hw c a1 a2]
  · rw [if_neg c, if_neg c]
theorem f_all (hw : MW M) : orS (fun i => 1 * 2 ^ mH M i) (mN M) = 2 ^ mN M - 1 := by
  apply Nat.eq_of_testBit_eq
  intro x
  rw [Nat.testBit_two_pow_sub_one, Bool.eq_iff_iff, decide_eq_true_eq, orS_tb]
  constructor
  · rintro ⟨i, h1, h2⟩
    rw [b1_tb] at h2
    rw [← of_decide_eq_true h2]
    exact hw.2.2.2.1 i h1
  · intro hx
    obtain ⟨i, hi, e⟩ := hw.pm.sur hx
    exact ⟨i, hi, by rw [b1_tb]; exact decide_eq_true e⟩
theorem bS_pc {S : Nat} (hS : S < 128) : bS S 7 = pc S := by
  show 0 + (S.testBit 0).toNat + (S.testBit 1).toNat + (S.testBit 2).toNat + (S.testBit 3).toNat + (S.testBit 4).toNat + (S.testBit 5).toNat + (S.testBit 6).toNat = pc S
  rw [Nat.zero_add]
  rfl
theorem bS_top {S n : Nat} (h : ∀ x, S.testBit x = true → x < n) : ∀ m, n ≤ m → bS S m = bS S n
  | 0, hm => by rw [show n = 0 by omega]
  | m + 1, hm => by
    rcases Nat.lt_or_ge m n with h1 | h1
    · rw [show n = m + 1 by omega]
    · have e : S.testBit m = false := by
        cases e : S.testBit m
        · rfl
        · have := h m e; omega
      rw [bS_f e, bS_top h m h1]
theorem f_pc (hw : MW M) : pc (mP M) = bS (mP M) (mN M) := by
  rw [← bS_pc (mP_128 hw), bS_top (mP_n (M := M)) 7 hw.1]
theorem f_ones (hw : MW M) : pc (orS (fun i => if (mP M).testBit i then 1 * 2 ^ mH M i else 0) (mN M)) = pc (mP M) := by
  have h1 := mF_pc hw
  have e : orS (fun i => if (mP M).testBit i then 1 * 2 ^ mH M i else 0) (mN M) = mF M := orS_cg _ fun i _ => by rw [Nat.one_mul]
  rw [e, h1, f_pc hw]
  rfl
theorem f_held128 (hw : MW M) {c : Nat → Bool} : orS (fun i => if c i then 1 * 2 ^ mH M i else 0) (mN M) < 128 := orS_lt (k := 7) _ fun i hi => by
  have := hw.2.2.2.1 i hi
  have h7 := hw.1
  split
  · rw [Nat.one_mul]
    exact Nat.pow_lt_pow_right (by omega) (by omega)
  · decide
/-- rings: apart, together all, in the order of their rounds -/
theorem f_dis (hw : MW M) {k : Nat} (hk : k < mRn M) : rSet M k &&& orS (rSet M) k = 0 := tb_and0 fun x h1 h2 => by
  obtain ⟨q, r, kk, rr, -, a2, -⟩ := mXX hw
  obtain ⟨j, j1, j2⟩ := (orS_tb k).mp h2
  have e1 := ((a2 k hk).2.2.2.1 x h1).2.1
  have e2 := ((a2 j (by omega)).2.2.2.1 x j2).2.1
  omega
theorem f_allr (hw : MW M) : orS (rSet M) (mRn M) = mP M := by
  obtain ⟨q, r, kk, rr, a1, a2, -⟩ := mXX hw
  apply Nat.eq_of_testBit_eq
  intro x
  rw [Bool.eq_iff_iff, orS_tb]
  constructor
  · rintro ⟨j, j1, j2⟩
    exact ((a2 j j1).2.2.2.1 x j2).1
  · intro hx
    exact ⟨kk x, (a1 x hx).2.2.2.2.1, (a1 x hx).2.2.2.2.2.1⟩
theorem f_orr (hw : MW M) {k : Nat} (hk : k ≤ mRn M) : orS (rSet M) k < 128 := orS_lt (k := 7) _ fun j hj => (rSet_ok hw (show j < mRn M by omega)).2.2.2
/-- what a ring gains -/
def gN (M : zM) (R : Nat) : Nat → Nat := smm (fun i => if R.testBit i then mR M i (mH M i) - mR M i (gT M (mP M) i) else 0)
theorem f_gS (hw : MW M) {R : Nat} (hR : ∀ x, R.testBit x = true → (mP M).testBit x = true) : ∀ n, n ≤ mN M → gS M R n = nI (gN M R n) ∧ gN M R n ≤ n * 9
  | 0, _ => ⟨nI_0.symm, Nat.zero_le _⟩
  | n + 1, hn => by
    obtain ⟨a1, a2⟩ := f_gS hw hR n (by omega)
    have es : gS M R (n + 1) = gS M R n + (if R.testBit n then nI (mR M n (mH M n)) - nI (mR M n (gT M (mP M) n)) else 0) := rfl
    have en : gN M R (n + 1) = gN M R n + (if R.testBit n then mR M n (mH M n) - mR M n (gT M (mP M) n) else 0) := rfl
    rw [es, en, a1]
    cases c : R.testBit n
    · rw [if_neg (by decide), if_neg (by decide), Int32.add_zero, Nat.add_zero]
      exact ⟨rfl, by omega⟩
    · have h1 := (f_get hw (hR n c)).1
      have h2 := hw.2.2.1 n _ hn (hw.2.2.2.1 n hn)
      rw [if_pos rfl, if_pos rfl, pk_sub h1, nI_add]
      exact ⟨rfl, by omega⟩
end FA
