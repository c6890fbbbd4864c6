/-! THE TRADING, as both sides find it: choices, rings, rounds -/
def chF (rk : Nat → Nat → Nat) (hd : Nat → Nat) (O i : Nat) : Nat → Nat
  | 0 => i
  | j + 1 => if O.testBit j && decide (rk i (hd j) < rk i (hd (chF rk hd O i j))) then j else chF rk hd O i j
def chs (n : Nat) (rk : Nat → Nat → Nat) (hd : Nat → Nat) (O i : Nat) : Nat := chF rk hd O i n
/-- b is the choice of i among the open ones from lo on, below n -/
def isCh (n : Nat) (rk : Nat → Nat → Nat) (hd : Nat → Nat) (O i lo b : Nat) : Prop :=
  (b = i ∨ (lo ≤ b ∧ b < n ∧ O.testBit b = true)) ∧ (∀ j, lo ≤ j → j < n → O.testBit j = true → rk i (hd b) ≤ rk i (hd j)) ∧ rk i (hd b) ≤ rk i (hd i) ∧ (b ≠ i → rk i (hd b) < rk i (hd i)) ∧ (b ≠ i → ∀ j, lo ≤ j → j < b → O.testBit j = true → rk i (hd b) < rk i (hd j))
theorem isCh_u {n : Nat} {rk : Nat → Nat → Nat} {hd : Nat → Nat} {O i b c : Nat} (h : isCh n rk hd O i 0 b) (h' : isCh n rk hd O i 0 c) : b = c := by
  obtain ⟨a1, a2, a3, a4, a5⟩ := h
  obtain ⟨b1, b2, b3, b4, b5⟩ := h'
  by_cases e1 : b = i
  · by_cases e2 : c = i
    · omega
    · have c1 := b4 e2
      have c2 := b1.resolve_left e2
      have := a2 c (by omega) c2.2.1 c2.2.2
      rw [e1] at this
      omega
  · have c1 := a4 e1
    have c2 := a1.resolve_left e1
    by_cases e2 : c = i
    · have := b2 b (by omega) c2.2.1 c2.2.2
      rw [e2] at this
      omega
    · have d2 := b1.resolve_left e2
      have x1 := a2 c (by omega) d2.2.1 d2.2.2
      have x2 := b2 b (by omega) c2.2.1 c2.2.2
      rcases Nat.lt_trichotomy b c with h | h | h
      · have := b5 e2 b (by omega) h c2.2.2
        omega
      · exact h
      · have := a5 e1 c (by omega) h d2.2.2
        omega
theorem chF_is {rk : Nat → Nat → Nat} {hd : Nat → Nat} {O i : Nat} : ∀ n, isCh n rk hd O i 0 (chF rk hd O i n)
  | 0 => ⟨Or.inl rfl, fun j _ hj => absurd hj (Nat.not_lt_zero _), Nat.le_refl _, fun h => absurd rfl h, fun h => absurd rfl h⟩
  | n + 1 => by
    obtain ⟨a1, a2, a3, a4, a5⟩ := chF_is (rk := rk) (hd := hd) (O := O) (i := i) n
    have e : chF rk hd O i (n + 1) = if O.testBit n && decide (rk i (hd n) < rk i (hd (chF rk hd O i n))) then n else chF rk hd O i n := rfl
    rw [e]
    by_cases c : (O.testBit n && decide (rk i (hd n) < rk i (hd (chF rk hd O i n)))) = true
    · rw [if_pos c]
      rw [Bool.and_eq_true, decide_eq_true_eq] at c
      obtain ⟨c1, c2⟩ := c
      refine ⟨Or.inr ⟨Nat.zero_le _, by omega, c1⟩, fun j h1 h2 h3 => ?_, by omega, fun _ => by omega, fun _ j h1 h2 h3 => ?_⟩
      · rcases Nat.lt_or_eq_of_le (Nat.le_of_lt_succ h2) with h | h
        · have := a2 j h1 h h3
          omega
        · rw [h]; exact Nat.le_refl _
      · have := a2 j h1 h2 h3
        omega
    · rw [if_neg c]
      refine ⟨a1.imp id (fun h => ⟨h.1, by omega, h.2.2⟩), fun j h1 h2 h3 => ?_, a3, a4, a5⟩
      rcases Nat.lt_or_eq_of_le (Nat.le_of_lt_succ h2) with h | h
      · exact a2 j h1 h h3
      · subst h
        rw [h3, Bool.true_and, decide_eq_true_eq] at c
        omega
theorem chs_in {n : Nat} {rk : Nat → Nat → Nat} {hd : Nat → Nat} {O i : Nat} (hi : i < n) (ho : O.testBit i = true) : chs n rk hd O i < n ∧ O.testBit (chs n rk hd O i) = true := by
  rcases (chF_is (rk := rk) (hd := hd) (O := O) (i := i) n).1 with h | h
  · unfold chs
    rw [h]
    exact ⟨hi, ho⟩
  · exact ⟨h.2.1, h.2.2⟩
/-- one more from above: the model's way -/
theorem isCh_dn {n : Nat} {rk : Nat → Nat → Nat} {hd : Nat → Nat} {O i lo b : Nat} (hlo : lo < n) (h : isCh n rk hd O i (lo + 1) b) : isCh n rk hd O i lo (if (O.testBit lo && decide (rk i (hd lo) < rk i (hd b))) || (O.testBit lo && (!decide (b = i) && decide (rk i (hd lo) = rk i (hd b)))) then lo else b) := by
  obtain ⟨a1, a2, a3, a4, a5⟩ := h
  by_cases c : ((O.testBit lo && decide (rk i (hd lo) < rk i (hd b))) || (O.testBit lo && (!decide (b = i) && decide (rk i (hd lo) = rk i (hd b))))) = true
  · rw [if_pos c]
    simp only [Bool.or_eq_true, Bool.and_eq_true, decide_eq_true_eq, Bool.not_eq_true', decide_eq_false_iff_not] at c
    have c1 : O.testBit lo = true := by rcases c with c | c <;> exact c.1
    have c2 : rk i (hd lo) ≤ rk i (hd b) := by
      rcases c with c | c
      · omega
      · omega
    have c3 : rk i (hd lo) < rk i (hd i) := by
      rcases c with c | ⟨c, c', c''⟩
      · omega
      · have := a4 c'; omega
    refine ⟨Or.inr ⟨Nat.le_refl _, hlo, c1⟩, fun j h1 h2 h3 => ?_, by omega, fun _ => c3, fun _ j h1 h2 => by omega⟩
    by_cases e : j = lo
    · rw [e]; exact Nat.le_refl _
    · have := a2 j (by omega) h2 h3
      omega
  · rw [if_neg c]
    simp only [Bool.or_eq_true, Bool.and_eq_true, decide_eq_true_eq, Bool.not_eq_true', decide_eq_false_iff_not] at c
    refine ⟨a1.imp id (fun h => ⟨by omega, h.2⟩), fun j h1 h2 h3 => ?_, a3, a4, fun hb j h1 h2 h3 => ?_⟩
    · by_cases e : j = lo
      · subst e
        rcases Nat.lt_or_ge (rk i (hd j)) (rk i (hd b)) with h | h
        · exact absurd (Or.inl ⟨h3, h⟩) c
        · exact h
      · exact a2 j (by omega) h2 h3
    · by_cases e : j = lo
      · subst e
        rcases Nat.lt_trichotomy (rk i (hd j)) (rk i (hd b)) with h | h | h
        · exact absurd (Or.inl ⟨h3, h⟩) c
        · exact absurd (Or.inr ⟨h3, hb, h⟩) c
        · exact h
      · exact a5 hb j (by omega) h2 h3
theorem isCh_0 {n : Nat} {rk : Nat → Nat → Nat} {hd : Nat → Nat} {O i : Nat} : isCh n rk hd O i n i := ⟨Or.inl rfl, fun j h1 h2 => absurd h2 (by omega), Nat.le_refl _, fun h => absurd rfl h, fun h => absurd rfl h⟩
/-- iterates -/
def itr (p : Nat → Nat) : Nat → Nat → Nat
  | 0, i => i
  | k + 1, i => p (itr p k i)
theorem itr_add (p : Nat → Nat) (a : Nat) : ∀ b i, itr p (a + b) i = itr p b (itr p a i)
  | 0, i => rfl
  | b + 1, i => by
    show p (itr p (a + b) i) = p (itr p b (itr p a i))
    rw [itr_add p a b i]
def mtS (p : Nat → Nat) (i k : Nat) : Nat := orS (fun a => 2 ^ itr p a i) k
theorem mtS_tb {p : Nat → Nat} {i k x : Nat} : (mtS p i k).testBit x = true ↔ ∃ a, a < k ∧ itr p a i = x := by
  unfold mtS
  rw [orS_tb]
  constructor
  · rintro ⟨a, h1, h2⟩
    refine ⟨a, h1, ?_⟩
    rw [Nat.testBit_two_pow] at h2
    simpa using h2
  · rintro ⟨a, h1, h2⟩
    exact ⟨a, h1, by rw [h2, Nat.testBit_two_pow_self]⟩
def rgK (p : Nat → Nat) (i : Nat) : Nat := lf (fun k => !decide (itr p (k + 1) i = i)) 7
def rgF (p : Nat → Nat) (i : Nat) : Nat := if rgK p i < 7 then mtS p i (rgK p i + 1) else 0
theorem rgK_at {p : Nat → Nat} {i k : Nat} (h1 : ∀ a, a < k → itr p (a + 1) i ≠ i) (h2 : itr p (k + 1) i = i) (h7 : k < 7) : rgK p i = k := lf_at (fun a ha => by simpa using h1 a ha) (by simpa using h2) 7 h7
theorem rgF_ok {p : Nat → Nat} {i : Nat} (h : rgF p i ≠ 0) : rgK p i < 7 ∧ itr p (rgK p i + 1) i = i ∧ (∀ a, a < rgK p i → itr p (a + 1) i ≠ i) ∧ rgF p i = mtS p i (rgK p i + 1) := by
  unfold rgF at h ⊢
  by_cases c : rgK p i < 7
  · obtain ⟨x1, x2, x3⟩ := lf_lt (p := fun k => !decide (itr p (k + 1) i = i)) 7
    refine ⟨c, ?_, fun a ha => ?_, if_pos c⟩
    · have := x3 c
      simpa [rgK] using this
    · have := x1 a ha
      simpa using this
  · rw [if_neg c] at h
    exact absurd rfl h
theorem rgF_self {p : Nat → Nat} {i : Nat} (h : rgF p i ≠ 0) : (rgF p i).testBit i = true := by
  rw [(rgF_ok h).2.2.2, mtS_tb]
  exact ⟨0, by omega, rfl⟩
theorem rgF_cl {p : Nat → Nat} {i x : Nat} (h : rgF p i ≠ 0) (hx : (rgF p i).testBit x = true) : (rgF p i).testBit (p x) = true := by
  obtain ⟨h1, h2, h3, h4⟩ := rgF_ok h
  rw [h4, mtS_tb] at hx ⊢
  obtain ⟨a, ha, rfl⟩ := hx
  by_cases e : a = rgK p i
  · refine ⟨0, by omega, ?_⟩
    rw [e]
    exact h2.symm
  · exact ⟨a + 1, by omega, rfl⟩
/-- from every trader of a ring one comes back to its first -/
theorem rgF_bk {p : Nat → Nat} {i x : Nat} (h : rgF p i ≠ 0) (hx : (rgF p i).testBit x = true) : ∃ b, itr p b x = i := by
  obtain ⟨h1, h2, h3, h4⟩ := rgF_ok h
  rw [h4, mtS_tb] at hx
  obtain ⟨a, ha, rfl⟩ := hx
  refine ⟨rgK p i + 1 - a, ?_⟩
  rw [← itr_add, show a + (rgK p i + 1 - a) = rgK p i + 1 by omega]
  exact h2
theorem rgF_inj {p : Nat → Nat} {i x y : Nat} (h : rgF p i ≠ 0) (hx : (rgF p i).testBit x = true) (hy : (rgF p i).testBit y = true) (e : p x = p y) : x = y := by
  obtain ⟨h1, h2, h3, h4⟩ := rgF_ok h
  rw [h4, mtS_tb] at hx hy
  have key : ∀ a b, a < b → b < rgK p i + 1 → p (itr p a i) ≠ p (itr p b i) := by
    intro a b hab hb e
    have e1 : itr p (a + 1) i = itr p (b + 1) i := e
    have e2 : itr p ((a + 1) + (rgK p i - b)) i = itr p ((b + 1) + (rgK p i - b)) i := by rw [itr_add p (a + 1), itr_add p (b + 1), e1]
    rw [show (b + 1) + (rgK p i - b) = rgK p i + 1 by omega, h2, show (a + 1) + (rgK p i - b) = (a + (rgK p i - b)) + 1 by omega] at e2
    exact h3 _ (by omega) e2
  obtain ⟨a, ha, rfl⟩ := hx
  obtain ⟨b, hb, rfl⟩ := hy
  rcases Nat.lt_trichotomy a b with h | h | h
  · exact absurd e (key a b h hb)
  · rw [h]
  · exact absurd e.symm (key b a h ha)
theorem itr_cl {p : Nat → Nat} {P : Nat → Prop} (hp : ∀ x, P x → P (p x)) {x : Nat} (hx : P x) : ∀ b, P (itr p b x)
  | 0 => hx
  | b + 1 => hp _ (itr_cl hp hx b)
theorem rgF_in {p : Nat → Nat} {i O : Nat} (hp : ∀ x, O.testBit x = true → O.testBit (p x) = true) (hi : O.testBit i = true) (h : rgF p i ≠ 0) {x : Nat} (hx : (rgF p i).testBit x = true) : O.testBit x = true := by
  rw [(rgF_ok h).2.2.2, mtS_tb] at hx
  obtain ⟨a, -, rfl⟩ := hx
  exact itr_cl (P := fun x => O.testBit x = true) hp hi a
theorem tb_sub {a b n : Nat} (hb : b < 2 ^ n) (h : ∀ x, a.testBit x = true → b.testBit x = true) : a < 2 ^ n := Nat.lt_pow_two_of_testBit _ fun i hi => by
  cases e : a.testBit i
  · rfl
  · have := h i e
    rw [Nat.testBit_lt_two_pow (Nat.lt_of_lt_of_le hb (Nat.pow_le_pow_right (by omega) hi))] at this
    cases this
theorem pc_all : ∀ x, x < 128 → pc x = 7 → ∀ j, j < 7 → x.testBit j = true := by decide +kernel
theorem pc_zdf : ∀ a, a < 128 → ∀ b, b < 128 → a &&& b ≠ 0 → pc (zdf a b) < pc a := by decide +kernel
theorem pc_0 : ∀ x, x < 128 → pc x = 0 → x = 0 := by decide +kernel
theorem tb_7 {O x : Nat} (hO : O < 128) (h : O.testBit x = true) : x < 7 := by
  rcases Nat.lt_or_ge x 7 with h1 | h1
  · exact h1
  · rw [Nat.testBit_lt_two_pow (Nat.lt_of_lt_of_le hO (Nat.pow_le_pow_right (n := 2) (i := 7) (by omega) h1))] at h
    cases h
/-- the first k iterates, all different, are k -/
theorem mtS_pc {p : Nat → Nat} {O i : Nat} (hO : O < 128) (hp : ∀ x, O.testBit x = true → O.testBit (p x) = true) (hi : O.testBit i = true) : ∀ k, (∀ a b, a < b → b < k → itr p a i ≠ itr p b i) → mtS p i k < 128 ∧ pc (mtS p i k) = k
  | 0, _ => ⟨by show (0 : Nat) < 128; decide, by show pc 0 = 0; decide⟩
  | k + 1, h => by
    obtain ⟨h1, h2⟩ := mtS_pc hO hp hi k fun a b x y => h a b x (by omega)
    have h7 := tb_7 hO (itr_cl (P := fun x => O.testBit x = true) hp hi k)
    have hn : (mtS p i k).testBit (itr p k i) = false := by
      cases e : (mtS p i k).testBit (itr p k i)
      · rfl
      · obtain ⟨a, ha, e2⟩ := mtS_tb.mp e
        exact absurd e2 (h a k ha (by omega))
    obtain ⟨h3, h4⟩ := pc_or _ h1 _ h7 hn
    exact ⟨h3, h4.trans (by rw [h2])⟩
/-- somebody is in a ring -/
theorem rgF_ex {p : Nat → Nat} {O i : Nat} (hO : O < 128) (hp : ∀ x, O.testBit x = true → O.testBit (p x) = true) (hi : O.testBit i = true) : ∃ j, O.testBit j = true ∧ rgF p j ≠ 0 := by
  have h8 : ¬ ∀ a b, a < b → b < 8 → itr p a i ≠ itr p b i := fun h => by
    have := (mtS_pc hO hp hi 8 h).2
    have := pc_le (mtS p i 8)
    omega
  have : ∃ a b, a < b ∧ b < 8 ∧ itr p a i = itr p b i := by
    apply Classical.byContradiction
    intro hc
    exact h8 fun a b x y e => hc ⟨a, b, x, y, e⟩
  obtain ⟨a, b, h1, h2, e⟩ := this
  refine ⟨itr p a i, itr_cl (P := fun x => O.testBit x = true) hp hi a, ?_⟩
  have hback : itr p (b - a - 1 + 1) (itr p a i) = itr p a i := by
    rw [← itr_add, show a + (b - a - 1 + 1) = b by omega]
    exact e.symm
  have hK : rgK p (itr p a i) < 7 := by
    rcases Nat.lt_or_ge (rgK p (itr p a i)) 7 with h | h
    · exact h
    · have hle := (lf_lt (p := fun k => !decide (itr p (k + 1) (itr p a i) = itr p a i)) 7).2.1
      have hall := (lf_lt (p := fun k => !decide (itr p (k + 1) (itr p a i) = itr p a i)) 7).1 (b - a - 1) (by
        show b - a - 1 < rgK p (itr p a i)
        omega)
      rw [hback] at hall
      simp at hall
  intro h0
  have hs : (rgF p (itr p a i)).testBit (itr p a i) = true := by
    unfold rgF
    rw [if_pos hK, mtS_tb]
    exact ⟨0, by omega, rfl⟩
  rw [h0] at hs
  simp at hs
