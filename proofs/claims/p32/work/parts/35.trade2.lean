/-! THE TRADING: rounds -/
abbrev zT : Type := Nat × Nat × (Nat → Int32) × (Nat → Int32) × (Nat → Int32) × (Nat → Int32) × (Nat → Int32) × (Nat → Int32)
abbrev tRi (T : zT) : Nat := T.1
abbrev tRo (T : zT) : Nat := T.2.1
abbrev tGe (T : zT) : Nat → Int32 := T.2.2.1
abbrev tRf (T : zT) : Nat → Int32 := T.2.2.2.1
abbrev tGf (T : zT) : Nat → Int32 := T.2.2.2.2.1
abbrev tFi (T : zT) : Nat → Int32 := T.2.2.2.2.2.1
abbrev tTo (T : zT) : Nat → Int32 := T.2.2.2.2.2.2.1
abbrev tRr (T : zT) : Nat → Int32 := T.2.2.2.2.2.2.2
def tZ : zT := (0, 0, fun _ => -9, fun _ => -9, fun _ => -9, fun _ => -9, fun _ => 0, fun _ => 0)
def tAdd (hd p : Nat → Nat) (T : zT) (R : Nat) : zT := (tRi T + 1, tRo T, (fun i => if R.testBit i then nI (hd (p i)) else tGe T i), (fun i => if R.testBit i then nI (tRo T) else tRf T i), (fun i => if R.testBit i then nI (tRi T) else tGf T i), tFi T, upd (tTo T) (tRi T) (nI R), upd (tRr T) (tRi T) (nI (tRo T)))
def tCl (hd p : Nat → Nat) (O : Nat) (T : zT) : Nat → zT × Nat
  | 0 => (T, 0)
  | i + 1 => if O.testBit i && (!(tCl hd p O T i).2.testBit i && decide (rgF p i ≠ 0)) then (tAdd hd p (tCl hd p O T i).1 (rgF p i), (tCl hd p O T i).2 ||| rgF p i) else tCl hd p O T i
def tFs (p : Nat → Nat) (O : Nat) (T : zT) : zT := (tRi T, tRo T, tGe T, tRf T, tGf T, (fun i => if tRo T = 0 ∧ O.testBit i = true then nI (p i) else tFi T i), tTo T, tRr T)
def tRd (n : Nat) (rk : Nat → Nat → Nat) (hd : Nat → Nat) (q : zT × Nat) : zT × Nat :=
  if q.2 = 0 then q else (((tCl hd (chs n rk hd q.2) q.2 (tFs (chs n rk hd q.2) q.2 q.1) n).1.1, (tCl hd (chs n rk hd q.2) q.2 (tFs (chs n rk hd q.2) q.2 q.1) n).1.2.1 + 1, (tCl hd (chs n rk hd q.2) q.2 (tFs (chs n rk hd q.2) q.2 q.1) n).1.2.2), zdf q.2 (tCl hd (chs n rk hd q.2) q.2 (tFs (chs n rk hd q.2) q.2 q.1) n).2)
def tRs (n : Nat) (rk : Nat → Nat → Nat) (hd : Nat → Nat) (O : Nat) : Nat → zT × Nat
  | 0 => (tZ, O)
  | k + 1 => tRd n rk hd (tRs n rk hd O k)
def tF (n : Nat) (rk : Nat → Nat → Nat) (hd : Nat → Nat) (O : Nat) : zT := (tRs n rk hd O 7).1
/-- what is so of the rings found until now, when the traders D are done -/
def TI (n : Nat) (hd : Nat → Nat) (T : zT) (D : Nat) : Prop :=
  (∀ i, i < n → D.testBit i = false → tGe T i = -9) ∧ (∀ i, D.testBit i = true → ∃ q, D.testBit q = true ∧ tGe T i = nI (hd q)) ∧ (∀ i j, D.testBit i = true → D.testBit j = true → tGe T i = tGe T j → i = j) ∧
  (∀ k, k < tRi T → ∃ R, tTo T k = nI R ∧ (∀ x, R.testBit x = true → D.testBit x = true) ∧ ∀ x, R.testBit x = true → ∃ q, R.testBit q = true ∧ tGe T x = nI (hd q)) ∧ tRi T ≤ pc D
theorem pc_dis : ∀ a, a < 128 → ∀ b, b < 128 → a &&& b = 0 → b ≠ 0 → pc a + 1 ≤ pc (a ||| b) := by decide +kernel
theorem tb_and0 {a b : Nat} (h : ∀ x, a.testBit x = true → b.testBit x = true → False) : a &&& b = 0 := by
  apply Nat.eq_of_testBit_eq
  intro i
  rw [Nat.testBit_and, Nat.zero_testBit]
  cases e1 : a.testBit i
  · rfl
  · cases e2 : b.testBit i
    · rfl
    · exact (h i e1 e2).elim
/-- one ring more -/
theorem TI.add {n : Nat} {hd p : Nat → Nat} {T : zT} {D R : Nat} (h7 : n ≤ 7) (hn : ∀ i, i < n → hd i < n) (hinj : ∀ i j, i < n → j < n → hd i = hd j → i = j) (h : TI n hd T D) (hD : ∀ x, D.testBit x = true → x < n) (hR : ∀ x, R.testBit x = true → x < n) (hR0 : R ≠ 0)
    (hdis : ∀ x, D.testBit x = true → R.testBit x = true → False) (hcl : ∀ x, R.testBit x = true → R.testBit (p x) = true) (hpi : ∀ x y, R.testBit x = true → R.testBit y = true → p x = p y → x = y) : TI n hd (tAdd hd p T R) (D ||| R) := by
  obtain ⟨h1, h2, h3, h4, h5⟩ := h
  have hor : ∀ x, (D ||| R).testBit x = true ↔ (D.testBit x = true ∨ R.testBit x = true) := fun x => by rw [Nat.testBit_or, Bool.or_eq_true]
  have gin : ∀ x, R.testBit x = true → tGe (tAdd hd p T R) x = nI (hd (p x)) := fun x hx => if_pos hx
  have gout : ∀ x, ¬ R.testBit x = true → tGe (tAdd hd p T R) x = tGe T x := fun x hx => if_neg hx
  have hlt : ∀ (S : Nat), (∀ x, S.testBit x = true → x < n) → S < 128 := fun S hS => Nat.lt_pow_two_of_testBit (n := 7) _ fun i hi => by
    cases e : S.testBit i
    · rfl
    · have := hS i e; omega
  refine ⟨fun i hi hd' => ?_, fun i hi => ?_, fun i j hi hj e => ?_, fun k hk => ?_, ?_⟩
  · have a1 : D.testBit i = false := by
      cases e : D.testBit i
      · rfl
      · rw [(hor i).mpr (Or.inl e)] at hd'; cases hd'
    have a2 : ¬ R.testBit i = true := fun e => by rw [(hor i).mpr (Or.inr e)] at hd'; cases hd'
    rw [gout i a2]
    exact h1 i hi a1
  · by_cases c : R.testBit i = true
    · exact ⟨p i, (hor _).mpr (Or.inr (hcl i c)), gin i c⟩
    · obtain ⟨q, q1, q2⟩ := h2 i (((hor i).mp hi).resolve_right c)
      exact ⟨q, (hor _).mpr (Or.inl q1), by rw [gout i c]; exact q2⟩
  · have nn : ∀ x y, x < n → y < n → nI (hd x) = nI (hd y) → x = y := fun x y hx hy e => by
      have b1 := hn x hx
      have b2 := hn y hy
      exact hinj x y hx hy ((nI_eq (by omega) (by omega)).mp e)
    by_cases c1 : R.testBit i = true
    · rw [gin i c1] at e
      by_cases c2 : R.testBit j = true
      · rw [gin j c2] at e
        exact hpi i j c1 c2 (nn _ _ (hR _ (hcl i c1)) (hR _ (hcl j c2)) e)
      · rw [gout j c2] at e
        obtain ⟨q, q1, q2⟩ := h2 j (((hor j).mp hj).resolve_right c2)
        rw [q2] at e
        have := nn _ _ (hR _ (hcl i c1)) (hD _ q1) e
        exact (hdis q q1 (this ▸ hcl i c1)).elim
    · rw [gout i c1] at e
      have di := ((hor i).mp hi).resolve_right c1
      by_cases c2 : R.testBit j = true
      · rw [gin j c2] at e
        obtain ⟨q, q1, q2⟩ := h2 i di
        rw [q2] at e
        have := nn _ _ (hD _ q1) (hR _ (hcl j c2)) e
        exact (hdis q q1 (this ▸ hcl j c2)).elim
      · rw [gout j c2] at e
        exact h3 i j di (((hor j).mp hj).resolve_right c2) e
  · have hk : k < tRi T + 1 := hk
    by_cases c : k = tRi T
    · refine ⟨R, ?_, fun x hx => (hor x).mpr (Or.inr hx), fun x hx => ⟨p x, hcl x hx, gin x hx⟩⟩
      rw [c]
      exact pk_us
    · obtain ⟨S, s1, s2, s3⟩ := h4 k (by omega)
      refine ⟨S, ?_, fun x hx => (hor x).mpr (Or.inl (s2 x hx)), fun x hx => ?_⟩
      · exact (pk_un c).trans s1
      · obtain ⟨q, q1, q2⟩ := s3 x hx
        exact ⟨q, q1, by rw [gout x (fun z => hdis x (s2 x hx) z)]; exact q2⟩
  · have := pc_dis D (hlt D hD) R (hlt R hR) (tb_and0 hdis) hR0
    show tRi T + 1 ≤ _
    omega
theorem TI.first {n : Nat} {hd p : Nat → Nat} {T : zT} {D O : Nat} (h : TI n hd T D) : TI n hd (tFs p O T) D := h
theorem TI.round {n : Nat} {hd : Nat → Nat} {T : zT} {D : Nat} (k : Nat) (h : TI n hd T D) : TI n hd (T.1, k, T.2.2) D := h
/-- the closing of a round -/
theorem tCl_ok {n : Nat} {hd p : Nat → Nat} {T : zT} {D O : Nat} (h7 : n ≤ 7) (hn : ∀ i, i < n → hd i < n) (hinj : ∀ i j, i < n → j < n → hd i = hd j → i = j) (h : TI n hd T D) (hD : ∀ x, D.testBit x = true → x < n) (hO : ∀ x, O.testBit x = true → x < n)
    (hdis : ∀ x, D.testBit x = true → O.testBit x = true → False) (hp : ∀ x, O.testBit x = true → O.testBit (p x) = true) : ∀ i, i ≤ n →
    TI n hd (tCl hd p O T i).1 (D ||| (tCl hd p O T i).2) ∧ (∀ x, (tCl hd p O T i).2.testBit x = true → O.testBit x = true) ∧ (∀ x, (tCl hd p O T i).2.testBit x = true → (tCl hd p O T i).2.testBit (p x) = true) ∧ (∀ j, j < i → O.testBit j = true → rgF p j ≠ 0 → (tCl hd p O T i).2.testBit j = true) ∧ tRo (tCl hd p O T i).1 = tRo T ∧ tFi (tCl hd p O T i).1 = tFi T
  | 0, _ => ⟨by show TI n hd T (D ||| 0); rw [Nat.or_zero]; exact h, fun x hx => by simp [tCl] at hx, fun x hx => by simp [tCl] at hx, fun j hj => absurd hj (Nat.not_lt_zero _), rfl, rfl⟩
  | i + 1, hi => by
    obtain ⟨a1, a2, a3, a4, a5, a6⟩ := tCl_ok h7 hn hinj h hD hO hdis hp i (by omega)
    have e : tCl hd p O T (i + 1) = if O.testBit i && (!(tCl hd p O T i).2.testBit i && decide (rgF p i ≠ 0)) then (tAdd hd p (tCl hd p O T i).1 (rgF p i), (tCl hd p O T i).2 ||| rgF p i) else tCl hd p O T i := rfl
    by_cases c : (O.testBit i && (!(tCl hd p O T i).2.testBit i && decide (rgF p i ≠ 0))) = true
    · rw [e, if_pos c]
      simp only [Bool.and_eq_true, Bool.not_eq_true', decide_eq_true_eq] at c
      obtain ⟨c1, c2, c3⟩ := c
      have hRO : ∀ x, (rgF p i).testBit x = true → O.testBit x = true := fun x hx => rgF_in hp c1 c3 hx
      have hdd : ∀ x, (tCl hd p O T i).2.testBit x = true → (rgF p i).testBit x = true → False := by
        intro x hx1 hx2
        obtain ⟨b, hb⟩ := rgF_bk c3 hx2
        have := itr_cl (P := fun x => (tCl hd p O T i).2.testBit x = true) a3 hx1 b
        rw [hb, c2] at this
        cases this
      have hor : ∀ x, ((tCl hd p O T i).2 ||| rgF p i).testBit x = true ↔ ((tCl hd p O T i).2.testBit x = true ∨ (rgF p i).testBit x = true) := fun x => by rw [Nat.testBit_or, Bool.or_eq_true]
      have hor2 : ∀ x, (D ||| (tCl hd p O T i).2).testBit x = true ↔ (D.testBit x = true ∨ (tCl hd p O T i).2.testBit x = true) := fun x => by rw [Nat.testBit_or, Bool.or_eq_true]
      refine ⟨?_, fun x hx => ?_, fun x hx => ?_, fun j hj h1 h2 => ?_, a5, a6⟩
      · rw [← Nat.or_assoc]
        refine TI.add h7 hn hinj a1 (fun x hx => ?_) (fun x hx => hO x (hRO x hx)) c3 (fun x hx1 hx2 => ?_) (fun x hx => rgF_cl c3 hx) (fun x y hx hy e => rgF_inj c3 hx hy e)
        · rcases (hor2 x).mp hx with h | h
          · exact hD x h
          · exact hO x (a2 x h)
        · rcases (hor2 x).mp hx1 with h | h
          · exact hdis x h (hRO x hx2)
          · exact hdd x h hx2
      · rcases (hor x).mp hx with h | h
        · exact a2 x h
        · exact hRO x h
      · rcases (hor x).mp hx with h | h
        · exact (hor _).mpr (Or.inl (a3 x h))
        · exact (hor _).mpr (Or.inr (rgF_cl c3 h))
      · rcases Nat.lt_or_eq_of_le (Nat.le_of_lt_succ hj) with h | h
        · exact (hor _).mpr (Or.inl (a4 j h h1 h2))
        · rw [h]
          exact (hor _).mpr (Or.inr (rgF_self c3))
    · rw [e, if_neg c]
      refine ⟨a1, a2, a3, fun j hj h1 h2 => ?_, a5, a6⟩
      rcases Nat.lt_or_eq_of_le (Nat.le_of_lt_succ hj) with h | h
      · exact a4 j h h1 h2
      · subst h
        simp only [Bool.and_eq_true, Bool.not_eq_true', decide_eq_true_eq] at c
        cases e2 : (tCl hd p O T j).2.testBit j
        · exact absurd ⟨h1, e2, h2⟩ c
        · rfl
/-- all rounds -/
theorem tRs_ok {n : Nat} {rk : Nat → Nat → Nat} {hd : Nat → Nat} {O : Nat} (h7 : n ≤ 7) (hn : ∀ i, i < n → hd i < n) (hinj : ∀ i j, i < n → j < n → hd i = hd j → i = j) (hO : ∀ x, O.testBit x = true → x < n) : ∀ k,
    ∃ D, TI n hd (tRs n rk hd O k).1 D ∧ (∀ x, (D.testBit x = true ∨ (tRs n rk hd O k).2.testBit x = true) ↔ O.testBit x = true) ∧ (∀ x, D.testBit x = true → (tRs n rk hd O k).2.testBit x = true → False) ∧ (tRs n rk hd O k).2 < 128 ∧ (pc (tRs n rk hd O k).2 ≤ 7 - k) ∧ tRo (tRs n rk hd O k).1 ≤ k
  | 0 => by
    have hlt : O < 128 := Nat.lt_pow_two_of_testBit (n := 7) _ fun i hi => by
      cases e : O.testBit i
      · rfl
      · have := hO i e; omega
    refine ⟨0, ⟨fun i _ _ => rfl, fun i hi => ?_, fun i j hi => ?_, fun k hk => absurd hk (Nat.not_lt_zero _), Nat.zero_le _⟩, fun x => ?_, fun x hx => ?_, hlt, pc_le _, Nat.le_refl _⟩
    · simp at hi
    · simp at hi
    · show _ ∨ O.testBit x = true ↔ _
      simp
    · simp at hx
  | k + 1 => by
    obtain ⟨D, a1, a2, a3, a4, a5, a6⟩ := tRs_ok (rk := rk) h7 hn hinj hO k
    have e : tRs n rk hd O (k + 1) = tRd n rk hd (tRs n rk hd O k) := rfl
    rw [e]
    generalize tRs n rk hd O k = q at a1 a2 a3 a4 a5 a6 ⊢
    by_cases c : q.2 = 0
    · have e2 : tRd n rk hd q = q := if_pos c
      rw [e2]
      refine ⟨D, a1, a2, a3, a4, ?_, by omega⟩
      rw [c]
      exact Nat.zero_le _
    · obtain ⟨p, hp⟩ : ∃ p, p = chs n rk hd q.2 := ⟨_, rfl⟩
      have hqO : ∀ x, q.2.testBit x = true → x < n := fun x hx => hO x ((a2 x).mp (Or.inr hx))
      have hpc : ∀ x, q.2.testBit x = true → q.2.testBit (p x) = true := fun x hx => by rw [hp]; exact (chs_in (hqO x hx) hx).2
      obtain ⟨b1, b2, b3, b4, b5, b6⟩ := tCl_ok h7 hn hinj (TI.first (p := p) (O := q.2) a1) (fun x hx => hO x ((a2 x).mp (Or.inl hx))) hqO a3 hpc n (Nat.le_refl _)
      have e2 : tRd n rk hd q = (((tCl hd p q.2 (tFs p q.2 q.1) n).1.1, (tCl hd p q.2 (tFs p q.2 q.1) n).1.2.1 + 1, (tCl hd p q.2 (tFs p q.2 q.1) n).1.2.2), zdf q.2 (tCl hd p q.2 (tFs p q.2 q.1) n).2) := by
        rw [hp]
        exact if_neg c
      rw [e2]
      obtain ⟨d, hd'⟩ : ∃ d, d = (tCl hd p q.2 (tFs p q.2 q.1) n).2 := ⟨_, rfl⟩
      rw [← hd'] at b1 b2 b3 b4 ⊢
      have hor : ∀ x, (D ||| d).testBit x = true ↔ (D.testBit x = true ∨ d.testBit x = true) := fun x => by rw [Nat.testBit_or, Bool.or_eq_true]
      have hz : ∀ x, (zdf q.2 d).testBit x = true ↔ (q.2.testBit x = true ∧ ¬ d.testBit x = true) := fun x => by rw [zdf_tb, Bool.and_eq_true, Bool.not_eq_true', Bool.not_eq_true]
      have hex : ∃ x, q.2.testBit x = true := Nat.exists_testBit_of_ne_zero c
      obtain ⟨x0, hx0⟩ := hex
      obtain ⟨j, j1, j2⟩ := rgF_ex a4 hpc hx0
      have hdj := b4 j (hqO j j1) j1 j2
      have hd128 : d < 128 := tb_sub (n := 7) a4 b2
      have hne : q.2 &&& d ≠ 0 := fun z => by
        have : (q.2 &&& d).testBit j = true := by rw [Nat.testBit_and, j1, hdj]; rfl
        rw [z] at this
        simp at this
      have hlt := pc_zdf q.2 a4 d hd128 hne
      refine ⟨D ||| d, TI.round _ b1, fun x => ?_, fun x h1 h2 => ?_, zdf_lt (n := 7) a4, ?_, ?_⟩
      · rw [hor, ← a2 x]
        constructor
        · rintro ((h | h) | h)
          · exact Or.inl h
          · exact Or.inr (b2 x h)
          · exact Or.inr ((hz x).mp h).1
        · rintro (h | h)
          · exact Or.inl (Or.inl h)
          · by_cases c2 : d.testBit x = true
            · exact Or.inl (Or.inr c2)
            · exact Or.inr ((hz x).mpr ⟨h, c2⟩)
      · rcases (hor x).mp h1 with h | h
        · exact a3 x h ((hz x).mp h2).1
        · exact ((hz x).mp h2).2 h
      · show pc (zdf q.2 d) ≤ 7 - (k + 1)
        omega
      · show (tCl hd p q.2 (tFs p q.2 q.1) n).1.2.1 + 1 ≤ k + 1
        have h8 : (tCl hd p q.2 (tFs p q.2 q.1) n).1.2.1 = q.1.2.1 := b5
        have h9 : q.1.2.1 ≤ k := a6
        omega
theorem tRs_stop {n : Nat} {rk : Nat → Nat → Nat} {hd : Nat → Nat} {O k : Nat} (h : (tRs n rk hd O k).2 = 0) : ∀ j, tRs n rk hd O (k + j) = tRs n rk hd O k
  | 0 => rfl
  | j + 1 => by
    show tRd n rk hd (tRs n rk hd O (k + j)) = _
    rw [tRs_stop h j]
    exact if_pos h
theorem tF_TI {n : Nat} {rk : Nat → Nat → Nat} {hd : Nat → Nat} {O : Nat} (h7 : n ≤ 7) (hn : ∀ i, i < n → hd i < n) (hinj : ∀ i j, i < n → j < n → hd i = hd j → i = j) (hO : ∀ x, O.testBit x = true → x < n) : TI n hd (tF n rk hd O) O := by
  obtain ⟨D, a1, a2, a3, a4, a5, a6⟩ := tRs_ok (rk := rk) h7 hn hinj hO 7
  have h0 := pc_0 _ a4 (by omega)
  have e : D = O := by
    apply Nat.eq_of_testBit_eq
    intro i
    have h1 := a2 i
    rw [h0] at h1
    simp only [Nat.zero_testBit, Bool.false_eq_true, or_false] at h1
    cases e1 : D.testBit i
    · cases e2 : O.testBit i
      · rfl
      · rw [h1.mpr e2] at e1; cases e1
    · rw [h1.mp e1]
  have h9 : TI n hd (tF n rk hd O) D := a1
  rw [e] at h9
  exact h9
