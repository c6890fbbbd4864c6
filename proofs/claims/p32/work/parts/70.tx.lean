/-! THE TRADING, more of it: at whom each points, rounds, rings -/
section TX0
variable {n : Nat} {rk : Nat → Nat → Nat} {hd p q r k R rr : Nat → Nat} {T : zT} {D O S : Nat}
/-- T holds: who is done (D) points at q, in the round r, in the ring k; the rings R, of the rounds rr -/
def TX (n : Nat) (rk : Nat → Nat → Nat) (hd : Nat → Nat) (O : Nat) (T : zT) (D : Nat) (q r k R rr : Nat → Nat) : Prop :=
  (∀ i, i < n → D.testBit i = false → tGe T i = -9 ∧ tRf T i = -9 ∧ tGf T i = -9) ∧
  (∀ i, D.testBit i = true → tGe T i = nI (hd (q i)) ∧ D.testBit (q i) = true ∧ tRf T i = nI (r i) ∧ tGf T i = nI (k i) ∧ k i < tRi T ∧ (R (k i)).testBit i = true ∧ rr (k i) = r i) ∧
  (∀ j, j < tRi T → tTo T j = nI (R j) ∧ tRr T j = nI (rr j) ∧ R j ≠ 0 ∧ rr j ≤ tRo T ∧ (∀ x, (R j).testBit x = true → D.testBit x = true ∧ k x = j ∧ (R j).testBit (q x) = true) ∧ (∀ x, (R j).testBit x = true → ∃ y, (R j).testBit y = true ∧ q y = x) ∧ (∀ x y, (R j).testBit x = true → q x = x → (R j).testBit y = true → y = x)) ∧
  (∀ j j', j ≤ j' → j' < tRi T → rr j ≤ rr j') ∧
  (∀ i, D.testBit i = true → (∀ j, O.testBit j = true → (D.testBit j = true → r i ≤ r j) → rk i (hd (q i)) ≤ rk i (hd j)) ∧ (q i ≠ i → rk i (hd (q i)) < rk i (hd i)))
theorem ori {a b x : Nat} : (a ||| b).testBit x = true ↔ (a.testBit x = true ∨ b.testBit x = true) := by rw [Nat.testBit_or, Bool.or_eq_true]
theorem orf {a b x : Nat} (h : (a ||| b).testBit x = false) : a.testBit x = false ∧ b.testBit x = false := by
  rw [Nat.testBit_or, Bool.or_eq_false_iff] at h
  exact h
theorem TX.add (h : TX n rk hd O T D q r k R rr) (hS0 : S ≠ 0) (hdis : ∀ x, D.testBit x = true → S.testBit x = true → False) (hcl : ∀ x, S.testBit x = true → S.testBit (p x) = true)
    (hsu : ∀ x, S.testBit x = true → ∃ y, S.testBit y = true ∧ p y = x) (hse : ∀ x y, S.testBit x = true → p x = x → S.testBit y = true → y = x)
    (hb : ∀ i, S.testBit i = true → (∀ j, O.testBit j = true → (D.testBit j = true → tRo T ≤ r j) → rk i (hd (p i)) ≤ rk i (hd j)) ∧ (p i ≠ i → rk i (hd (p i)) < rk i (hd i))) :
    TX n rk hd O (tAdd hd p T S) (D ||| S) (fun i => if S.testBit i then p i else q i) (fun i => if S.testBit i then tRo T else r i) (fun i => if S.testBit i then tRi T else k i) (fup R (tRi T) S) (fup rr (tRi T) (tRo T)) := by
  obtain ⟨h1, h2, h3, h4, h5⟩ := h
  have hDS : ∀ x, D.testBit x = true → S.testBit x = false := fun x hx => by
    cases e : S.testBit x
    · rfl
    · exact (hdis x hx e).elim
  refine ⟨fun i hi hx => ?_, fun i hx => ?_, fun j hj => ?_, fun j j' hjj hj => ?_, fun i hx => ?_⟩
  · obtain ⟨x1, x2⟩ := orf hx
    obtain ⟨a1, a2, a3⟩ := h1 i hi x1
    refine ⟨?_, ?_, ?_⟩
    · show (if S.testBit i then nI (hd (p i)) else tGe T i) = -9
      rw [x2]; exact a1
    · show (if S.testBit i then nI (tRo T) else tRf T i) = -9
      rw [x2]; exact a2
    · show (if S.testBit i then nI (tRi T) else tGf T i) = -9
      rw [x2]; exact a3
  · by_cases e : S.testBit i = true
    · refine ⟨?_, ?_, ?_, ?_, ?_, ?_, ?_⟩
      · show (if S.testBit i then nI (hd (p i)) else tGe T i) = nI (hd (if S.testBit i then p i else q i))
        rw [if_pos e, if_pos e]
      · show (D ||| S).testBit (if S.testBit i then p i else q i) = true
        rw [if_pos e]
        exact ori.mpr (Or.inr (hcl i e))
      · show (if S.testBit i then nI (tRo T) else tRf T i) = nI (if S.testBit i then tRo T else r i)
        rw [if_pos e, if_pos e]
      · show (if S.testBit i then nI (tRi T) else tGf T i) = nI (if S.testBit i then tRi T else k i)
        rw [if_pos e, if_pos e]
      · show (if S.testBit i then tRi T else k i) < tRi T + 1
        rw [if_pos e]
        omega
      · show (fup R (tRi T) S (if S.testBit i then tRi T else k i)).testBit i = true
        rw [if_pos e, fup_s]
        exact e
      · show fup rr (tRi T) (tRo T) (if S.testBit i then tRi T else k i) = if S.testBit i then tRo T else r i
        rw [if_pos e, if_pos e, fup_s]
    · have hd' : D.testBit i = true := (ori.mp hx).resolve_right e
      obtain ⟨a1, a2, a3, a4, a5, a6, a7⟩ := h2 i hd'
      refine ⟨?_, ?_, ?_, ?_, ?_, ?_, ?_⟩
      · show (if S.testBit i then nI (hd (p i)) else tGe T i) = nI (hd (if S.testBit i then p i else q i))
        rw [if_neg e, if_neg e]; exact a1
      · show (D ||| S).testBit (if S.testBit i then p i else q i) = true
        rw [if_neg e]
        exact ori.mpr (Or.inl a2)
      · show (if S.testBit i then nI (tRo T) else tRf T i) = nI (if S.testBit i then tRo T else r i)
        rw [if_neg e, if_neg e]; exact a3
      · show (if S.testBit i then nI (tRi T) else tGf T i) = nI (if S.testBit i then tRi T else k i)
        rw [if_neg e, if_neg e]; exact a4
      · show (if S.testBit i then tRi T else k i) < tRi T + 1
        rw [if_neg e]
        omega
      · show (fup R (tRi T) S (if S.testBit i then tRi T else k i)).testBit i = true
        rw [if_neg e, fup_o (by omega)]
        exact a6
      · show fup rr (tRi T) (tRo T) (if S.testBit i then tRi T else k i) = if S.testBit i then tRo T else r i
        rw [if_neg e, if_neg e, fup_o (by omega)]
        exact a7
  · have hj : j < tRi T + 1 := hj
    by_cases e : j = tRi T
    · subst e
      refine ⟨?_, ?_, ?_, ?_, fun x hx => ?_, fun x hx => ?_, fun x y hx hq hy => ?_⟩
      · show upd (tTo T) (tRi T) (nI S) (tRi T) = nI (fup R (tRi T) S (tRi T))
        rw [pk_us, fup_s]
      · show upd (tRr T) (tRi T) (nI (tRo T)) (tRi T) = nI (fup rr (tRi T) (tRo T) (tRi T))
        rw [pk_us, fup_s]
      · rw [fup_s]; exact hS0
      · rw [fup_s]; exact Nat.le_refl _
      · rw [fup_s] at hx ⊢
        refine ⟨ori.mpr (Or.inr hx), ?_, ?_⟩
        · show (if S.testBit x then tRi T else k x) = tRi T
          rw [if_pos hx]
        · show S.testBit (if S.testBit x then p x else q x) = true
          rw [if_pos hx]
          exact hcl x hx
      · rw [fup_s] at hx ⊢
        obtain ⟨y, y1, y2⟩ := hsu x hx
        refine ⟨y, y1, ?_⟩
        show (if S.testBit y then p y else q y) = x
        rw [if_pos y1]
        exact y2
      · rw [fup_s] at hx hy
        have hq : (if S.testBit x then p x else q x) = x := hq
        rw [if_pos hx] at hq
        exact hse x y hx hq hy
    · obtain ⟨a1, a2, a3, a4, a5, a6, a7⟩ := h3 j (by omega)
      refine ⟨?_, ?_, ?_, ?_, fun x hx => ?_, fun x hx => ?_, fun x y hx hq hy => ?_⟩
      · show upd (tTo T) (tRi T) (nI S) j = nI (fup R (tRi T) S j)
        rw [pk_un e, fup_o e]; exact a1
      · show upd (tRr T) (tRi T) (nI (tRo T)) j = nI (fup rr (tRi T) (tRo T) j)
        rw [pk_un e, fup_o e]; exact a2
      · rw [fup_o e]; exact a3
      · rw [fup_o e]; exact a4
      · rw [fup_o e] at hx ⊢
        obtain ⟨b1, b2, b3⟩ := a5 x hx
        have hs := hDS x b1
        refine ⟨ori.mpr (Or.inl b1), ?_, ?_⟩
        · show (if S.testBit x then tRi T else k x) = j
          rw [hs]; exact b2
        · show (R j).testBit (if S.testBit x then p x else q x) = true
          rw [hs]; exact b3
      · rw [fup_o e] at hx ⊢
        obtain ⟨y, y1, y2⟩ := a6 x hx
        refine ⟨y, y1, ?_⟩
        show (if S.testBit y then p y else q y) = x
        rw [hDS y (a5 y y1).1]
        exact y2
      · rw [fup_o e] at hx hy
        have hq : (if S.testBit x then p x else q x) = x := hq
        rw [hDS x (a5 x hx).1] at hq
        exact a7 x y hx hq hy
  · have hj : j' < tRi T + 1 := hj
    by_cases e : j' = tRi T
    · subst e
      rw [fup_s]
      by_cases e2 : j = tRi T
      · rw [e2, fup_s]; exact Nat.le_refl _
      · rw [fup_o e2]
        exact (h3 j (by omega)).2.2.2.1
    · rw [fup_o e, fup_o (by omega)]
      exact h4 j j' hjj (by omega)
  · by_cases e : S.testBit i = true
    · obtain ⟨b1, b2⟩ := hb i e
      refine ⟨fun j hO hr => ?_, fun hq => ?_⟩
      · show rk i (hd (if S.testBit i then p i else q i)) ≤ rk i (hd j)
        rw [if_pos e]
        refine b1 j hO fun hjD => ?_
        have h9 : (if S.testBit i then tRo T else r i) ≤ (if S.testBit j then tRo T else r j) := hr (ori.mpr (Or.inl hjD))
        rw [if_pos e, hDS j hjD] at h9
        exact h9
      · have hq : (if S.testBit i then p i else q i) ≠ i := hq
        show rk i (hd (if S.testBit i then p i else q i)) < rk i (hd i)
        rw [if_pos e] at hq ⊢
        exact b2 hq
    · have hd' : D.testBit i = true := (ori.mp hx).resolve_right e
      obtain ⟨b1, b2⟩ := h5 i hd'
      refine ⟨fun j hO hr => ?_, fun hq => ?_⟩
      · show rk i (hd (if S.testBit i then p i else q i)) ≤ rk i (hd j)
        rw [if_neg e]
        refine b1 j hO fun hjD => ?_
        have h9 : (if S.testBit i then tRo T else r i) ≤ (if S.testBit j then tRo T else r j) := hr (ori.mpr (Or.inl hjD))
        rw [if_neg e, hDS j hjD] at h9
        exact h9
      · have hq : (if S.testBit i then p i else q i) ≠ i := hq
        show rk i (hd (if S.testBit i then p i else q i)) < rk i (hd i)
        rw [if_neg e] at hq ⊢
        exact b2 hq
theorem rgF_su {i x : Nat} (h : rgF p i ≠ 0) (hx : (rgF p i).testBit x = true) : ∃ y, (rgF p i).testBit y = true ∧ p y = x := by
  obtain ⟨h1, h2, h3, h4⟩ := rgF_ok h
  rw [h4] at hx ⊢
  obtain ⟨a, ha, rfl⟩ := mtS_tb.mp hx
  match a, ha with
  | 0, _ => exact ⟨itr p (rgK p i) i, mtS_tb.mpr ⟨_, by omega, rfl⟩, h2⟩
  | a + 1, ha => exact ⟨itr p a i, mtS_tb.mpr ⟨a, by omega, rfl⟩, rfl⟩
theorem itr_fx {x : Nat} (e : p x = x) : ∀ a, itr p a x = x
  | 0 => rfl
  | a + 1 => by
    show p (itr p a x) = x
    rw [itr_fx e a]
    exact e
theorem rgF_se {i x y : Nat} (h : rgF p i ≠ 0) (hx : (rgF p i).testBit x = true) (e : p x = x) (hy : (rgF p i).testBit y = true) : y = x := by
  obtain ⟨b, hb⟩ := rgF_bk h hx
  rw [itr_fx e b] at hb
  subst hb
  rw [(rgF_ok h).2.2.2] at hy
  obtain ⟨a, -, rfl⟩ := mtS_tb.mp hy
  exact itr_fx e a
theorem TX.first (h : TX n rk hd O T D q r k R rr) : TX n rk hd O (tFs p S T) D q r k R rr := h
theorem TX.round (h : TX n rk hd O T D q r k R rr) : TX n rk hd O (T.1, T.2.1 + 1, T.2.2) D q r k R rr :=
  ⟨h.1, h.2.1, fun j hj => by
    obtain ⟨a1, a2, a3, a4, a5⟩ := h.2.2.1 j hj
    exact ⟨a1, a2, a3, Nat.le_succ_of_le a4, a5⟩, h.2.2.2⟩
/-- the closing of a round -/
theorem tCl_X {D0 O0 : Nat} (h : TX n rk hd O T D0 q r k R rr) (hO0 : ∀ x, O0.testBit x = true → x < n) (hdis : ∀ x, D0.testBit x = true → O0.testBit x = true → False) (hall : ∀ x, O.testBit x = true → D0.testBit x = true ∨ O0.testBit x = true) (hr : ∀ x, D0.testBit x = true → r x < tRo T) : ∀ i, i ≤ n →
    ∃ q' r' k' R' rr', TX n rk hd O (tCl hd (chs n rk hd O0) O0 T i).1 (D0 ||| (tCl hd (chs n rk hd O0) O0 T i).2) q' r' k' R' rr' ∧ (∀ x, D0.testBit x = true → r' x < tRo T) ∧ (∀ x, (tCl hd (chs n rk hd O0) O0 T i).2.testBit x = true → O0.testBit x = true) ∧ (∀ x, (tCl hd (chs n rk hd O0) O0 T i).2.testBit x = true → (tCl hd (chs n rk hd O0) O0 T i).2.testBit (chs n rk hd O0 x) = true) ∧ tRo (tCl hd (chs n rk hd O0) O0 T i).1 = tRo T ∧ (tRi T ≤ tRi (tCl hd (chs n rk hd O0) O0 T i).1 ∧ ((tCl hd (chs n rk hd O0) O0 T i).2 ≠ 0 → tRi T < tRi (tCl hd (chs n rk hd O0) O0 T i).1))
  | 0, _ => ⟨q, r, k, R, rr, by show TX n rk hd O T (D0 ||| 0) q r k R rr; rw [Nat.or_zero]; exact h, hr, fun x hx => by simp [tCl] at hx, fun x hx => by simp [tCl] at hx, rfl, Nat.le_refl _, fun z => absurd rfl z⟩
  | i + 1, hi => by
    obtain ⟨q', r', k', R', rr', a1, a2, a3, a4, a5, a6, a7⟩ := tCl_X h hO0 hdis hall hr i (by omega)
    obtain ⟨P, hP⟩ : ∃ P, P = chs n rk hd O0 := ⟨_, rfl⟩
    have hpc : ∀ x, O0.testBit x = true → O0.testBit (P x) = true := fun x hx => by rw [hP]; exact (chs_in (hO0 x hx) hx).2
    rw [← hP] at a1 a3 a4 a5 a6 a7 ⊢
    have e : tCl hd P O0 T (i + 1) = if O0.testBit i && (!(tCl hd P O0 T i).2.testBit i && decide (rgF P i ≠ 0)) then (tAdd hd P (tCl hd P O0 T i).1 (rgF P i), (tCl hd P O0 T i).2 ||| rgF P i) else tCl hd P O0 T i := rfl
    by_cases c : (O0.testBit i && (!(tCl hd P O0 T i).2.testBit i && decide (rgF P i ≠ 0))) = true
    · rw [e, if_pos c]
      simp only [Bool.and_eq_true, Bool.not_eq_true', decide_eq_true_eq] at c
      obtain ⟨c1, c2, c3⟩ := c
      have hRO : ∀ x, (rgF P i).testBit x = true → O0.testBit x = true := fun x hx => rgF_in hpc c1 c3 hx
      have hdd : ∀ x, (tCl hd P O0 T i).2.testBit x = true → (rgF P i).testBit x = true → False := by
        intro x hx1 hx2
        obtain ⟨b, hb⟩ := rgF_bk c3 hx2
        have := itr_cl (P := fun x => (tCl hd P O0 T i).2.testBit x = true) a4 hx1 b
        rw [hb, c2] at this
        cases this
      have hx := TX.add (p := P) (S := rgF P i) a1 c3 (fun x h1 h2 => by
        rcases ori.mp h1 with h | h
        · exact hdis x h (hRO x h2)
        · exact hdd x h h2) (fun x hx => rgF_cl c3 hx) (fun x hx => rgF_su c3 hx) (fun x y h1 h2 h3 => rgF_se c3 h1 h2 h3) (fun x hx => by
          have hc := chF_is (rk := rk) (hd := hd) (O := O0) (i := x) n
          have hPx : P x = chF rk hd O0 x n := by rw [hP]; rfl
          refine ⟨fun j hj hr' => ?_, fun hq => ?_⟩
          · have hj0 : O0.testBit j = true := by
              rcases hall j hj with h | h
              · have h8 := a2 j h
                have h9 := hr' (ori.mpr (Or.inl h))
                rw [a5] at h9
                omega
              · exact h
            rw [hPx]
            exact hc.2.1 j (Nat.zero_le _) (hO0 j hj0) hj0
          · rw [hPx] at hq ⊢
            exact hc.2.2.2.1 hq)
      refine ⟨_, _, _, _, _, (by rw [← Nat.or_assoc]; exact hx), fun x hx => ?_, fun x hx => ?_, fun x hx => ?_, a5, ?_, fun _ => ?_⟩
      · show (if (rgF P i).testBit x then tRo (tCl hd P O0 T i).1 else r' x) < tRo T
        rw [if_neg (fun z => hdis x hx (hRO x z))]
        exact a2 x hx
      · rcases ori.mp hx with h | h
        · exact a3 x h
        · exact hRO x h
      · rcases ori.mp hx with h | h
        · exact ori.mpr (Or.inl (a4 x h))
        · exact ori.mpr (Or.inr (rgF_cl c3 h))
      · show tRi T ≤ tRi (tCl hd P O0 T i).1 + 1
        omega
      · show tRi T < tRi (tCl hd P O0 T i).1 + 1
        omega
    · rw [e, if_neg c]
      exact ⟨q', r', k', R', rr', a1, a2, a3, a4, a5, a6, a7⟩
/-- all rounds -/
theorem tRs_X (h7 : n ≤ 7) (hO : ∀ x, O.testBit x = true → x < n) : ∀ m,
    ∃ D q r k R rr, TX n rk hd O (tRs n rk hd O m).1 D q r k R rr ∧ (∀ x, (D.testBit x = true ∨ (tRs n rk hd O m).2.testBit x = true) ↔ O.testBit x = true) ∧ (∀ x, D.testBit x = true → (tRs n rk hd O m).2.testBit x = true → False) ∧ (∀ x, D.testBit x = true → r x < tRo (tRs n rk hd O m).1) ∧ (∀ j, j < tRi (tRs n rk hd O m).1 → rr j < tRo (tRs n rk hd O m).1) ∧ tRo (tRs n rk hd O m).1 ≤ tRi (tRs n rk hd O m).1
  | 0 => by
    refine ⟨0, fun _ => 0, fun _ => 0, fun _ => 0, fun _ => 0, fun _ => 0, ⟨fun i _ _ => ⟨rfl, rfl, rfl⟩, fun i hi => ?_, fun j hj => absurd hj (Nat.not_lt_zero _), fun j j' _ hj => absurd hj (Nat.not_lt_zero _), fun i hi => ?_⟩, fun x => ?_, fun x hx => ?_, fun x hx => ?_, fun j hj => absurd hj (Nat.not_lt_zero _), Nat.le_refl _⟩
    · simp at hi
    · simp at hi
    · show _ ∨ O.testBit x = true ↔ _
      simp
    · simp at hx
    · simp at hx
  | m + 1 => by
    obtain ⟨D, q, r, k, R, rr, a1, a2, a3, a4, a5, a6⟩ := tRs_X h7 hO m
    have e : tRs n rk hd O (m + 1) = tRd n rk hd (tRs n rk hd O m) := rfl
    rw [e]
    generalize tRs n rk hd O m = Z at a1 a2 a3 a4 a5 a6 ⊢
    by_cases c : Z.2 = 0
    · have e2 : tRd n rk hd Z = Z := if_pos c
      rw [e2]
      exact ⟨D, q, r, k, R, rr, a1, a2, a3, a4, a5, a6⟩
    · have hZO : ∀ x, Z.2.testBit x = true → x < n := fun x hx => hO x ((a2 x).mp (Or.inr hx))
      have hpc : ∀ x, Z.2.testBit x = true → Z.2.testBit (chs n rk hd Z.2 x) = true := fun x hx => (chs_in (hZO x hx) hx).2
      obtain ⟨q', r', k', R', rr', b1, b2, b3, b4, b5, b6, b7⟩ := tCl_X (TX.first (p := chs n rk hd Z.2) (S := Z.2) a1) hZO a3 (fun x hx => (a2 x).mpr hx) a4 n (Nat.le_refl _)
      have e2 : tRd n rk hd Z = (((tCl hd (chs n rk hd Z.2) Z.2 (tFs (chs n rk hd Z.2) Z.2 Z.1) n).1.1, (tCl hd (chs n rk hd Z.2) Z.2 (tFs (chs n rk hd Z.2) Z.2 Z.1) n).1.2.1 + 1, (tCl hd (chs n rk hd Z.2) Z.2 (tFs (chs n rk hd Z.2) Z.2 Z.1) n).1.2.2), zdf Z.2 (tCl hd (chs n rk hd Z.2) Z.2 (tFs (chs n rk hd Z.2) Z.2 Z.1) n).2) := if_neg c
      rw [e2]
      obtain ⟨W, hW⟩ : ∃ W, W = tCl hd (chs n rk hd Z.2) Z.2 (tFs (chs n rk hd Z.2) Z.2 Z.1) n := ⟨_, rfl⟩
      have hne : W.2 ≠ 0 := by
        obtain ⟨x0, hx0⟩ := Nat.exists_testBit_of_ne_zero c
        have hZ128 : Z.2 < 128 := O_7 h7 hZO
        obtain ⟨j, j1, j2⟩ := rgF_ex hZ128 hpc hx0
        intro z
        have hin : ∀ i, i ≤ n → ∀ j, j < i → Z.2.testBit j = true → rgF (chs n rk hd Z.2) j ≠ 0 → (tCl hd (chs n rk hd Z.2) Z.2 (tFs (chs n rk hd Z.2) Z.2 Z.1) i).2 ≠ 0 := by
          intro i
          induction i with
          | zero => intro _ j hj; omega
          | succ i ih =>
            intro hi j hj h1 h2
            show (if Z.2.testBit i && (!(tCl hd (chs n rk hd Z.2) Z.2 (tFs (chs n rk hd Z.2) Z.2 Z.1) i).2.testBit i && decide (rgF (chs n rk hd Z.2) i ≠ 0)) then _ else tCl hd (chs n rk hd Z.2) Z.2 (tFs (chs n rk hd Z.2) Z.2 Z.1) i).2 ≠ 0
            split
            · rename_i c9
              simp only [Bool.and_eq_true, Bool.not_eq_true', decide_eq_true_eq] at c9
              intro z
              have : ((tCl hd (chs n rk hd Z.2) Z.2 (tFs (chs n rk hd Z.2) Z.2 Z.1) i).2 ||| rgF (chs n rk hd Z.2) i).testBit i = true := ori.mpr (Or.inr (rgF_self c9.2.2))
              rw [show (tCl hd (chs n rk hd Z.2) Z.2 (tFs (chs n rk hd Z.2) Z.2 Z.1) i).2 ||| rgF (chs n rk hd Z.2) i = 0 from z] at this
              simp at this
            · rename_i c9
              rcases Nat.lt_or_eq_of_le (Nat.le_of_lt_succ hj) with h | h
              · exact ih (by omega) j h h1 h2
              · subst h
                intro z
                refine c9 ?_
                rw [h1, z]
                simpa using h2
        exact hin n (Nat.le_refl _) j (hZO j j1) j1 j2 (by rw [← hW]; exact z)
      rw [← hW] at b1 b3 b5 b6 b7 ⊢
      have b5 : W.1.2.1 = tRo Z.1 := b5
      have b7 := b7 hne
      have b7 : tRi Z.1 < W.1.1 := b7
      have hrk : ∀ x, (D ||| W.2).testBit x = true → r' x ≤ W.1.2.1 := fun x hx => by
        obtain ⟨-, -, -, -, c5, c6, c7⟩ := b1.2.1 x hx
        rw [← c7]
        exact (b1.2.2.1 _ c5).2.2.2.1
      refine ⟨D ||| W.2, q', r', k', R', rr', TX.round b1, fun x => ?_, fun x h1 h2 => ?_, fun x hx => ?_, fun j hj => ?_, ?_⟩
      · show (_ ∨ (zdf Z.2 W.2).testBit x = true) ↔ _
        rw [ori, ← a2 x, zdf_tb, Bool.and_eq_true, Bool.not_eq_true']
        constructor
        · rintro ((h | h) | h)
          · exact Or.inl h
          · exact Or.inr (b3 x h)
          · exact Or.inr h.1
        · rintro (h | h)
          · exact Or.inl (Or.inl h)
          · cases c2 : W.2.testBit x
            · exact Or.inr ⟨h, rfl⟩
            · exact Or.inl (Or.inr rfl)
      · have h2 : (zdf Z.2 W.2).testBit x = true := h2
        rw [zdf_tb, Bool.and_eq_true, Bool.not_eq_true'] at h2
        rcases ori.mp h1 with h | h
        · exact a3 x h h2.1
        · rw [h2.2] at h; cases h
      · exact Nat.lt_succ_of_le (hrk x hx)
      · exact Nat.lt_succ_of_le (b1.2.2.1 j hj).2.2.2.1
      · show W.1.2.1 + 1 ≤ W.1.1
        have : tRo Z.1 ≤ tRi Z.1 := a6
        omega
/-- the first choices -/
theorem tRs_fi : ∀ m, ((tRs n rk hd O m).1.2.1 = 0 → tRs n rk hd O m = (tZ, O)) ∧ ((tRs n rk hd O m).1.2.1 ≠ 0 → ∀ i, tFi (tRs n rk hd O m).1 i = if O.testBit i then nI (chs n rk hd O i) else -9)
  | 0 => ⟨fun _ => rfl, fun z => absurd rfl z⟩
  | m + 1 => by
    obtain ⟨a1, a2⟩ := tRs_fi m
    have e : tRs n rk hd O (m + 1) = tRd n rk hd (tRs n rk hd O m) := rfl
    rw [e]
    generalize tRs n rk hd O m = Z at a1 a2 ⊢
    by_cases c : Z.2 = 0
    · have e2 : tRd n rk hd Z = Z := if_pos c
      rw [e2]
      exact ⟨a1, a2⟩
    · have e2 : tRd n rk hd Z = (((tCl hd (chs n rk hd Z.2) Z.2 (tFs (chs n rk hd Z.2) Z.2 Z.1) n).1.1, (tCl hd (chs n rk hd Z.2) Z.2 (tFs (chs n rk hd Z.2) Z.2 Z.1) n).1.2.1 + 1, (tCl hd (chs n rk hd Z.2) Z.2 (tFs (chs n rk hd Z.2) Z.2 Z.1) n).1.2.2), zdf Z.2 (tCl hd (chs n rk hd Z.2) Z.2 (tFs (chs n rk hd Z.2) Z.2 Z.1) n).2) := if_neg c
      rw [e2]
      have hfi : ∀ (T : zT) (p : Nat → Nat) (S m : Nat), tFi (tCl hd p S T m).1 = tFi T := by
        intro T p S m
        induction m with
        | zero => rfl
        | succ m ih =>
          show tFi (if S.testBit m && (!(tCl hd p S T m).2.testBit m && decide (rgF p m ≠ 0)) then (tAdd hd p (tCl hd p S T m).1 (rgF p m), (tCl hd p S T m).2 ||| rgF p m) else tCl hd p S T m).1 = _
          split
          · exact ih
          · exact ih
      refine ⟨fun z => absurd z (Nat.succ_ne_zero _), fun _ i => ?_⟩
      have h1 : tFi (tCl hd (chs n rk hd Z.2) Z.2 (tFs (chs n rk hd Z.2) Z.2 Z.1) n).1 i = tFi (tFs (chs n rk hd Z.2) Z.2 Z.1) i := by rw [hfi]
      refine h1.trans ?_
      show (if tRo Z.1 = 0 ∧ Z.2.testBit i = true then nI (chs n rk hd Z.2 i) else tFi Z.1 i) = _
      by_cases c1 : tRo Z.1 = 0
      · have e3 := a1 c1
        rw [e3]
        by_cases c2 : O.testBit i = true
        · rw [if_pos ⟨rfl, c2⟩, if_pos c2]
        · rw [if_neg (fun z => c2 z.2), if_neg c2]
          rfl
      · rw [if_neg (fun z => c1 z.1)]
        exact a2 c1 i
end TX0
section TXM
variable {M : zM}
/-- what the trading of a market tells -/
theorem mTX (hw : MW M) {O : Nat} (hO : ∀ x, O.testBit x = true → x < mN M) :
    ∃ q r k R rr, TX (mN M) (mR M) (mH M) O (mT M O) O q r k R rr ∧ (∀ x, O.testBit x = true → r x < tRo (mT M O)) ∧ (∀ j, j < tRi (mT M O) → rr j < tRo (mT M O)) ∧ tRo (mT M O) ≤ tRi (mT M O) ∧ ∀ i, i < mN M → tFi (mT M O) i = if O.testBit i then nI (chs (mN M) (mR M) (mH M) O i) else -9 := by
  obtain ⟨D, q, r, k, R, rr, a1, a2, a3, a4, a5, a6⟩ := tRs_X (rk := mR M) (hd := mH M) hw.1 hO 7
  obtain ⟨D', b1, b2, b3, b4, b5, b6⟩ := tRs_ok (rk := mR M) hw.1 hw.2.2.2.1 hw.2.2.2.2 hO 7
  have h0 := pc_0 _ b4 (by omega)
  have e : D = O := by
    apply Nat.eq_of_testBit_eq
    intro i
    have h1 := a2 i
    rw [h0] at h1
    simp only [Nat.zero_testBit, Bool.false_eq_true, or_false] at h1
    cases e1 : D.testBit i
    · cases e2 : O.testBit i
      · rfl
      · rw [h1.mpr e2] at e1; cases e1
    · rw [h1.mp e1]
  subst e
  refine ⟨q, r, k, R, rr, a1, a4, a5, a6, fun i hi => ?_⟩
  obtain ⟨f1, f2⟩ := tRs_fi (n := mN M) (rk := mR M) (hd := mH M) (O := D) 7
  by_cases c : (tRs (mN M) (mR M) (mH M) D 7).1.2.1 = 0
  · have e := f1 c
    rw [e] at h0
    have h0 : D = 0 := h0
    show tFi (tRs (mN M) (mR M) (mH M) D 7).1 i = _
    rw [e]
    show (-9 : Int32) = _
    rw [h0, if_neg (by simp)]
  · exact f2 c i
end TXM
