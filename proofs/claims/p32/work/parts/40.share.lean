/-! SHARING, as both sides count it -/
def lkM (M : zM) (how i t : Nat) : Bool := if how = 0 then decide (mR M i t ≤ mR M i (mH M i)) else if how = 1 then decide (mR M i t = mR M i (mH M i)) else decide (mR M i t < mR M i (mH M i))
def bS (S : Nat) : Nat → Nat := cnt (fun i => S.testBit i)
/-- the k-th of a set, of those below i -/
def selF (S : Nat) : Nat → Nat → Nat
  | 0, _ => 0
  | i + 1, k => if S.testBit i && decide (k = bS S i) then i else selF S i k
theorem bS_s (S i : Nat) : bS S (i + 1) = bS S i + (S.testBit i).toNat := rfl
theorem bS_t {S i : Nat} (h : S.testBit i = true) : bS S (i + 1) = bS S i + 1 := by rw [bS_s, h]; rfl
theorem bS_f {S i : Nat} (h : S.testBit i = false) : bS S (i + 1) = bS S i := by rw [bS_s, h]; rfl
theorem bS_mono {S i : Nat} : ∀ j, i ≤ j → bS S i ≤ bS S j
  | 0, h => by rw [Nat.le_zero.mp h]; exact Nat.le_refl _
  | j + 1, h => by
    rcases Nat.lt_or_eq_of_le h with h1 | h1
    · have := bS_mono (S := S) (i := i) j (by omega)
      rw [bS_s]
      omega
    · rw [h1]; exact Nat.le_refl _
theorem selF_at {S i : Nat} (h : S.testBit i = true) : ∀ n, i < n → selF S n (bS S i) = i
  | 0, hn => by omega
  | n + 1, hn => by
    show (if S.testBit n && decide (bS S i = bS S n) then n else selF S n (bS S i)) = i
    by_cases e : i = n
    · subst e
      rw [h, decide_eq_true rfl]
      rfl
    · have h1 := bS_mono (S := S) (i := i + 1) n (by omega)
      rw [bS_t h] at h1
      rw [decide_eq_false (by omega), Bool.and_false, if_neg (by decide)]
      exact selF_at h n (by omega)
theorem selF_lt {S n k : Nat} : ∀ i, i ≤ n → k < bS S i → selF S i k < n ∧ S.testBit (selF S i k) = true ∧ bS S (selF S i k) = k ∧ selF S i k < i
  | 0, _, h => absurd h (Nat.not_lt_zero _)
  | i + 1, hi, h => by
    show (if S.testBit i && decide (k = bS S i) then i else selF S i k) < n ∧ S.testBit (if S.testBit i && decide (k = bS S i) then i else selF S i k) = true ∧ bS S (if S.testBit i && decide (k = bS S i) then i else selF S i k) = k ∧ (if S.testBit i && decide (k = bS S i) then i else selF S i k) < i + 1
    cases e : S.testBit i && decide (k = bS S i)
    · have hk : k < bS S i := by
        cases h1 : S.testBit i
        · rw [bS_f h1] at h; exact h
        · rw [bS_t h1] at h
          rw [h1, Bool.true_and, decide_eq_false_iff_not] at e
          omega
      obtain ⟨a, b, c, d⟩ := selF_lt (n := n) i (by omega) hk
      simp only [Bool.false_eq_true, if_false]
      exact ⟨a, b, c, by omega⟩
    · rw [Bool.and_eq_true, decide_eq_true_eq] at e
      simp only [if_true]
      exact ⟨by omega, e.1, e.2.symm, by omega⟩
/-- in how many ways those in line can take just the things X -/
def WL (lk : Nat → Nat → Bool) (line : Nat → Nat) : Nat → Nat → Nat
  | 0, X => if X = 0 then 1 else 0
  | d + 1, X => smm (fun t => if X.testBit t && lk (line d) t then WL lk line d (X ^^^ 2 ^ t) else 0) 7
theorem smm_le {f : Nat → Nat} {c : Nat} (h : ∀ i, f i ≤ c) : ∀ n, smm f n ≤ n * c
  | 0 => by simp [smm]
  | n + 1 => by
    have := smm_le h n
    have := h n
    rw [smm_s, Nat.succ_mul]
    omega
theorem WL_le (lk : Nat → Nat → Bool) (line : Nat → Nat) : ∀ d X, WL lk line d X ≤ 7 ^ d
  | 0, X => by
    show (if X = 0 then 1 else 0) ≤ 1
    split <;> omega
  | d + 1, X => by
    show smm _ 7 ≤ 7 ^ (d + 1)
    have := smm_le (f := fun t => if X.testBit t && lk (line d) t then WL lk line d (X ^^^ 2 ^ t) else 0) (c := 7 ^ d) (fun t => by
      split
      · exact WL_le lk line d _
      · exact Nat.zero_le _) 7
    rw [Nat.pow_succ]
    omega
theorem WL_b {lk : Nat → Nat → Bool} {line : Nat → Nat} {d X : Nat} (hd : d ≤ 7) : WL lk line d X < 2147483648 := by
  have h1 := WL_le lk line d X
  have h2 : 7 ^ d ≤ 7 ^ 7 := Nat.pow_le_pow_right (by omega) hd
  have h3 : 7 ^ 7 = 823543 := by decide
  omega
/-- X is made of things -/
def sub (X th : Nat) : Bool := decide (zdf X th = 0)
theorem sub_iff {X th : Nat} : sub X th = true ↔ ∀ x, X.testBit x = true → th.testBit x = true := by
  unfold sub
  rw [decide_eq_true_eq]
  constructor
  · intro h x hx
    have := zdf_tb X th x
    rw [h, Nat.zero_testBit, hx, Bool.true_and] at this
    cases e : th.testBit x
    · rw [e] at this; cases this
    · rfl
  · intro h
    apply Nat.eq_of_testBit_eq
    intro x
    rw [zdf_tb, Nat.zero_testBit]
    cases e : X.testBit x
    · rfl
    · rw [h x e]; rfl
theorem sub_le {X th : Nat} (h : sub X th = true) : X ≤ th := by
  have h1 : X &&& th = X := by
    apply Nat.eq_of_testBit_eq
    intro x
    rw [Nat.testBit_and]
    cases e : X.testBit x
    · rfl
    · rw [sub_iff.mp h x e]; rfl
  rw [← h1]
  exact Nat.and_le_right
/-- one thing more, one less -/
theorem or_xor {T t : Nat} (h : T.testBit t = false) : (T ||| 2 ^ t) ^^^ 2 ^ t = T := by
  apply Nat.eq_of_testBit_eq
  intro x
  rw [Nat.testBit_xor, Nat.testBit_or, Nat.testBit_two_pow]
  by_cases e : t = x
  · subst e; rw [h]; simp
  · rw [decide_eq_false e]; simp
theorem xor_or {X t : Nat} (h : X.testBit t = true) : (X ^^^ 2 ^ t) ||| 2 ^ t = X := by
  apply Nat.eq_of_testBit_eq
  intro x
  rw [Nat.testBit_or, Nat.testBit_xor, Nat.testBit_two_pow]
  by_cases e : t = x
  · subst e; rw [h]; simp
  · rw [decide_eq_false e]; simp
theorem xor_tb {X t : Nat} (h : X.testBit t = true) : (X ^^^ 2 ^ t).testBit t = false := by
  rw [Nat.testBit_xor, h, Nat.testBit_two_pow_self]; rfl
theorem or_inj {T t u : Nat} (h : T.testBit t = false) (e : T ||| 2 ^ t = T ||| 2 ^ u) (hu : T.testBit u = false) : t = u := by
  have h1 : (T ||| 2 ^ u).testBit t = true := by rw [← e, Nat.testBit_or, Nat.testBit_two_pow_self, Bool.or_true]
  rw [Nat.testBit_or, h, Bool.false_or, Nat.testBit_two_pow] at h1
  exact (of_decide_eq_true h1).symm
theorem xor_128 {X t : Nat} (h : X < 128) (ht : t < 7) : X ^^^ 2 ^ t < 128 := Nat.xor_lt_two_pow (n := 7) h (Nat.pow_lt_pow_right (by omega) ht)
theorem or_128 {X t : Nat} (h : X < 128) (ht : t < 7) : X ||| 2 ^ t < 128 := Nat.or_lt_two_pow (n := 7) h (Nat.pow_lt_pow_right (by omega) ht)
theorem xor_lt0 : ∀ X, X < 128 → ∀ t, t < 7 → X.testBit t = true → X ^^^ 2 ^ t < X := by decide +kernel
theorem xor_lt {X t : Nat} (hX : X < 128) (h : X.testBit t = true) : X ^^^ 2 ^ t < X := xor_lt0 X hX t (tb_7 hX h) h
theorem pc_xor {X t : Nat} (hX : X < 128) (h : X.testBit t = true) : pc X = pc (X ^^^ 2 ^ t) + 1 := by
  have ht := tb_7 hX h
  have := (pc_or _ (xor_128 hX ht) t ht (xor_tb h)).2
  rw [xor_or h] at this
  exact this
/-- a sum with one summand changed -/
theorem smm_cg {f g : Nat → Nat} : ∀ n, (∀ i, i < n → f i = g i) → smm f n = smm g n
  | 0, _ => rfl
  | n + 1, h => by rw [smm_s, smm_s, smm_cg n (fun i hi => h i (by omega)), h n (by omega)]
theorem smm_one {f g : Nat → Nat} {u c : Nat} (hu : f u = g u + c) (h : ∀ i, i ≠ u → f i = g i) : ∀ n, u < n → smm f n = smm g n + c
  | 0, hn => by omega
  | n + 1, hn => by
    rw [smm_s, smm_s]
    by_cases e : u = n
    · subst e
      rw [smm_cg u (fun i hi => h i (by omega)), hu]
      omega
    · rw [smm_one hu h n (by omega), h n (fun z => e z.symm)]
      omega
theorem smm_0 {f : Nat → Nat} : ∀ n, (∀ i, i < n → f i = 0) → smm f n = 0
  | 0, _ => rfl
  | n + 1, h => by rw [smm_s, smm_0 n (fun i hi => h i (by omega)), h n (by omega)]
/-- the class's table: what stands at X when all sets below T are spread -/
def FX (lk : Nat → Nat → Bool) (line : Nat → Nat) (q th X : Nat) : Nat := if sub X th && decide (pc X ≤ q) then WL lk line (pc X) X else 0
def PX (lk : Nat → Nat → Bool) (line : Nat → Nat) (q th T X : Nat) : Nat := (if X = 0 then 1 else 0) + smm (fun t => if X.testBit t && (th.testBit t && (decide (X ^^^ 2 ^ t < T) && (decide (pc (X ^^^ 2 ^ t) < q) && lk (line (pc (X ^^^ 2 ^ t))) t))) then FX lk line q th (X ^^^ 2 ^ t) else 0) 7
theorem PX_0 (lk : Nat → Nat → Bool) (line : Nat → Nat) (q th X : Nat) : PX lk line q th 0 X = if X = 0 then 1 else 0 := by
  unfold PX
  rw [smm_0 7 (fun t _ => by rw [decide_eq_false (Nat.not_lt_zero _)]; simp), Nat.add_zero]
theorem PX_fin {lk : Nat → Nat → Bool} {line : Nat → Nat} {q th X T : Nat} (hX : X < 128) (hT : X ≤ T) : PX lk line q th T X = FX lk line q th X := by
  unfold PX
  by_cases h0 : X = 0
  · subst h0
    rw [smm_0 7 (fun t _ => by rw [Nat.zero_testBit]; rfl)]
    unfold FX
    have h1 : sub 0 th = true := sub_iff.mpr fun x hx => by simp at hx
    have h2 : pc 0 = 0 := rfl
    rw [h1, h2, decide_eq_true (Nat.zero_le _)]
    rfl
  · rw [if_neg h0, Nat.zero_add]
    have hpc : 0 < pc X := by
      rcases Nat.eq_zero_or_pos (pc X) with h | h
      · exact absurd (pc_0 X hX h) h0
      · exact h
    by_cases hs : sub X th = true
    · by_cases hq : pc X ≤ q
      · have e : FX lk line q th X = WL lk line (pc X) X := by unfold FX; rw [hs, decide_eq_true hq]; rfl
        rw [e]
        obtain ⟨d, hd⟩ : ∃ d, pc X = d + 1 := ⟨pc X - 1, by omega⟩
        rw [hd]
        show _ = smm (fun t => if X.testBit t && lk (line d) t then WL lk line d (X ^^^ 2 ^ t) else 0) 7
        refine smm_cg 7 fun t ht => ?_
        cases c : X.testBit t
        · rfl
        · have p1 := pc_xor hX c
          have p2 : pc (X ^^^ 2 ^ t) = d := by omega
          have p3 := xor_lt hX c
          have p4 : sub (X ^^^ 2 ^ t) th = true := sub_iff.mpr fun x hx => by
            apply sub_iff.mp hs
            rw [← xor_or c, Nat.testBit_or, hx, Bool.true_or]
          rw [sub_iff.mp hs t c, p2, decide_eq_true (show X ^^^ 2 ^ t < T by omega), decide_eq_true (show d < q by omega)]
          unfold FX
          rw [p4, p2, decide_eq_true (show d ≤ q by omega)]
          rfl
      · have e : FX lk line q th X = 0 := by unfold FX; rw [decide_eq_false hq]; simp
        rw [e]
        refine smm_0 7 fun t ht => ?_
        cases c : X.testBit t
        · rfl
        · have p1 := pc_xor hX c
          rw [decide_eq_false (show ¬ pc (X ^^^ 2 ^ t) < q by omega)]
          simp
    · have e : FX lk line q th X = 0 := by unfold FX; rw [Bool.not_eq_true] at hs; rw [hs]; rfl
      rw [e]
      refine smm_0 7 fun t ht => ?_
      cases c : X.testBit t
      · rfl
      · cases c2 : th.testBit t
        · rfl
        · have p4 : sub (X ^^^ 2 ^ t) th = false := by
            cases h9 : sub (X ^^^ 2 ^ t) th
            · rfl
            · exfalso
              apply hs
              refine sub_iff.mpr fun x hx => ?_
              rw [← xor_or c, Nat.testBit_or, Bool.or_eq_true] at hx
              rcases hx with h | h
              · exact sub_iff.mp h9 x h
              · rw [Nat.testBit_two_pow] at h
                have : t = x := by simpa using h
                rw [← this]; exact c2
          have e2 : FX lk line q th (X ^^^ 2 ^ t) = 0 := by unfold FX; rw [p4]; rfl
          rw [e2]
          simp
/-- T is spread over the things up to j -/
def QX (lk : Nat → Nat → Bool) (line : Nat → Nat) (q th T j X : Nat) : Nat := PX lk line q th T X + (if decide (pc T < q) && ((List.range j).any fun t => !T.testBit t && (th.testBit t && (lk (line (pc T)) t && decide (X = T ||| 2 ^ t)))) then FX lk line q th T else 0)
theorem PX_s {lk : Nat → Nat → Bool} {line : Nat → Nat} {q th T X : Nat} (hX : X < 128) : PX lk line q th (T + 1) X = QX lk line q th T 7 X := by
  unfold QX PX
  rw [Nat.add_assoc]
  congr 1
  by_cases h : ∃ t, t < 7 ∧ X.testBit t = true ∧ X ^^^ 2 ^ t = T
  · obtain ⟨u, u1, u2, u3⟩ := h
    have huT : T.testBit u = false := by rw [← u3]; exact xor_tb u2
    have hXT : X = T ||| 2 ^ u := by rw [← u3, xor_or u2]
    have hrest : ∀ t, t ≠ u → (if X.testBit t && (th.testBit t && (decide (X ^^^ 2 ^ t < T + 1) && (decide (pc (X ^^^ 2 ^ t) < q) && lk (line (pc (X ^^^ 2 ^ t))) t))) then FX lk line q th (X ^^^ 2 ^ t) else 0) = (if X.testBit t && (th.testBit t && (decide (X ^^^ 2 ^ t < T) && (decide (pc (X ^^^ 2 ^ t) < q) && lk (line (pc (X ^^^ 2 ^ t))) t))) then FX lk line q th (X ^^^ 2 ^ t) else 0) := by
      intro t ht
      cases c : X.testBit t
      · rfl
      · have : X ^^^ 2 ^ t ≠ T := fun e => by
          have h1 : T.testBit t = false := by rw [← e]; exact xor_tb c
          have h2 : X = T ||| 2 ^ t := by rw [← e, xor_or c]
          exact ht (or_inj h1 (h2.symm.trans hXT) huT)
        rw [show decide (X ^^^ 2 ^ t < T + 1) = decide (X ^^^ 2 ^ t < T) from decide_eq_decide.mpr (by omega)]
    have hany : ((List.range 7).any fun t => !T.testBit t && (th.testBit t && (lk (line (pc T)) t && decide (X = T ||| 2 ^ t)))) = (th.testBit u && lk (line (pc T)) u) := by
      cases e : (th.testBit u && lk (line (pc T)) u)
      · rw [List.any_eq_false]
        intro t ht
        cases h1 : T.testBit t
        · by_cases h2 : X = T ||| 2 ^ t
          · have := or_inj h1 (h2.symm.trans hXT) huT
            subst this
            rw [Bool.and_eq_false_iff] at e
            rcases e with e | e <;> simp [e]
          · simp [h2]
        · simp
      · rw [List.any_eq_true]
        refine ⟨u, List.mem_range.mpr u1, ?_⟩
        rw [Bool.and_eq_true] at e
        simp [huT, e.1, e.2, hXT]
    rw [hany]
    refine smm_one (u := u) ?_ hrest 7 u1
    rw [u2, u3, decide_eq_false (Nat.lt_irrefl T), decide_eq_true (Nat.lt_succ_self T)]
    cases th.testBit u <;> cases lk (line (pc T)) u <;> cases decide (pc T < q) <;> simp
  · have hany : ((List.range 7).any fun t => !T.testBit t && (th.testBit t && (lk (line (pc T)) t && decide (X = T ||| 2 ^ t)))) = false := by
      rw [List.any_eq_false]
      intro t ht
      cases h1 : T.testBit t
      · by_cases h2 : X = T ||| 2 ^ t
        · exact absurd ⟨t, List.mem_range.mp ht, by rw [h2, Nat.testBit_or, Nat.testBit_two_pow_self, Bool.or_true], by rw [h2, or_xor h1]⟩ h
        · simp [h2]
      · simp
    rw [hany, Bool.and_false, if_neg (by decide), Nat.add_zero]
    refine smm_cg 7 fun t ht => ?_
    cases c : X.testBit t
    · rfl
    · have : X ^^^ 2 ^ t ≠ T := fun e => h ⟨t, ht, c, e⟩
      rw [show decide (X ^^^ 2 ^ t < T + 1) = decide (X ^^^ 2 ^ t < T) from decide_eq_decide.mpr (by omega)]
