/-! THE SEARCH: how holdings are numbered, the queue -/
def lhL (n : Nat) (H : Nat → Nat) : Nat → Nat
  | 0 => 2 ^ n - 1
  | i + 1 => zdf (lhL n H i) (2 ^ H i)
def lhC (n : Nat) (H : Nat → Nat) (i : Nat) : Nat := cnt (fun j => (lhL n H i).testBit j) (H i)
def lhN (n : Nat) (H : Nat → Nat) : Nat → Nat
  | 0 => 0
  | i + 1 => lhN n H i * (n - i) + lhC n H i
def PM (n : Nat) (H : Nat → Nat) : Prop := (∀ i, i < n → H i < n) ∧ ∀ i j, i < n → j < n → H i = H j → i = j
theorem lhL_tb {n : Nat} {H : Nat → Nat} : ∀ i x, (lhL n H i).testBit x = true ↔ x < n ∧ ∀ j, j < i → H j ≠ x
  | 0, x => by
    show (2 ^ n - 1).testBit x = true ↔ _
    rw [Nat.testBit_two_pow_sub_one, decide_eq_true_eq]
    exact ⟨fun h => ⟨h, fun j hj => absurd hj (Nat.not_lt_zero _)⟩, fun h => h.1⟩
  | i + 1, x => by
    show (zdf (lhL n H i) (2 ^ H i)).testBit x = true ↔ _
    rw [zdf_tb, Bool.and_eq_true, Bool.not_eq_true', Nat.testBit_two_pow, decide_eq_false_iff_not, lhL_tb i x]
    constructor
    · rintro ⟨⟨h1, h2⟩, h3⟩
      refine ⟨h1, fun j hj => ?_⟩
      rcases Nat.lt_or_eq_of_le (Nat.le_of_lt_succ hj) with h | h
      · exact h2 j h
      · rw [h]; exact h3
    · rintro ⟨h1, h2⟩
      exact ⟨⟨h1, fun j hj => h2 j (by omega)⟩, h2 i (by omega)⟩
theorem cnt_rm {p q : Nat → Bool} {x : Nat} (hp : p x = true) (hq : q x = false) (h : ∀ i, i ≠ x → q i = p i) : ∀ m, cnt q m + (if x < m then 1 else 0) = cnt p m
  | 0 => rfl
  | m + 1 => by
    have ih := cnt_rm hp hq h m
    by_cases e : m = x
    · subst e
      rw [cnt_f hq, cnt_t hp, if_pos (by omega)]
      rw [if_neg (by omega)] at ih
      omega
    · rw [cnt_s, cnt_s, h m e]
      by_cases c : x < m
      · rw [if_pos c] at ih
        rw [if_pos (by omega)]
        omega
      · rw [if_neg c] at ih
        rw [if_neg (by omega)]
        omega
theorem cnt_all {p : Nat → Bool} : ∀ n, (∀ i, i < n → p i = true) → cnt p n = n
  | 0, _ => rfl
  | n + 1, h => by rw [cnt_t (h n (by omega)), cnt_all n fun i hi => h i (by omega)]
theorem cnt_mono {p : Nat → Bool} {a : Nat} : ∀ b, a ≤ b → cnt p a ≤ cnt p b
  | 0, h => by rw [Nat.le_zero.mp h]; exact Nat.le_refl _
  | b + 1, h => by
    rcases Nat.lt_or_eq_of_le h with h1 | h1
    · have := cnt_mono (p := p) (a := a) b (by omega)
      rw [cnt_s]
      omega
    · rw [h1]; exact Nat.le_refl _
theorem cnt_lt {p : Nat → Bool} {a b : Nat} (ha : p a = true) (h : a < b) : cnt p a < cnt p b := by
  have := cnt_mono (p := p) (a := a + 1) b h
  rw [cnt_t ha] at this
  omega
section LH
variable {n : Nat} {H H' : Nat → Nat}
theorem lhL_in (hH : PM n H) {i : Nat} (hi : i < n) : (lhL n H i).testBit (H i) = true := (lhL_tb i _).mpr ⟨hH.1 i hi, fun j hj e => by
  have := hH.2 j i (by omega) hi e
  omega⟩
theorem lhL_cnt (hH : PM n H) : ∀ i, i ≤ n → cnt (fun j => (lhL n H i).testBit j) n = n - i
  | 0, _ => cnt_all n fun i hi => (lhL_tb 0 i).mpr ⟨hi, fun j hj => absurd hj (Nat.not_lt_zero _)⟩
  | i + 1, hi => by
    have ih := lhL_cnt hH i (by omega)
    have h1 := lhL_in hH (i := i) (by omega)
    have e : ∀ x, (lhL n H (i + 1)).testBit x = ((lhL n H i).testBit x && !decide (H i = x)) := fun x => by
      show (zdf (lhL n H i) (2 ^ H i)).testBit x = _
      rw [zdf_tb, Nat.testBit_two_pow]
    have h2 := cnt_rm (p := fun j => (lhL n H i).testBit j) (q := fun j => (lhL n H (i + 1)).testBit j) h1 (by show (lhL n H (i + 1)).testBit (H i) = false; rw [e, decide_eq_true rfl]; simp) (fun x hx => by show (lhL n H (i + 1)).testBit x = _; rw [e, decide_eq_false (fun z => hx z.symm)]; simp) n
    rw [ih, if_pos (hH.1 i (by omega))] at h2
    omega
theorem lhC_lt (hH : PM n H) {i : Nat} (hi : i < n) : lhC n H i < n - i := by
  have h1 := cnt_lt (p := fun j => (lhL n H i).testBit j) (lhL_in hH hi) (hH.1 i hi)
  rw [lhL_cnt hH i (by omega)] at h1
  exact h1
theorem lhL_cg : ∀ i, (∀ j, j < i → H j = H' j) → lhL n H i = lhL n H' i
  | 0, _ => rfl
  | i + 1, h => by
    show zdf (lhL n H i) (2 ^ H i) = zdf (lhL n H' i) (2 ^ H' i)
    rw [lhL_cg i fun j hj => h j (by omega), h i (by omega)]
theorem lhN_cg : ∀ i, (∀ j, j < i → H j = H' j) → lhN n H i = lhN n H' i
  | 0, _ => rfl
  | i + 1, h => by
    show lhN n H i * (n - i) + lhC n H i = lhN n H' i * (n - i) + lhC n H' i
    have e : lhC n H i = lhC n H' i := by
      unfold lhC
      rw [lhL_cg i fun j hj => h j (by omega), h i (by omega)]
    rw [lhN_cg i fun j hj => h j (by omega), e]
theorem dm_in {a a' d c c' : Nat} (hc : c < d) (hc' : c' < d) (h : a * d + c = a' * d + c') : a = a' ∧ c = c' := by
  have h1 : (a * d + c) / d = a := by rw [Nat.mul_comm, Nat.mul_add_div (by omega), Nat.div_eq_of_lt hc, Nat.add_zero]
  have h2 : (a' * d + c') / d = a' := by rw [Nat.mul_comm, Nat.mul_add_div (by omega), Nat.div_eq_of_lt hc', Nat.add_zero]
  have h3 : a = a' := by rw [← h1, ← h2, h]
  subst h3
  exact ⟨rfl, by omega⟩
theorem lh_dn (hH : PM n H) (hH' : PM n H') : ∀ k, k ≤ n → lhN n H k = lhN n H' k → ∀ i, i < k → lhC n H i = lhC n H' i
  | 0, _, _ => fun i hi => absurd hi (Nat.not_lt_zero _)
  | k + 1, hk, h => by
    obtain ⟨h1, h2⟩ := dm_in (lhC_lt hH (i := k) (by omega)) (lhC_lt hH' (i := k) (by omega)) h
    intro i hi
    rcases Nat.lt_or_eq_of_le (Nat.le_of_lt_succ hi) with h3 | h3
    · exact lh_dn hH hH' k (by omega) h1 i h3
    · rw [h3]; exact h2
theorem lh_inj (hH : PM n H) (hH' : PM n H') (h : lhN n H n = lhN n H' n) : ∀ i, i < n → H i = H' i := by
  have hc := lh_dn hH hH' n (Nat.le_refl _) h
  have : ∀ i, i ≤ n → ∀ j, j < i → H j = H' j := by
    intro i
    induction i with
    | zero => exact fun _ j hj => absurd hj (Nat.not_lt_zero _)
    | succ i ih =>
      intro hi j hj
      have ih := ih (by omega)
      rcases Nat.lt_or_eq_of_le (Nat.le_of_lt_succ hj) with h1 | h1
      · exact ih j h1
      · subst h1
        have e := hc j (by omega)
        unfold lhC at e
        have eL := lhL_cg (n := n) j ih
        have a1 := lhL_in hH (i := j) (by omega)
        have a2 := lhL_in hH' (i := j) (by omega)
        rw [← eL] at e a2
        rcases Nat.lt_trichotomy (H j) (H' j) with c | c | c
        · have := cnt_lt (p := fun x => (lhL n H j).testBit x) a1 c
          omega
        · exact c
        · have := cnt_lt (p := fun x => (lhL n H j).testBit x) a2 c
          omega
  exact this n (Nat.le_refl _)
def ffn (n : Nat) : Nat → Nat
  | 0 => 1
  | i + 1 => ffn n i * (n - i)
theorem lhN_ff (hH : PM n H) : ∀ i, i ≤ n → lhN n H i + 1 ≤ ffn n i
  | 0, _ => Nat.le_refl _
  | i + 1, hi => by
    have h1 := lhN_ff hH i (by omega)
    have h2 := lhC_lt hH (i := i) (by omega)
    have h3 : (lhN n H i + 1) * (n - i) ≤ ffn n i * (n - i) := Nat.mul_le_mul_right _ h1
    show lhN n H i * (n - i) + lhC n H i + 1 ≤ ffn n i * (n - i)
    rw [Nat.succ_mul] at h3
    omega
theorem ffn_7 : ∀ n, n ≤ 7 → ffn n n ≤ 5040 := by decide
theorem lh_lt (hH : PM n H) (h7 : n ≤ 7) : lhN n H n < 5040 := by
  have h1 := lhN_ff hH n (Nat.le_refl _)
  have h2 := ffn_7 n h7
  omega
def sw (H : Nat → Nat) (i j : Nat) : Nat → Nat := fun k => if k = j then H i else if k = i then H j else H k
theorem sw_sw {i j : Nat} : sw (sw H i j) i j = H := by
  funext k
  unfold sw
  by_cases h1 : k = j
  · subst h1
    by_cases h2 : i = k
    · subst h2; simp
    · simp [h2]
  · by_cases h2 : k = i
    · subst h2; simp [h1]
    · simp [h1, h2]
theorem PM.sw (hH : PM n H) {i j : Nat} (hi : i < n) (hj : j < n) : PM n (sw H i j) := by
  refine ⟨fun a ha => ?_, fun a b ha hb h => ?_⟩
  · show (if a = j then H i else if a = i then H j else H a) < n
    split
    · exact hH.1 i hi
    · split
      · exact hH.1 j hj
      · exact hH.1 a ha
  · have h : (if a = j then H i else if a = i then H j else H a) = (if b = j then H i else if b = i then H j else H b) := h
    by_cases a1 : a = j
    · rw [if_pos a1] at h
      by_cases b1 : b = j
      · omega
      · rw [if_neg b1] at h
        by_cases b2 : b = i
        · rw [if_pos b2] at h
          have := hH.2 i j hi hj h
          omega
        · rw [if_neg b2] at h
          have := hH.2 i b hi hb h
          omega
    · rw [if_neg a1] at h
      by_cases a2 : a = i
      · rw [if_pos a2] at h
        by_cases b1 : b = j
        · rw [if_pos b1] at h
          have := hH.2 j i hj hi h
          omega
        · rw [if_neg b1] at h
          by_cases b2 : b = i
          · omega
          · rw [if_neg b2] at h
            have := hH.2 j b hj hb h
            omega
      · rw [if_neg a2] at h
        by_cases b1 : b = j
        · rw [if_pos b1] at h
          have := hH.2 a i ha hi h
          omega
        · rw [if_neg b1] at h
          by_cases b2 : b = i
          · rw [if_pos b2] at h
            have := hH.2 a j ha hj h
            omega
          · rw [if_neg b2] at h
            exact hH.2 a b ha hb h
end LH
/-- as many holes as pigeons -/
theorem pig : ∀ (m len : Nat) (f : Nat → Nat), (∀ j, j < len → f j < m) → (∀ i j, i < len → j < len → f i = f j → i = j) → len ≤ m
  | 0, 0, _, _, _ => Nat.le_refl _
  | 0, len + 1, f, h, _ => absurd (h 0 (by omega)) (Nat.not_lt_zero _)
  | m + 1, len, f, h, hi => by
    by_cases c : ∃ j, j < len ∧ f j = m
    · obtain ⟨j0, c1, c2⟩ := c
      have := pig m (len - 1) (fun j => f (if j < j0 then j else j + 1)) (fun j hj => by
        have h1 := h (if j < j0 then j else j + 1) (by split <;> omega)
        have h2 : f (if j < j0 then j else j + 1) ≠ m := fun e => by
          have h3 := hi _ _ (by split <;> omega) c1 (e.trans c2.symm)
          split at h3 <;> omega
        show f (if j < j0 then j else j + 1) < m
        omega) (fun i j hi' hj' e => by
        have h3 := hi _ _ (by split <;> omega) (by split <;> omega) e
        split at h3 <;> split at h3 <;> omega)
      omega
    · have := pig m len f (fun j hj => by
        have h1 := h j hj
        have h2 : f j ≠ m := fun e => c ⟨j, hj, e⟩
        omega) hi
      omega
/-- the queue: how many stand in it, their holdings, in how many exchanges -/
abbrev zQ : Type := Nat × (Nat → Nat → Nat) × (Nat → Nat)
def fup {α : Type} (f : Nat → α) (k : Nat) (v : α) : Nat → α := fun j => if j = k then v else f j
theorem fup_s {α : Type} {f : Nat → α} {k : Nat} {v : α} : fup f k v k = v := if_pos rfl
theorem fup_o {α : Type} {f : Nat → α} {k j : Nat} {v : α} (h : j ≠ k) : fup f k v j = f j := if_neg h
def qmt (n : Nat) (q : zQ) (x : Nat) : Bool := (List.range q.1).any fun j => decide (lhN n (q.2.1 j) n = x)
def qad (n : Nat) (q : zQ) (H : Nat → Nat) (d : Nat) : zQ := if qmt n q (lhN n H n) then q else (q.1 + 1, fup q.2.1 q.1 H, fup q.2.2 q.1 d)
abbrev wH (M : zM) (H : Nat → Nat) : zM := (mN M, mL M, mR M, H)
def prV (M : zM) (H : Nat → Nat) (k : Nat) : Bool := decide (k / mN M < k % mN M) && decide (mAg (wH M H) (k / mN M) (k % mN M) = 0)
def qex (M : zM) (H : Nat → Nat) (d : Nat) (q : zQ) : Nat → zQ
  | 0 => q
  | k + 1 => if prV M H k then qad (mN M) (qex M H d q k) (sw H (k / mN M) (k % mN M)) d else qex M H d q k
def qst (M : zM) : Nat → zQ
  | 0 => (1, fun _ => mH M, fun _ => 0)
  | K + 1 => if K < (qst M K).1 then qex M ((qst M K).2.1 K) ((qst M K).2.2 K + 1) (qst M K) (mN M * mN M) else qst M K
theorem qmt_iff {n : Nat} {q : zQ} {x : Nat} : qmt n q x = true ↔ ∃ j, j < q.1 ∧ lhN n (q.2.1 j) n = x := by
  unfold qmt
  rw [List.any_eq_true]
  constructor
  · rintro ⟨j, h1, h2⟩
    exact ⟨j, List.mem_range.mp h1, of_decide_eq_true h2⟩
  · rintro ⟨j, h1, h2⟩
    exact ⟨j, List.mem_range.mpr h1, decide_eq_true h2⟩
def QE (q q' : zQ) : Prop := q.1 ≤ q'.1 ∧ ∀ j, j < q.1 → q'.2.1 j = q.2.1 j ∧ q'.2.2 j = q.2.2 j
theorem QE.rf {q : zQ} : QE q q := ⟨Nat.le_refl _, fun _ _ => ⟨rfl, rfl⟩⟩
theorem QE.tr {q r u : zQ} (h1 : QE q r) (h2 : QE r u) : QE q u := ⟨Nat.le_trans h1.1 h2.1, fun j hj => ⟨(h2.2 j (Nat.lt_of_lt_of_le hj h1.1)).1.trans (h1.2 j hj).1, (h2.2 j (Nat.lt_of_lt_of_le hj h1.1)).2.trans (h1.2 j hj).2⟩⟩
theorem qad_E {n : Nat} {q : zQ} {H : Nat → Nat} {d : Nat} : QE q (qad n q H d) := by
  unfold qad
  split
  · exact QE.rf
  · exact ⟨Nat.le_succ _, fun j hj => ⟨fup_o (by omega), fup_o (by omega)⟩⟩
theorem qex_E {M : zM} {H : Nat → Nat} {d : Nat} {q : zQ} {k : Nat} : ∀ k', k ≤ k' → QE (qex M H d q k) (qex M H d q k')
  | 0, h => by rw [Nat.le_zero.mp h]; exact QE.rf
  | k' + 1, h => by
    rcases Nat.lt_or_eq_of_le h with h1 | h1
    · refine (qex_E k' (by omega)).tr ?_
      show QE _ (if prV M H k' then qad (mN M) (qex M H d q k') (sw H (k' / mN M) (k' % mN M)) d else qex M H d q k')
      split
      · exact qad_E
      · exact QE.rf
    · rw [h1]; exact QE.rf
theorem qst_s {M : zM} {K : Nat} (h : K < (qst M K).1) : qst M (K + 1) = qex M ((qst M K).2.1 K) ((qst M K).2.2 K + 1) (qst M K) (mN M * mN M) := if_pos h
theorem qst_z {M : zM} {K : Nat} (h : ¬ K < (qst M K).1) : qst M (K + 1) = qst M K := if_neg h
theorem qst_E {M : zM} {K : Nat} : ∀ K', K ≤ K' → QE (qst M K) (qst M K')
  | 0, h => by rw [Nat.le_zero.mp h]; exact QE.rf
  | K' + 1, h => by
    rcases Nat.lt_or_eq_of_le h with h1 | h1
    · refine (qst_E K' (by omega)).tr ?_
      by_cases c : K' < (qst M K').1
      · rw [qst_s c]
        exact qex_E (M := M) (H := (qst M K').2.1 K') (d := (qst M K').2.2 K' + 1) (q := qst M K') (k := 0) _ (Nat.zero_le _)
      · rw [qst_z c]; exact QE.rf
    · rw [h1]; exact QE.rf
theorem qst_end {M : zM} {K : Nat} (h : (qst M K).1 ≤ K) : ∀ K', K ≤ K' → qst M K' = qst M K
  | 0, h1 => by rw [Nat.le_zero.mp h1]
  | K' + 1, h1 => by
    rcases Nat.lt_or_eq_of_le h1 with h2 | h2
    · have e := qst_end h K' (by omega)
      rw [qst_z (by rw [e]; omega), e]
    · rw [h2]
theorem smm_ch {f g : Nat → Nat} {a : Nat} (h : ∀ i, i ≠ a → f i = g i) : ∀ n, a < n → smm g n + f a = smm f n + g a
  | 0, hn => by omega
  | n + 1, hn => by
    rw [smm_s, smm_s]
    by_cases e : a = n
    · subst e
      rw [smm_cg a (fun i hi => h i (by omega))]
      omega
    · have := smm_ch h n (by omega)
      rw [h n (fun z => e z.symm)]
      omega
theorem ag_0 {M : zM} {a b : Nat} (h : mAg M a b = 0) : a ≠ b ∧ (mL M).testBit a = false ∧ (mL M).testBit b = false ∧ mR M a (mH M b) ≤ mR M a (mH M a) ∧ mR M b (mH M a) ≤ mR M b (mH M b) ∧ ¬ (mR M a (mH M b) = mR M a (mH M a) ∧ mR M b (mH M a) = mR M b (mH M b)) := by
  unfold mAg at h
  split at h
  · omega
  · split at h
    · omega
    · split at h
      · omega
      · split at h
        · omega
        · split at h
          · omega
          · split at h
            · omega
            · rename_i h1 h2 h3 h4 h5 h6
              refine ⟨h1, by simpa using h2, by simpa using h3, by omega, by omega, h6⟩
theorem sw_sum {M : zM} {H : Nat → Nat} {a b : Nat} (ha : a < mN M) (hb : b < mN M) (h : mAg (wH M H) a b = 0) : smm (fun i => mR M i (sw H a b i)) (mN M) + 1 ≤ smm (fun i => mR M i (H i)) (mN M) := by
  obtain ⟨h1, _, _, h4, h5, h6⟩ := ag_0 h
  have h4 : mR M a (H b) ≤ mR M a (H a) := h4
  have h5 : mR M b (H a) ≤ mR M b (H b) := h5
  have h6 : ¬ (mR M a (H b) = mR M a (H a) ∧ mR M b (H a) = mR M b (H b)) := h6
  have e1 := smm_ch (f := fun i => mR M i (H i)) (g := fun i => mR M i (if i = a then H b else H i)) (a := a) (fun i hi => by show _ = mR M i (if i = a then H b else H i); rw [if_neg hi]) (mN M) ha
  have e2 := smm_ch (f := fun i => mR M i (if i = a then H b else H i)) (g := fun i => mR M i (sw H a b i)) (a := b) (fun i hi => by show mR M i (if i = a then H b else H i) = mR M i (if i = b then H a else if i = a then H b else H i); rw [if_neg hi]) (mN M) hb
  have e3 : mR M a (if a = a then H b else H a) = mR M a (H b) := by rw [if_pos rfl]
  have e4 : mR M b (if b = a then H b else H b) = mR M b (H b) := by split <;> rfl
  have e5 : mR M b (sw H a b b) = mR M b (H a) := by unfold sw; rw [if_pos rfl]
  rw [e3] at e1
  rw [e4, e5] at e2
  omega
def QV1 (M : zM) (q : zQ) : Prop := (∀ j, j < q.1 → PM (mN M) (q.2.1 j)) ∧ (∀ i j, i < q.1 → j < q.1 → lhN (mN M) (q.2.1 i) (mN M) = lhN (mN M) (q.2.1 j) (mN M) → i = j) ∧ ∀ j, j < q.1 → smm (fun i => mR M i (q.2.1 j i)) (mN M) + q.2.2 j ≤ 63
theorem QV1.len {M : zM} {q : zQ} (hw : MW M) (h : QV1 M q) : q.1 ≤ 5040 := pig 5040 q.1 (fun j => lhN (mN M) (q.2.1 j) (mN M)) (fun j hj => lh_lt (h.1 j hj) hw.1) h.2.1
theorem QV1.ad {M : zM} {q : zQ} {H : Nat → Nat} {d : Nat} (h : QV1 M q) (hH : PM (mN M) H) (hd : smm (fun i => mR M i (H i)) (mN M) + d ≤ 63) : QV1 M (qad (mN M) q H d) := by
  unfold qad
  cases c : qmt (mN M) q (lhN (mN M) H (mN M))
  · rw [if_neg (by decide)]
    have hno : ∀ j, j < q.1 → lhN (mN M) (q.2.1 j) (mN M) ≠ lhN (mN M) H (mN M) := fun j hj e => by
      rw [qmt_iff.mpr ⟨j, hj, e⟩] at c
      cases c
    refine ⟨fun j hj => ?_, fun i j hi hj e => ?_, fun j hj => ?_⟩
    · have hj : j < q.1 + 1 := hj
      show PM _ (fup q.2.1 q.1 H j)
      by_cases e : j = q.1
      · rw [e, fup_s]; exact hH
      · rw [fup_o e]; exact h.1 j (by omega)
    · have hi : i < q.1 + 1 := hi
      have hj : j < q.1 + 1 := hj
      have e : lhN (mN M) (fup q.2.1 q.1 H i) (mN M) = lhN (mN M) (fup q.2.1 q.1 H j) (mN M) := e
      by_cases e1 : i = q.1
      · by_cases e2 : j = q.1
        · omega
        · rw [e1, fup_s, fup_o e2] at e
          exact absurd e.symm (hno j (by omega))
      · by_cases e2 : j = q.1
        · rw [e2, fup_s, fup_o e1] at e
          exact absurd e (hno i (by omega))
        · rw [fup_o e1, fup_o e2] at e
          exact h.2.1 i j (by omega) (by omega) e
    · have hj : j < q.1 + 1 := hj
      show smm (fun i => mR M i (fup q.2.1 q.1 H j i)) (mN M) + fup q.2.2 q.1 d j ≤ 63
      by_cases e : j = q.1
      · rw [e, fup_s, fup_s]; exact hd
      · rw [fup_o e, fup_o e]; exact h.2.2 j (by omega)
  · rw [if_pos rfl]
    exact h
theorem pr_lt {n k : Nat} (hk : k < n * n) : k / n < n ∧ k % n < n := by
  have hn : 0 < n := by
    rcases Nat.eq_zero_or_pos n with h | h
    · subst h; omega
    · exact h
  exact ⟨Nat.div_lt_of_lt_mul hk, Nat.mod_lt _ hn⟩
theorem QV1.ex {M : zM} {q : zQ} {H : Nat → Nat} {d : Nat} (h : QV1 M q) (hH : PM (mN M) H) (hd : smm (fun i => mR M i (H i)) (mN M) + d ≤ 63) : ∀ k, k ≤ mN M * mN M → QV1 M (qex M H (d + 1) q k)
  | 0, _ => h
  | k + 1, hk => by
    have ih := QV1.ex h hH hd k (by omega)
    show QV1 M (if prV M H k then qad (mN M) (qex M H (d + 1) q k) (sw H (k / mN M) (k % mN M)) (d + 1) else qex M H (d + 1) q k)
    cases c : prV M H k
    · exact ih
    · obtain ⟨a1, a2⟩ := pr_lt (n := mN M) (k := k) (by omega)
      unfold prV at c
      rw [Bool.and_eq_true, decide_eq_true_eq, decide_eq_true_eq] at c
      have := sw_sum a1 a2 c.2
      exact ih.ad (hH.sw a1 a2) (by omega)
theorem smm_lb {f : Nat → Nat} {c : Nat} : ∀ n, (∀ i, i < n → f i ≤ c) → smm f n ≤ n * c
  | 0, _ => by simp [smm]
  | n + 1, h => by
    have := smm_lb n fun i hi => h i (by omega)
    have := h n (by omega)
    rw [smm_s, Nat.succ_mul]
    omega
theorem MW.pm {M : zM} (hw : MW M) : PM (mN M) (mH M) := hw.2.2.2
theorem MW.wh {M : zM} (hw : MW M) {H : Nat → Nat} (hH : PM (mN M) H) : MW (wH M H) := ⟨hw.1, hw.2.1, hw.2.2.1, hH⟩
theorem qst_V {M : zM} (hw : MW M) : ∀ K, QV1 M (qst M K)
  | 0 => ⟨fun _ _ => hw.pm, fun i j hi hj _ => by
      have hi : i < 1 := hi
      have hj : j < 1 := hj
      omega, fun j _ => by
      have h7 := hw.1
      have h1 := smm_lb (f := fun i => mR M i (mH M i)) (c := 9) (mN M) fun i hi => hw.2.2.1 i _ hi (hw.2.2.2.1 i hi)
      show smm (fun i => mR M i (mH M i)) (mN M) + 0 ≤ 63
      omega⟩
  | K + 1 => by
    have ih := qst_V hw K
    by_cases c : K < (qst M K).1
    · rw [qst_s c]
      exact QV1.ex ih (ih.1 K c) (ih.2.2 K c) _ (Nat.le_refl _)
    · rw [qst_z c]; exact ih
theorem qst_len {M : zM} (hw : MW M) (K : Nat) : (qst M K).1 ≤ 5040 := (qst_V hw K).len hw
/-- the answer -/
def fwN (M : zM) (w t : Nat) : Nat := lf (fun j => !decide ((qst M 5040).2.1 j w = t)) (qst M 5040).1
def fwA (M : zM) (w t : Nat) : Int32 := if fwN M w t = (qst M 5040).1 then -9 else nI ((qst M 5040).2.2 (fwN M w t))
theorem fw_in {M : zM} {K : Nat} (hK : K ≤ 5040) : QE (qst M K) (qst M 5040) := qst_E 5040 hK
theorem fw_hit {M : zM} {w t J : Nat} {q : zQ} (hq : QE q (qst M 5040)) (hJ : J < q.1) (h1 : ∀ j, j < J → q.2.1 j w ≠ t) (h2 : q.2.1 J w = t) : fwA M w t = nI (q.2.2 J) := by
  have hl := hq.1
  have e : fwN M w t = J := by
    refine lf_at (fun j hj => ?_) ?_ _ (by omega)
    · show (!decide ((qst M 5040).2.1 j w = t)) = true
      rw [(hq.2 j (by omega)).1, decide_eq_false (h1 j hj)]; rfl
    · show (!decide ((qst M 5040).2.1 J w = t)) = false
      rw [(hq.2 J hJ).1, decide_eq_true h2]; rfl
  unfold fwA
  rw [e, if_neg (by omega), (hq.2 J hJ).2]
theorem fw_none {M : zM} {w t K : Nat} (hw : MW M) (hK : (qst M K).1 ≤ K) (h1 : ∀ j, j < (qst M K).1 → (qst M K).2.1 j w ≠ t) : fwA M w t = -9 := by
  have hl := qst_len hw K
  have e : qst M 5040 = qst M K := by
    by_cases c : K ≤ 5040
    · exact qst_end hK 5040 c
    · -- the queue had come to its end before
      have h5 : (qst M 5040).1 ≤ 5040 := qst_len hw 5040
      exact (qst_end h5 K (by omega)).symm
  have e2 : fwN M w t = (qst M 5040).1 := by
    refine lf_all _ fun j hj => ?_
    show (!decide ((qst M 5040).2.1 j w = t)) = true
    rw [e] at hj ⊢
    rw [decide_eq_false (h1 j hj)]; rfl
  unfold fwA
  rw [if_pos e2]
/-- the class finds a child that fits -/
theorem fw_child {M : zM} {w t K k : Nat} (hw : MW M) (hwn : w < mN M) (hK : K < (qst M K).1) (hk : k < mN M * mN M) (h1 : ∀ j, j < (qex M ((qst M K).2.1 K) ((qst M K).2.2 K + 1) (qst M K) k).1 → (qex M ((qst M K).2.1 K) ((qst M K).2.2 K + 1) (qst M K) k).2.1 j w ≠ t) (h2 : prV M ((qst M K).2.1 K) k = true) (h3 : sw ((qst M K).2.1 K) (k / mN M) (k % mN M) w = t) : fwA M w t = nI ((qst M K).2.2 K + 1) := by
  obtain ⟨a1, a2⟩ := pr_lt hk
  have hV := qst_V hw K
  have hV2 := QV1.ex hV (hV.1 K hK) (hV.2.2 K hK) k (by omega)
  obtain ⟨q, hq⟩ : ∃ q, q = qex M ((qst M K).2.1 K) ((qst M K).2.2 K + 1) (qst M K) k := ⟨_, rfl⟩
  obtain ⟨H, hH⟩ : ∃ H, H = sw ((qst M K).2.1 K) (k / mN M) (k % mN M) := ⟨_, rfl⟩
  have hHp : PM (mN M) H := by rw [hH]; exact (hV.1 K hK).sw a1 a2
  rw [← hq] at h1 hV2
  rw [← hH] at h3
  have hno : qmt (mN M) q (lhN (mN M) H (mN M)) = false := by
    cases c : qmt (mN M) q (lhN (mN M) H (mN M))
    · rfl
    · obtain ⟨j, j1, j2⟩ := qmt_iff.mp c
      have := lh_inj (hV2.1 j j1) hHp j2 w hwn
      exact absurd (this.trans h3) (h1 j j1)
  have e1 : qex M ((qst M K).2.1 K) ((qst M K).2.2 K + 1) (qst M K) (k + 1) = (q.1 + 1, fup q.2.1 q.1 H, fup q.2.2 q.1 ((qst M K).2.2 K + 1)) := by
    show (if prV M ((qst M K).2.1 K) k then qad (mN M) (qex M ((qst M K).2.1 K) ((qst M K).2.2 K + 1) (qst M K) k) (sw ((qst M K).2.1 K) (k / mN M) (k % mN M)) ((qst M K).2.2 K + 1) else _) = _
    rw [if_pos h2, ← hq, ← hH]
    unfold qad
    rw [hno, if_neg (by decide)]
  have hE : QE (q.1 + 1, fup q.2.1 q.1 H, fup q.2.2 q.1 ((qst M K).2.2 K + 1)) (qst M 5040) := by
    rw [← e1]
    have hl := qst_len hw K
    have h9 := fw_in (M := M) (K := K + 1) (by omega)
    rw [qst_s hK] at h9
    exact (qex_E (mN M * mN M) (by omega)).tr h9
  have := fw_hit (w := w) (t := t) (J := q.1) hE (by show q.1 < q.1 + 1; omega) (fun j hj => by
    show fup q.2.1 q.1 H j w ≠ t
    rw [fup_o (by omega)]
    exact h1 j hj) (by show fup q.2.1 q.1 H q.1 w = t; rw [fup_s]; exact h3)
  rw [this]
  show nI (fup q.2.2 q.1 _ q.1) = _
  rw [fup_s]
