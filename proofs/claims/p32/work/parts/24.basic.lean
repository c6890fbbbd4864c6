/-! LOOPS, LAYOUT FACTS, SMALL NUMBERS -/
theorem vv_for {sc : Nat × (Nat → Int32)} {m hd : Nat} {s : zv_S} {Q : zm_O → zv_S → Prop} (n : Nat) (L : Nat → zm_L) (hstep : ∀ i, i < n → VV sc m hd (L (i + 1)) [] s Q → VV sc m hd (L i) [] s Q) (hend : VV sc m hd (L n) [] s Q) : VV sc m hd (L 0) [] s Q := by
  have h : ∀ k i, i + k = n → VV sc m hd (L i) [] s Q := by
    intro k
    induction k with
    | zero => intro i hi; rw [show i = n by omega]; exact hend
    | succ k ih => intro i hi; exact hstep i (by omega) (ih (i + 1) (by omega))
  exact h n 0 (by omega)
theorem vv_forS {sc : Nat × (Nat → Int32)} {m hd : Nat} {Q : zm_O → zv_S → Prop} (n : Nat) (I : Nat → zm_L → zv_S → Prop) (hstep : ∀ i ls s, i < n → I i ls s → (∀ ls' s', I (i + 1) ls' s' → VV sc m hd ls' [] s' Q) → VV sc m hd ls [] s Q) (hend : ∀ ls s, I n ls s → VV sc m hd ls [] s Q) : ∀ ls s, I 0 ls s → VV sc m hd ls [] s Q := by
  have h : ∀ k i, i + k = n → ∀ ls s, I i ls s → VV sc m hd ls [] s Q := by
    intro k
    induction k with
    | zero => intro i hi; rw [show i = n by omega]; exact hend
    | succ k ih => intro i hi ls s hI; exact hstep i ls s (by omega) hI (ih (i + 1) (by omega))
  exact h n 0 (by omega)
/-- a loop by a measure that falls -/
theorem vv_while {sc : Nat × (Nat → Int32)} {m hd : Nat} {Q : zm_O → zv_S → Prop} (I : Nat → zm_L → zv_S → Prop) (hstep : ∀ k ls s, I k ls s → (∀ k' ls' s', k' < k → I k' ls' s' → VV sc m hd ls' [] s' Q) → VV sc m hd ls [] s Q) : ∀ k ls s, I k ls s → VV sc m hd ls [] s Q := by
  intro k
  induction k using Nat.strongRecOn with
  | ind k ih => intro ls s h; exact hstep k ls s h fun k' ls' s' hk h' => ih k' hk ls' s' h'
def isM (o : Nat) : Bool := [3, 8, 11, 14, 17, 20, 23, 26, 29, 32, 35, 38, 41, 44, 47, 51, 55, 58].contains o
def isT (o : Nat) : Bool := [61, 69].contains o
theorem kM_all : ((List.range 88).all fun o => !isM o || (zl_fI o 1 0 && zl_fI o 1 1 && zl_fR o 1 2 == some (o + 1) && zl_fR o 1 3 == some (o + 2) && zl_aI (o + 1) == some 49 && zl_aI (o + 2) == some 7 && zl_ln (o + 1) == some 49 && zl_ln (o + 2) == some 7 && zl_is o 1)) = true := by decide +kernel
theorem kM_lt {o : Nat} (h : isM o = true) : o < 88 := by
  have h1 : o ∈ [3, 8, 11, 14, 17, 20, 23, 26, 29, 32, 35, 38, 41, 44, 47, 51, 55, 58] := List.contains_iff_mem.mp h
  have h2 : ∀ x ∈ [3, 8, 11, 14, 17, 20, 23, 26, 29, 32, 35, 38, 41, 44, 47, 51, 55, 58], x < 88 := by decide
  exact h2 o h1
theorem kM_q {o : Nat} (h : isM o = true) : zl_fI o 1 0 = true ∧ zl_fI o 1 1 = true ∧ zl_fR o 1 2 = some (o + 1) ∧ zl_fR o 1 3 = some (o + 2) ∧ zl_aI (o + 1) = some 49 ∧ zl_aI (o + 2) = some 7 ∧ zl_ln (o + 1) = some 49 ∧ zl_ln (o + 2) = some 7 ∧ zl_is o 1 = true := by
  have h1 := List.all_eq_true.mp kM_all o (List.mem_range.mpr (kM_lt h))
  rw [h] at h1
  simp only [Bool.not_true, Bool.false_or, Bool.and_eq_true, beq_iff_eq] at h1
  obtain ⟨⟨⟨⟨⟨⟨⟨⟨a1, a2⟩, a3⟩, a4⟩, a5⟩, a6⟩, a7⟩, a8⟩, a9⟩ := h1
  exact ⟨a1, a2, a3, a4, a5, a6, a7, a8, a9⟩
theorem kM_f0 {o : Nat} (h : isM o = true) : zl_fI o 1 0 = true := (kM_q h).1
theorem kM_f1 {o : Nat} (h : isM o = true) : zl_fI o 1 1 = true := (kM_q h).2.1
theorem kM_r2 {o : Nat} (h : isM o = true) : zl_fR o 1 2 = some (o + 1) := (kM_q h).2.2.1
theorem kM_r3 {o : Nat} (h : isM o = true) : zl_fR o 1 3 = some (o + 2) := (kM_q h).2.2.2.1
theorem kM_a1 {o : Nat} (h : isM o = true) : zl_aI (o + 1) = some 49 := (kM_q h).2.2.2.2.1
theorem kM_a2 {o : Nat} (h : isM o = true) : zl_aI (o + 2) = some 7 := (kM_q h).2.2.2.2.2.1
theorem kM_n1 {o : Nat} (h : isM o = true) : zl_ln (o + 1) = some 49 := (kM_q h).2.2.2.2.2.2.1
theorem kM_n2 {o : Nat} (h : isM o = true) : zl_ln (o + 2) = some 7 := (kM_q h).2.2.2.2.2.2.2.1
theorem kM_is {o : Nat} (h : isM o = true) : zl_is o 1 = true := (kM_q h).2.2.2.2.2.2.2.2
theorem kM_dj0 : ((List.range 88).all fun o => (List.range 88).all fun p => !isM o || !isM p || o == p || decide (o + 2 < p ∨ p + 2 < o)) = true := by decide +kernel
theorem kM_dj {o p : Nat} (h : isM o = true) (h' : isM p = true) (hne : o ≠ p) : o + 2 < p ∨ p + 2 < o := by
  have h1 := List.all_eq_true.mp (List.all_eq_true.mp kM_dj0 o (List.mem_range.mpr (kM_lt h))) p (List.mem_range.mpr (kM_lt h'))
  rw [h, h'] at h1
  simp only [Bool.not_true, Bool.false_or, Bool.or_eq_true, beq_iff_eq, decide_eq_true_eq] at h1
  rcases h1 with h1 | h1
  · exact absurd h1 hne
  · exact h1
theorem kT_all : ((List.range 88).all fun o => !isT o || (zl_fI o 6 0 && zl_fI o 6 1 && zl_fR o 6 2 == some (o + 1) && zl_fR o 6 3 == some (o + 2) && zl_fR o 6 4 == some (o + 3) && zl_fR o 6 5 == some (o + 4) && zl_fR o 6 6 == some (o + 5) && zl_fR o 6 7 == some (o + 6) && zl_fR o 6 8 == some (o + 7) && zl_aI (o + 1) == some 7 && zl_aI (o + 2) == some 7 && zl_aI (o + 3) == some 7 && zl_aI (o + 4) == some 7 && zl_aI (o + 5) == some 7 && zl_aI (o + 6) == some 7 && zl_aI (o + 7) == some 7 && zl_is o 6)) = true := by decide +kernel
theorem kT_or {o : Nat} (h : isT o = true) : o = 61 ∨ o = 69 := by
  have h1 : o ∈ [61, 69] := List.contains_iff_mem.mp h
  simpa using h1
theorem kT_lt {o : Nat} (h : isT o = true) : o < 88 := by rcases kT_or h with rfl | rfl <;> decide
theorem kT_f0 {o : Nat} (h : isT o = true) : zl_fI o 6 0 = true := by rcases kT_or h with rfl | rfl <;> rfl
theorem kT_f1 {o : Nat} (h : isT o = true) : zl_fI o 6 1 = true := by rcases kT_or h with rfl | rfl <;> rfl
theorem kT_r2 {o : Nat} (h : isT o = true) : zl_fR o 6 2 = some (o + 1) := by rcases kT_or h with rfl | rfl <;> rfl
theorem kT_r3 {o : Nat} (h : isT o = true) : zl_fR o 6 3 = some (o + 2) := by rcases kT_or h with rfl | rfl <;> rfl
theorem kT_r4 {o : Nat} (h : isT o = true) : zl_fR o 6 4 = some (o + 3) := by rcases kT_or h with rfl | rfl <;> rfl
theorem kT_r5 {o : Nat} (h : isT o = true) : zl_fR o 6 5 = some (o + 4) := by rcases kT_or h with rfl | rfl <;> rfl
theorem kT_r6 {o : Nat} (h : isT o = true) : zl_fR o 6 6 = some (o + 5) := by rcases kT_or h with rfl | rfl <;> rfl
theorem kT_r7 {o : Nat} (h : isT o = true) : zl_fR o 6 7 = some (o + 6) := by rcases kT_or h with rfl | rfl <;> rfl
theorem kT_r8 {o : Nat} (h : isT o = true) : zl_fR o 6 8 = some (o + 7) := by rcases kT_or h with rfl | rfl <;> rfl
theorem kT_a1 {o : Nat} (h : isT o = true) : zl_aI (o + 1) = some 7 := by rcases kT_or h with rfl | rfl <;> rfl
theorem kT_a2 {o : Nat} (h : isT o = true) : zl_aI (o + 2) = some 7 := by rcases kT_or h with rfl | rfl <;> rfl
theorem kT_a3 {o : Nat} (h : isT o = true) : zl_aI (o + 3) = some 7 := by rcases kT_or h with rfl | rfl <;> rfl
theorem kT_a4 {o : Nat} (h : isT o = true) : zl_aI (o + 4) = some 7 := by rcases kT_or h with rfl | rfl <;> rfl
theorem kT_a5 {o : Nat} (h : isT o = true) : zl_aI (o + 5) = some 7 := by rcases kT_or h with rfl | rfl <;> rfl
theorem kT_a6 {o : Nat} (h : isT o = true) : zl_aI (o + 6) = some 7 := by rcases kT_or h with rfl | rfl <;> rfl
theorem kT_a7 {o : Nat} (h : isT o = true) : zl_aI (o + 7) = some 7 := by rcases kT_or h with rfl | rfl <;> rfl
theorem kT_is {o : Nat} (h : isT o = true) : zl_is o 6 = true := by rcases kT_or h with rfl | rfl <;> rfl
/-- only cells from lo on, below hi, have changed -/
def FR (lo hi : Nat) (s t : zv_S) : Prop := (∀ a, a < lo ∨ hi ≤ a → t.1 a = s.1 a ∧ t.2.1 a = s.2.1 a) ∧ t.2.2 = s.2.2
theorem FR.rf {lo hi : Nat} {s : zv_S} : FR lo hi s s := ⟨fun _ _ => ⟨rfl, rfl⟩, rfl⟩
theorem FR.tr {lo hi : Nat} {s t u : zv_S} (h1 : FR lo hi s t) (h2 : FR lo hi t u) : FR lo hi s u := ⟨fun a ha => ⟨(h2.1 a ha).1.trans (h1.1 a ha).1, (h2.1 a ha).2.trans (h1.1 a ha).2⟩, h2.2.trans h1.2⟩
theorem FR.up {lo hi lo' hi' : Nat} {s t : zv_S} (h : FR lo hi s t) (h1 : lo' ≤ lo) (h2 : hi ≤ hi') : FR lo' hi' s t := ⟨fun a ha => h.1 a (by omega), h.2⟩
theorem FR.at {lo hi : Nat} {s t : zv_S} (h : FR lo hi s t) {a : Nat} (ha : a < lo ∨ hi ≤ a) : t.1 a = s.1 a := (h.1 a ha).1
theorem FR.atL {lo hi : Nat} {s t : zv_S} (h : FR lo hi s t) {a : Nat} (ha : a < lo ∨ hi ≤ a) : t.2.1 a = s.2.1 a := (h.1 a ha).2
theorem FR.sI {lo hi : Nat} {s : zv_S} {o k : Nat} {v : Int32} (h1 : lo ≤ o) (h2 : o < hi) : FR lo hi s (sI s o k v) := ⟨fun a ha => ⟨if_neg (by omega), rfl⟩, rfl⟩
theorem FR.sF {lo hi : Nat} {s : zv_S} {o : Nat} {f : Nat → Int32} (h1 : lo ≤ o) (h2 : o < hi) : FR lo hi s (sF s o f) := ⟨fun a ha => ⟨if_neg (by omega), rfl⟩, rfl⟩
theorem FR.sL {lo hi : Nat} {s : zv_S} {o k : Nat} {v : Int64} (h1 : lo ≤ o) (h2 : o < hi) : FR lo hi s (sL s o k v) := ⟨fun a ha => ⟨rfl, if_neg (by omega)⟩, rfl⟩
theorem sI_o {s : zv_S} {o k a : Nat} {v : Int32} (h : a ≠ o) : (sI s o k v).1 a = s.1 a := if_neg h
theorem sI_k {s : zv_S} {o k j : Nat} {v : Int32} (h : j ≠ k) : (sI s o k v).1 o j = s.1 o j := by
  show (if o = o then upd (s.1 o) k v else s.1 o) j = _
  rw [if_pos rfl, pk_un h]
theorem sI_s {s : zv_S} {o k : Nat} {v : Int32} : (sI s o k v).1 o k = v := by
  show (if o = o then upd (s.1 o) k v else s.1 o) k = _
  rw [if_pos rfl, pk_us]
theorem sF_s {s : zv_S} {o : Nat} {f : Nat → Int32} : (sF s o f).1 o = f := if_pos rfl
theorem sF_o {s : zv_S} {o a : Nat} {f : Nat → Int32} (h : a ≠ o) : (sF s o f).1 a = s.1 a := if_neg h
/-- bits -/
theorem tb_and {b k : Nat} : b / 2 ^ k &&& 1 = (b.testBit k).toNat := by
  rw [Nat.testBit_eq_decide_div_mod_eq, Nat.and_one_is_mod]
  rcases Nat.mod_two_eq_zero_or_one (b / 2 ^ k) with h | h <;> rw [h] <;> rfl
def zdf (a b : Nat) : Nat := a ^^^ (a &&& b)
theorem zdf_tb (a b i : Nat) : (zdf a b).testBit i = (a.testBit i && !b.testBit i) := by
  unfold zdf
  rw [Nat.testBit_xor, Nat.testBit_and]
  cases a.testBit i <;> cases b.testBit i <;> rfl
theorem zdf_lt {a b n : Nat} (h : a < 2 ^ n) : zdf a b < 2 ^ n := Nat.lt_pow_two_of_testBit _ fun i hi => by
  rw [zdf_tb, Nat.testBit_lt_two_pow (Nat.lt_of_lt_of_le h (Nat.pow_le_pow_right (by omega) hi))]
  rfl
theorem nI_not (a b : Nat) : nI a &&& (nI b ^^^ (-1)) = nI (zdf a b) := by
  apply Int32.toBitVec_inj.mp
  unfold zdf
  rw [Int32.toBitVec_and, Int32.toBitVec_xor]
  simp only [nI, nI_bv]
  apply BitVec.eq_of_getLsbD_eq
  intro i hi
  simp only [BitVec.getLsbD_and, BitVec.getLsbD_xor, BitVec.getLsbD_ofNat, hi, decide_true, Bool.true_and, Nat.testBit_xor, Nat.testBit_and]
  have h1 : (Int32.toBitVec (-1)).getLsbD i = true := by
    rw [show (Int32.toBitVec (-1)) = BitVec.allOnes 32 by decide]
    rw [BitVec.getLsbD_allOnes]
    exact decide_eq_true hi
  rw [h1]
  cases a.testBit i <;> cases b.testBit i <;> rfl
def pc (x : Nat) : Nat := (x.testBit 0).toNat + (x.testBit 1).toNat + (x.testBit 2).toNat + (x.testBit 3).toNat + (x.testBit 4).toNat + (x.testBit 5).toNat + (x.testBit 6).toNat
theorem pc_or : ∀ x, x < 128 → ∀ t, t < 7 → x.testBit t = false → x ||| 2 ^ t < 128 ∧ pc (x ||| 2 ^ t) = pc x + 1 := by decide +kernel
theorem pc_le (x : Nat) : pc x ≤ 7 := by
  unfold pc
  have h : ∀ b : Bool, b.toNat ≤ 1 := by decide
  have := h (x.testBit 0); have := h (x.testBit 1); have := h (x.testBit 2); have := h (x.testBit 3); have := h (x.testBit 4); have := h (x.testBit 5); have := h (x.testBit 6)
  omega
