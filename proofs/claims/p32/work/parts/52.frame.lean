/-! FRAMES OF THE MODEL; TAKING -/
/-- what a call of the model that remembers nothing may change -/
def GM (s t : zv_S) : Prop := (∀ a, a ≠ 88 → a ≠ 89 → a ≠ 90 → a < 95 ∨ 108 < a → t.1 a = s.1 a ∧ t.2.1 a = s.2.1 a) ∧ t.2.2 = s.2.2 ∧ t.1 88 3 = s.1 88 3 ∧ t.1 88 7 = s.1 88 7
/-- .. and a command of a script -/
def FS (s t : zv_S) : Prop := GM s t ∧ t.1 90 = s.1 90 ∧ t.1 88 8 = s.1 88 8
section FG
variable {s t u : zv_S}
theorem GM.rf : GM s s := ⟨fun _ _ _ _ _ => ⟨rfl, rfl⟩, rfl, rfl, rfl⟩
theorem GM.tr (h1 : GM s t) (h2 : GM t u) : GM s u := ⟨fun a x y z w => ⟨(h2.1 a x y z w).1.trans (h1.1 a x y z w).1, (h2.1 a x y z w).2.trans (h1.1 a x y z w).2⟩, h2.2.1.trans h1.2.1, h2.2.2.1.trans h1.2.2.1, h2.2.2.2.trans h1.2.2.2⟩
theorem GM.fw (h : FW s t) : GM s t := ⟨fun a x y z w => h.1 a x z w, h.2.1, h.2.2.1, h.2.2.2.1⟩
theorem GM.th {x : Int32} : GM s (sI s 88 8 x) := ⟨fun a ha _ _ _ => ⟨sI_o ha, rfl⟩, rfl, sI_k (by omega), sI_k (by omega)⟩
theorem GM.fr {lo hi : Nat} (h : FR lo hi s t) (h1 : (89 ≤ lo ∧ hi ≤ 91) ∨ (95 ≤ lo ∧ hi ≤ 109)) : GM s t := ⟨fun a x y z w => h.1 a (by omega), h.2, by rw [h.at (by omega)], by rw [h.at (by omega)]⟩
theorem FS.rf : FS s s := ⟨GM.rf, rfl, rfl⟩
theorem FS.tr (h1 : FS s t) (h2 : FS t u) : FS s u := ⟨h1.1.tr h2.1, h2.2.1.trans h1.2.1, h2.2.2.trans h1.2.2⟩
theorem FS.fr {lo hi : Nat} (h : FR lo hi s t) (h1 : (89 ≤ lo ∧ hi ≤ 90) ∨ (95 ≤ lo ∧ hi ≤ 109)) : FS s t := ⟨GM.fr h (by omega), h.at (by omega), by rw [h.at (by omega)]⟩
theorem FS.ft (h : FT s t) : FS s t := ⟨GM.fw h.1, h.2.2, h.1.2.2.2.2⟩
theorem RM.gm {M N : zM} {L : List zM} {S : Nat → Option zM} {tx : Nat → Nat} {len : Nat} (h : RM s M L S tx len) (hf : GM s t) (hq : QM (t.1 89) N) : RM t N L S tx len := by
  have e : ∀ a, 91 ≤ a → a < 95 → t.1 a = s.1 a := fun a x y => (hf.1 a (by omega) (by omega) (by omega) (by omega)).1
  refine ⟨hq, h.2.1.of hf.2.2.1 (e 91 (by omega) (by omega)), h.2.2.1.of (e 93 (by omega) (by omega)) (e 92 (by omega) (by omega)), ?_⟩
  unfold TXT
  rw [hf.2.2.2, e 94 (by omega) (by omega)]
  exact h.2.2.2
end FG
/-- what trading gives can be taken -/
theorem MW.tk {M : zM} (hw : MW M) {R : Nat} (h1 : ∀ x, R.testBit x = true → (mP M).testBit x = true) (h2 : ∀ x, R.testBit x = true → ∃ q, R.testBit q = true ∧ tGe (mT M (mP M)) x = nI (mH M q)) : MW (mTk M R (gT M (mP M))) := by
  have h7 := hw.1
  have hT := mT_TI hw (mP_n (M := M))
  have hq : ∀ x, R.testBit x = true → ∃ q, R.testBit q = true ∧ gT M (mP M) x = mH M q := fun x hx => by
    obtain ⟨q, q1, q2⟩ := h2 x hx
    obtain ⟨g1, g2⟩ := gT_ok hw mP_n (h1 x hx)
    have := hw.2.2.2.1 q (mP_n q (h1 q q1))
    exact ⟨q, q1, (nI_eq (by omega) (by omega)).mp (g1.symm.trans q2)⟩
  refine ⟨hw.1, hw.2.1, hw.2.2.1, fun i hi => ?_, fun i j hi hj e => ?_⟩
  · have hi : i < mN M := hi
    show (if R.testBit i then gT M (mP M) i else mH M i) < mN M
    cases c : R.testBit i
    · rw [if_neg (by decide)]
      exact hw.2.2.2.1 i hi
    · rw [if_pos rfl]
      exact (gT_ok hw mP_n (h1 i c)).2
  · have hi : i < mN M := hi
    have hj : j < mN M := hj
    have e : (if R.testBit i then gT M (mP M) i else mH M i) = (if R.testBit j then gT M (mP M) j else mH M j) := e
    cases ci : R.testBit i
    · rw [ci, if_neg (by decide)] at e
      cases cj : R.testBit j
      · rw [cj, if_neg (by decide)] at e
        exact hw.2.2.2.2 i j hi hj e
      · rw [cj, if_pos rfl] at e
        obtain ⟨q, q1, q2⟩ := hq j cj
        have := hw.2.2.2.2 i q hi (mP_n q (h1 q q1)) (e.trans q2)
        rw [← this, ci] at q1
        cases q1
    · rw [ci, if_pos rfl] at e
      cases cj : R.testBit j
      · rw [cj, if_neg (by decide)] at e
        obtain ⟨q, q1, q2⟩ := hq i ci
        have := hw.2.2.2.2 q j (mP_n q (h1 q q1)) hj (q2.symm.trans e)
        rw [this, cj] at q1
        cases q1
      · rw [cj, if_pos rfl] at e
        obtain ⟨a1, _⟩ := gT_ok hw mP_n (h1 i ci)
        obtain ⟨b1, _⟩ := gT_ok hw mP_n (h1 j cj)
        exact hT.2.2.1 i j (h1 i ci) (h1 j cj) (by rw [a1, b1, e])
def rSet (M : zM) (k : Nat) : Nat := (tTo (mT M (mP M)) k).toNatClampNeg
def mRn (M : zM) : Nat := tRi (mT M (mP M))
section RS
variable {M : zM}
theorem mRn_7 (hw : MW M) : mRn M ≤ 7 := by
  have h1 := (mT_TI hw (mP_n (M := M))).2.2.2.2
  have h2 := pc_le (mP M)
  unfold mRn
  omega
theorem rSet_ok (hw : MW M) {k : Nat} (hk : k < mRn M) : tTo (mT M (mP M)) k = nI (rSet M k) ∧ (∀ x, (rSet M k).testBit x = true → (mP M).testBit x = true) ∧ (∀ x, (rSet M k).testBit x = true → ∃ q, (rSet M k).testBit q = true ∧ tGe (mT M (mP M)) x = nI (mH M q)) ∧ rSet M k < 128 := by
  obtain ⟨R, r1, r2, r3⟩ := (mT_TI hw (mP_n (M := M))).2.2.2.1 k hk
  have hR : R < 128 := O_7 hw.1 fun x hx => mP_n x (r2 x hx)
  have e : rSet M k = R := by
    unfold rSet
    rw [r1, nI_clamp (by omega)]
  rw [e]
  exact ⟨r1, r2, r3, hR⟩
theorem MW.tkR (hw : MW M) {k : Nat} (hk : k < mRn M) : MW (mTk M (rSet M k) (gT M (mP M))) := hw.tk (rSet_ok hw hk).2.1 (rSet_ok hw hk).2.2.1
theorem MW.tkP (hw : MW M) : MW (mTk M (mP M) (gT M (mP M))) := hw.tk (fun _ h => h) fun x hx => (mT_TI hw (mP_n (M := M))).2.1 x hx
end RS
section FWS
variable {sc : Nat × (Nat → Int32)} {s : zv_S} {M : zM}
theorem one_ok {n i : Nat} (h7 : n ≤ 7) (hi : i < n) : (decide (0 ≤ nI i) && decide (nI i < nI n)) = true := by
  rw [Bool.and_eq_true, decide_eq_true_eq, decide_eq_true_eq]
  exact ⟨(nI_leI (a := 0) (by omega) (by omega)).mpr (Nat.zero_le _), (nI_ltI (by omega) (by omega)).mpr hi⟩
end FWS
