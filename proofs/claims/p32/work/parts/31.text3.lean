/-! THE TEXT: the class's reading of a whole market; the model's reading -/
theorem pE_lt {tx : Nat → Nat} {len p : Nat} (h : pE tx len = some p) : p < 1000 := by
  unfold pE at h
  split at h
  · split at h
    · rename_i hd
      obtain ⟨d1, d2, d3⟩ := okD_h hd
      have h49 : (tx 1 - 48) * (tx 1 - 48) ≤ 7 * 7 := Nat.mul_le_mul (by omega) (by omega)
      have hlf := (lf_lt (p := fun k => okD tx len 0 9 (2 + k)) ((tx 1 - 48) * (tx 1 - 48))).2.1
      have hp : ∀ i, i ≤ 7 → (hSt tx len (2 + (tx 1 - 48) * (tx 1 - 48) + 1) i).1 < 1000 := fun i hi => by
        have := (hSt_p (tx := tx) (len := len) (b := 2 + (tx 1 - 48) * (tx 1 - 48) + 1) i).2
        omega
      split at h
      · split at h
        · split at h
          · split at h
            · split at h
              · cases h
                exact hp _ (by omega)
              · cases h
            · have := (lf_lt (p := hOk tx len (2 + (tx 1 - 48) * (tx 1 - 48) + 1) (tx 1 - 48)) (tx 1 - 48)).2.1
              cases h
              exact hp _ (by omega)
          · cases h; omega
        · cases h
      · cases h; omega
    · cases h; omega
  · cases h; omega
theorem pM_w {tx : Nat → Nat} {len : Nat} (h : pE tx len = none) : MW (pM tx len) := by
  unfold pE at h
  split at h
  · split at h
    · rename_i hd
      obtain ⟨d1, d2, d3⟩ := okD_h hd
      split at h
      · rename_i hlf
        have hrk : ∀ i t, i < tx 1 - 48 → t < tx 1 - 48 → tx (2 + (i * (tx 1 - 48) + t)) - 48 ≤ 9 := by
          intro i t hi ht
          have hm : i * (tx 1 - 48) + (tx 1 - 48) ≤ (tx 1 - 48) * (tx 1 - 48) := by
            have : (i + 1) * (tx 1 - 48) ≤ (tx 1 - 48) * (tx 1 - 48) := Nat.mul_le_mul_right _ hi
            rw [Nat.succ_mul] at this
            exact this
          have := (lf_lt (p := fun k => okD tx len 0 9 (2 + k)) ((tx 1 - 48) * (tx 1 - 48))).1 (i * (tx 1 - 48) + t) (by omega)
          have := okD_h this
          omega
        split at h
        · rename_i hb
          split at h
          · split at h
            · rename_i hho
              have hg := (lf_lt (p := hOk tx len (2 + (tx 1 - 48) * (tx 1 - 48) + 1) (tx 1 - 48)) (tx 1 - 48)).1
              rw [hho] at hg
              obtain ⟨w1, w2, w3, w4, w5, w6⟩ := hSt_w (tx := tx) (len := len) (b := 2 + (tx 1 - 48) * (tx 1 - 48) + 1) (n := tx 1 - 48) (by omega) (by omega) (tx 1 - 48) hg (Nat.le_refl _)
              refine ⟨by show tx 1 - 48 ≤ 7; omega, ?_, hrk, fun i hi => ?_, fun i j hi hj e => ?_⟩
              · show (if 2 + (tx 1 - 48) * (tx 1 - 48) < len then _ else 0) < _
                rw [if_pos hb]
                exact w3
              · show (if 2 + (tx 1 - 48) * (tx 1 - 48) < len then (hSt tx len (2 + (tx 1 - 48) * (tx 1 - 48) + 1) (tx 1 - 48)).2.2.2 else fun k => k) i < tx 1 - 48
                rw [if_pos hb]
                exact (w4 i hi).1
              · have e : (if 2 + (tx 1 - 48) * (tx 1 - 48) < len then (hSt tx len (2 + (tx 1 - 48) * (tx 1 - 48) + 1) (tx 1 - 48)).2.2.2 else fun k => k) i = (if 2 + (tx 1 - 48) * (tx 1 - 48) < len then (hSt tx len (2 + (tx 1 - 48) * (tx 1 - 48) + 1) (tx 1 - 48)).2.2.2 else fun k => k) j := e
                rw [if_pos hb] at e
                exact w6 i j hi hj e
            · cases h
          · cases h
        · rename_i hb
          refine ⟨by show tx 1 - 48 ≤ 7; omega, ?_, hrk, fun i hi => ?_, fun i j hi hj e => ?_⟩
          · show (if 2 + (tx 1 - 48) * (tx 1 - 48) < len then _ else 0) < _
            rw [if_neg hb]
            exact Nat.two_pow_pos _
          · show (if 2 + (tx 1 - 48) * (tx 1 - 48) < len then (hSt tx len (2 + (tx 1 - 48) * (tx 1 - 48) + 1) (tx 1 - 48)).2.2.2 else fun k => k) i < tx 1 - 48
            rw [if_neg hb]
            exact hi
          · have e : (if 2 + (tx 1 - 48) * (tx 1 - 48) < len then (hSt tx len (2 + (tx 1 - 48) * (tx 1 - 48) + 1) (tx 1 - 48)).2.2.2 else fun k => k) i = (if 2 + (tx 1 - 48) * (tx 1 - 48) < len then (hSt tx len (2 + (tx 1 - 48) * (tx 1 - 48) + 1) (tx 1 - 48)).2.2.2 else fun k => k) j := e
            rw [if_neg hb] at e
            exact e
      · cases h
    · cases h
  · cases h
section TG
variable {sc : Nat × (Nat → Int32)} {s : zv_S} {tx : Nat → Nat} {len : Nat}
end TG
/-- the model's work space alone has changed -/
def FW (s t : zv_S) : Prop := (∀ a, a ≠ 88 → a ≠ 90 → a < 95 ∨ 108 < a → t.1 a = s.1 a ∧ t.2.1 a = s.2.1 a) ∧ t.2.2 = s.2.2 ∧ t.1 88 3 = s.1 88 3 ∧ t.1 88 7 = s.1 88 7 ∧ t.1 88 8 = s.1 88 8
theorem FW.rf {s : zv_S} : FW s s := ⟨fun _ _ _ _ => ⟨rfl, rfl⟩, rfl, rfl, rfl, rfl⟩
theorem FW.tr {s t u : zv_S} (h1 : FW s t) (h2 : FW t u) : FW s u := ⟨fun a x y z => ⟨(h2.1 a x y z).1.trans (h1.1 a x y z).1, (h2.1 a x y z).2.trans (h1.1 a x y z).2⟩, h2.2.1.trans h1.2.1, h2.2.2.1.trans h1.2.2.1, h2.2.2.2.1.trans h1.2.2.2.1, h2.2.2.2.2.trans h1.2.2.2.2⟩
theorem FW.at {s t : zv_S} (h : FW s t) {a : Nat} (x : a ≠ 88) (y : a ≠ 90) (z : a < 95 ∨ 108 < a) : t.1 a = s.1 a := (h.1 a x y z).1
theorem FW.wr {s : zv_S} {o k : Nat} {v : Int32} (h : (95 ≤ o ∧ o ≤ 108) ∨ o = 90) : FW s (sI s o k v) := ⟨fun a x y z => ⟨if_neg (by omega), rfl⟩, rfl, by rw [sI_o (by omega)], by rw [sI_o (by omega)], by rw [sI_o (by omega)]⟩
theorem FW.fl {s : zv_S} {k : Nat} {v : Int32} (h : k ≠ 3 ∧ k ≠ 7 ∧ k ≠ 8) : FW s (sI s 88 k v) := ⟨fun a x y z => ⟨if_neg x, rfl⟩, rfl, sI_k (by omega), sI_k (by omega), sI_k (by omega)⟩
theorem FW.of {s t : zv_S} {lo hi : Nat} (h : FR lo hi s t) (h1 : 95 ≤ lo ∧ hi ≤ 109) : FW s t := ⟨fun a x y z => h.1 a (by omega), h.2, by rw [h.at (by omega)], by rw [h.at (by omega)], by rw [h.at (by omega)]⟩
theorem TXT.fw {s t : zv_S} {tx : Nat → Nat} {len : Nat} (hT : TXT s 94 88 7 tx len) (hf : FW s t) : TXT t 94 88 7 tx len := by
  unfold TXT
  rw [hf.2.2.2.1, hf.at (by omega) (by omega) (by omega)]
  exact hT
