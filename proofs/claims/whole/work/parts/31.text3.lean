/-! THE TEXT: the class's reading of a whole market; the model's reading -/
theorem pE_lt {tx : Nat → Nat} {len p : Nat} (h : pE tx len = some p) : p < 1000 := by
  unfold pE at h
  split at h
  · split at h
    · rename_i hd
      obtain ⟨d1, d2, d3⟩ := okD_h hd
      have h49 : (tx 1 - 48) * (tx 1 - 48) ≤ 7 * 7 := Nat.mul_le_mul (by omega) (by omega)
      have hlf := (lf_lt (p := fun k => okD tx len 0 9 (2 + k)) ((tx 1 - 48) * (tx 1 - 48))).2.1
      have hp : ∀ i, i ≤ 7 → (hSt tx len (2 + (tx 1 - 48) * (tx 1 - 48) + 1) i).1 < 1000 := fun i hi => by
        have := (hSt_p (tx := tx) (len := len) (b := 2 + (tx 1 - 48) * (tx 1 - 48) + 1) i).2
        omega
      split at h
      · split at h
        · split at h
          · split at h
            · split at h
              · cases h
                exact hp _ (by omega)
              · cases h
            · have := (lf_lt (p := hOk tx len (2 + (tx 1 - 48) * (tx 1 - 48) + 1) (tx 1 - 48)) (tx 1 - 48)).2.1
              cases h
              exact hp _ (by omega)
          · cases h; omega
        · cases h
      · cases h; omega
    · cases h; omega
  · cases h; omega
theorem pM_w {tx : Nat → Nat} {len : Nat} (h : pE tx len = none) : MW (pM tx len) := by
  unfold pE at h
  split at h
  · split at h
    · rename_i hd
      obtain ⟨d1, d2, d3⟩ := okD_h hd
      split at h
      · rename_i hlf
        have hrk : ∀ i t, i < tx 1 - 48 → t < tx 1 - 48 → tx (2 + (i * (tx 1 - 48) + t)) - 48 ≤ 9 := by
          intro i t hi ht
          have hm : i * (tx 1 - 48) + (tx 1 - 48) ≤ (tx 1 - 48) * (tx 1 - 48) := by
            have : (i + 1) * (tx 1 - 48) ≤ (tx 1 - 48) * (tx 1 - 48) := Nat.mul_le_mul_right _ hi
            rw [Nat.succ_mul] at this
            exact this
          have := (lf_lt (p := fun k => okD tx len 0 9 (2 + k)) ((tx 1 - 48) * (tx 1 - 48))).1 (i * (tx 1 - 48) + t) (by omega)
          have := okD_h this
          omega
        split at h
        · rename_i hb
          split at h
          · split at h
            · rename_i hho
              have hg := (lf_lt (p := hOk tx len (2 + (tx 1 - 48) * (tx 1 - 48) + 1) (tx 1 - 48)) (tx 1 - 48)).1
              rw [hho] at hg
              obtain ⟨w1, w2, w3, w4, w5, w6⟩ := hSt_w (tx := tx) (len := len) (b := 2 + (tx 1 - 48) * (tx 1 - 48) + 1) (n := tx 1 - 48) (by omega) (by omega) (tx 1 - 48) hg (Nat.le_refl _)
              refine ⟨by show tx 1 - 48 ≤ 7; omega, ?_, hrk, fun i hi => ?_, fun i j hi hj e => ?_⟩
              · show (if 2 + (tx 1 - 48) * (tx 1 - 48) < len then _ else 0) < _
                rw [if_pos hb]
                exact w3
              · show (if 2 + (tx 1 - 48) * (tx 1 - 48) < len then (hSt tx len (2 + (tx 1 - 48) * (tx 1 - 48) + 1) (tx 1 - 48)).2.2.2 else fun k => k) i < tx 1 - 48
                rw [if_pos hb]
                exact (w4 i hi).1
              · have e : (if 2 + (tx 1 - 48) * (tx 1 - 48) < len then (hSt tx len (2 + (tx 1 - 48) * (tx 1 - 48) + 1) (tx 1 - 48)).2.2.2 else fun k => k) i = (if 2 + (tx 1 - 48) * (tx 1 - 48) < len then (hSt tx len (2 + (tx 1 - 48) * (tx 1 - 48) + 1) (tx 1 - 48)).2.2.2 else fun k => k) j := e
                rw [if_pos hb] at e
                exact w6 i j hi hj e
            · cases h
          · cases h
        · rename_i hb
          refine ⟨by show tx 1 - 48 ≤ 7; omega, ?_, hrk, fun i hi => ?_, fun i j hi hj e => ?_⟩
          · show (if 2 + (tx 1 - 48) * (tx 1 - 48) < len then _ else 0) < _
            rw [if_neg hb]
            exact Nat.two_pow_pos _
          · show (if 2 + (tx 1 - 48) * (tx 1 - 48) < len then (hSt tx len (2 + (tx 1 - 48) * (tx 1 - 48) + 1) (tx 1 - 48)).2.2.2 else fun k => k) i < tx 1 - 48
            rw [if_neg hb]
            exact hi
          · have e : (if 2 + (tx 1 - 48) * (tx 1 - 48) < len then (hSt tx len (2 + (tx 1 - 48) * (tx 1 - 48) + 1) (tx 1 - 48)).2.2.2 else fun k => k) i = (if 2 + (tx 1 - 48) * (tx 1 - 48) < len then (hSt tx len (2 + (tx 1 - 48) * (tx 1 - 48) + 1) (tx 1 - 48)).2.2.2 else fun k => k) j := e
            rw [if_neg hb] at e
            exact e
      · cases h
    · cases h
  · cases h
section TG
variable {sc : Nat × (Nat → Int32)} {s : zv_S} {tx : Nat → Nat} {len : Nat}
theorem t_mkt {o : Nat} (ho : isM o = true) (h3o : 3 ≤ o) (hT : TXT s 2 1 1 tx len) :
    CC sc 171 [.ref 1, .ref o] s (QI fun x t => FR o (o + 3) s t ∧ ((∃ p, pE tx len = some p ∧ x = nI p) ∨ (pE tx len = none ∧ x = -9 ∧ MK t o (pM tx len)))) := by
  refine cc_of ml_171 rfl rfl ?_
  have hlen := hT.2.1
  refine v_al0 c_171_0 ?_
  refine v_icN (n := 0) c_171_1 rfl ?_
  refine v_cVi c_171_2 rfl (by decide) rfl rfl (t_at hT (by omega)) ?_
  refine v_bpN (n := 77) c_171_3 rfl ?_
  by_cases c0 : xAt tx len 0 = nI 77
  · refine v_icmp_eq_t c_171_4 (c0) ?_
    refine v_al0 c_171_7 ?_
    refine v_icN (n := 1) c_171_8 rfl ?_
    refine v_icN (n := 1) c_171_9 rfl ?_
    refine v_bpN (n := 7) c_171_10 rfl ?_
    refine v_cVi c_171_11 rfl (by decide) rfl rfl (t_dig hT (by omega) (by omega) (by omega)) ?_
    refine v_is2 c_171_12 rfl ?_
    by_cases c1 : okD tx len 1 7 1 = true
    · obtain ⟨d1, d2, d3⟩ := okD_h c1
      rw [if_pos c1]
      obtain ⟨n, hn⟩ : ∃ n, n = tx 1 - 48 := ⟨_, rfl⟩
      rw [← hn]
      have h7 : n ≤ 7 := by omega
      have h49 : n * n ≤ 7 * 7 := Nat.mul_le_mul h7 h7
      refine v_il2 c_171_13 ?_
      refine v_bp c_171_14 ?_
      refine v_icmp_ne_t c_171_15 ((dg_9 _ (by omega))) ?_
      refine v_al1 c_171_18 ?_
      refine v_il2 c_171_19 ?_
      refine v_cVV c_171_20 rfl (kM_lt ho) (kM_is ho) rfl (k_beg ho h7) ?_
      rintro t ⟨b0, b1, b2, b3⟩
      have hT1 := hT.fr b3 (by omega) (by omega)
      refine v_al0 c_171_21 ?_
      refine v_al1 c_171_22 ?_
      refine v_icN (n := 2) c_171_23 rfl ?_
      refine v_cVI c_171_24 rfl (by decide) rfl rfl (t_rks ho h3o hT1 b0 h7) ?_
      rintro x t2 ⟨f1, g⟩
      have f2 : FR o (o + 3) s t2 := b3.tr (f1.up (by omega) (by omega))
      have hT2 := hT.fr f2 (by omega) (by omega)
      have p0 : t2.1 o 0 = nI n := by rw [f1.at (by omega)]; exact b0
      have p1 : t2.1 o 1 = nI 0 := by rw [f1.at (by omega)]; exact b1
      have p2 : ∀ i, i < n → t2.1 (o + 2) i = nI i := fun i hi => by rw [f1.at (by omega)]; exact b2 i hi
      rcases g with ⟨e1, rfl, g⟩ | ⟨e1, rfl⟩
      · have hok := (lf_lt (p := fun k => okD tx len 0 9 (2 + k)) (n * n)).1
        rw [e1] at hok
        have hble : 2 + n * n ≤ len := by
          rcases Nat.eq_zero_or_pos (n * n) with h | h
          · omega
          · have := okD_h (hok (n * n - 1) (by omega))
            omega
        refine v_is3 c_171_25 rfl ?_
        refine v_il3 c_171_26 ?_
        refine v_bp c_171_27 ?_
        refine v_icmp_eq_t c_171_28 (rfl) ?_
        refine v_icN (n := 2) c_171_31 rfl ?_
        refine v_il2 c_171_32 ?_
        refine v_il2 c_171_33 ?_
        refine v_imulN c_171_34 ?_
        refine v_iaddN c_171_35 ?_
        refine v_is4 c_171_36 rfl ?_
        refine v_al0 c_171_37 ?_
        refine v_il4 c_171_38 ?_
        refine v_cVi c_171_39 rfl (by decide) rfl rfl (t_at hT2 (by omega)) ?_
        by_cases c2 : 2 + n * n < len
        · have ex : xAt tx len (2 + n * n) = nI (tx (2 + n * n)) := if_pos c2
          have hc := (hT.2.2 _ c2).2
          rw [ex]
          refine v_ic c_171_40 ?_
          refine v_icmp_ne_t c_171_41 ((dg_nn _ hc)) ?_
          refine v_al0 c_171_44 ?_
          refine v_il4 c_171_45 ?_
          refine v_cVi c_171_46 rfl (by decide) rfl rfl (t_at hT2 (by omega)) ?_
          rw [ex]
          by_cases c3 : tx (2 + n * n) = 47
          · refine v_bpN (n := 47) c_171_47 rfl ?_
            refine v_icmp_ne_f c_171_48 ((by rw [c3])) ?_
            refine v_al0 c_171_49 ?_
            refine v_al1 c_171_50 ?_
            refine v_il4 c_171_51 ?_
            refine v_icN (n := 1) c_171_52 rfl ?_
            refine v_iaddN c_171_53 ?_
            refine v_cVI c_171_54 rfl (by decide) rfl rfl (t_hld ho h3o hT2 p0 h7 (by omega) p1 p2) ?_
            rintro x t3 ⟨f3, r1, r2, r3⟩
            refine v_goto c_171_55 ?_
            refine v_ri c_171_57 ?_
            refine ⟨_, rfl, f2.tr f3, ?_⟩
            unfold pE
            rw [if_pos c0, if_pos c1, ← hn, if_pos e1, if_pos c2, if_pos c3]
            rcases r3 with ⟨e3, r4, r5, r6⟩ | ⟨e3, r4⟩
            · rw [if_pos e3]
              by_cases c4 : (hSt tx len (2 + n * n + 1) n).1 < len
              · rw [if_pos c4] at r4 ⊢
                exact Or.inl ⟨_, rfl, r4⟩
              · rw [if_neg c4] at r4 ⊢
                refine Or.inr ⟨rfl, r4, ?_⟩
                unfold pM
                rw [← hn, if_pos c2, if_pos c2]
                refine ⟨r2, r5, fun i j hi hj => ?_, r6⟩
                rw [r1]
                exact g i j hi hj
            · rw [if_neg e3]
              exact Or.inl ⟨_, rfl, r4⟩
          · refine v_bpN (n := 47) c_171_47 rfl ?_
            refine v_icmp_ne_t c_171_48 ((fun z => c3 ((nI_eq (by omega) (by omega)).mp z))) ?_
            refine v_il4 c_171_56 ?_
            refine v_ri c_171_57 ?_
            refine ⟨_, rfl, f2, Or.inl ⟨_, ?_, rfl⟩⟩
            unfold pE
            rw [if_pos c0, if_pos c1, ← hn, if_pos e1, if_pos c2, if_neg c3]
        · have ex : xAt tx len (2 + n * n) = -1 := if_neg c2
          refine v_ic c_171_40 ?_
          refine v_icmp_ne_f c_171_41 (ex) ?_
          refine v_bp c_171_42 ?_
          refine v_ri c_171_43 ?_
          refine ⟨_, rfl, f2, Or.inr ⟨?_, rfl, ?_⟩⟩
          · unfold pE
            rw [if_pos c0, if_pos c1, ← hn, if_pos e1, if_neg c2]
          · unfold pM
            rw [← hn, if_neg c2, if_neg c2]
            exact ⟨p0, p1, g, p2⟩
      · have hle := (lf_lt (p := fun k => okD tx len 0 9 (2 + k)) (n * n)).2.1
        have h9 : ∀ k, k < 60 → nI (2 + k) ≠ -9 := by decide +kernel
        refine v_is3 c_171_25 rfl ?_
        refine v_il3 c_171_26 ?_
        refine v_bp c_171_27 ?_
        refine v_icmp_eq_f c_171_28 ((h9 _ (by omega))) ?_
        refine v_il3 c_171_29 ?_
        refine v_ri c_171_30 ?_
        refine ⟨_, rfl, f2, Or.inl ⟨_, ?_, rfl⟩⟩
        unfold pE
        rw [if_pos c0, if_pos c1, ← hn, if_neg e1]
    · rw [if_neg c1]
      refine v_il2 c_171_13 ?_
      refine v_bp c_171_14 ?_
      refine v_icmp_ne_f c_171_15 (rfl) ?_
      refine v_icN (n := 1) c_171_16 rfl ?_
      refine v_ri c_171_17 ?_
      refine ⟨_, rfl, FR.rf, Or.inl ⟨1, ?_, rfl⟩⟩
      unfold pE
      rw [if_pos c0, if_neg c1]
  · refine v_icmp_eq_f c_171_4 (c0) ?_
    refine v_icN (n := 0) c_171_5 rfl ?_
    refine v_ri c_171_6 ?_
    refine ⟨_, rfl, FR.rf, Or.inl ⟨0, ?_, rfl⟩⟩
    unfold pE
    rw [if_neg c0]
end TG
/-- the model's work space alone has changed -/
def FW (s t : zv_S) : Prop := (∀ a, a ≠ 88 → a ≠ 90 → a < 95 ∨ 108 < a → t.1 a = s.1 a ∧ t.2.1 a = s.2.1 a) ∧ t.2.2 = s.2.2 ∧ t.1 88 3 = s.1 88 3 ∧ t.1 88 7 = s.1 88 7 ∧ t.1 88 8 = s.1 88 8
theorem FW.rf {s : zv_S} : FW s s := ⟨fun _ _ _ _ => ⟨rfl, rfl⟩, rfl, rfl, rfl, rfl⟩
theorem FW.tr {s t u : zv_S} (h1 : FW s t) (h2 : FW t u) : FW s u := ⟨fun a x y z => ⟨(h2.1 a x y z).1.trans (h1.1 a x y z).1, (h2.1 a x y z).2.trans (h1.1 a x y z).2⟩, h2.2.1.trans h1.2.1, h2.2.2.1.trans h1.2.2.1, h2.2.2.2.1.trans h1.2.2.2.1, h2.2.2.2.2.trans h1.2.2.2.2⟩
theorem FW.at {s t : zv_S} (h : FW s t) {a : Nat} (x : a ≠ 88) (y : a ≠ 90) (z : a < 95 ∨ 108 < a) : t.1 a = s.1 a := (h.1 a x y z).1
theorem FW.wr {s : zv_S} {o k : Nat} {v : Int32} (h : (95 ≤ o ∧ o ≤ 108) ∨ o = 90) : FW s (sI s o k v) := ⟨fun a x y z => ⟨if_neg (by omega), rfl⟩, rfl, by rw [sI_o (by omega)], by rw [sI_o (by omega)], by rw [sI_o (by omega)]⟩
theorem FW.fl {s : zv_S} {k : Nat} {v : Int32} (h : k ≠ 3 ∧ k ≠ 7 ∧ k ≠ 8) : FW s (sI s 88 k v) := ⟨fun a x y z => ⟨if_neg x, rfl⟩, rfl, sI_k (by omega), sI_k (by omega), sI_k (by omega)⟩
theorem FW.of {s t : zv_S} {lo hi : Nat} (h : FR lo hi s t) (h1 : 95 ≤ lo ∧ hi ≤ 109) : FW s t := ⟨fun a x y z => h.1 a (by omega), h.2, by rw [h.at (by omega)], by rw [h.at (by omega)], by rw [h.at (by omega)]⟩
theorem TXT.fw {s t : zv_S} {tx : Nat → Nat} {len : Nat} (hT : TXT s 94 88 7 tx len) (hf : FW s t) : TXT t 94 88 7 tx len := by
  unfold TXT
  rw [hf.2.2.2.1, hf.at (by omega) (by omega) (by omega)]
  exact hT
