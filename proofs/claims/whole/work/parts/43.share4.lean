/-! SHARING: the model's counting -/
def RX (lk : Nat → Nat → Bool) (w k th : Nat) (f : Nat → Nat) (T X : Nat) : Nat := f X + smm (fun t => if X.testBit t && (th.testBit t && (decide (T ≤ X ^^^ 2 ^ t) && (decide (pc (X ^^^ 2 ^ t) = k) && lk w t))) then f (X ^^^ 2 ^ t) else 0) 7
section RXS
variable {lk : Nat → Nat → Bool} {line : Nat → Nat} {w k th T X : Nat} {f : Nat → Nat}
theorem RX_top (hX : X < 128) : RX lk w k th f 128 X = f X := by
  unfold RX
  rw [smm_0 7 (fun t ht => ?_), Nat.add_zero]
  have := xor_128 hX ht
  rw [decide_eq_false (show ¬ 128 ≤ X ^^^ 2 ^ t by omega)]
  simp
theorem RX_self (hT : T < 128) : RX lk w k th f (T + 1) T = f T := by
  unfold RX
  rw [smm_0 7 (fun t ht => ?_), Nat.add_zero]
  cases c : T.testBit t
  · rfl
  · have := xor_lt hT c
    rw [decide_eq_false (show ¬ T + 1 ≤ T ^^^ 2 ^ t by omega)]
    simp
theorem RX_s : RX lk w k th f T X = RX lk w k th f (T + 1) X + (if decide (pc T = k) && ((List.range 7).any fun t => (!T.testBit t && (th.testBit t && lk w t)) && decide (X = T ||| 2 ^ t)) then f T else 0) := by
  unfold RX
  rw [Nat.add_assoc]
  congr 1
  by_cases h : ∃ t, t < 7 ∧ X.testBit t = true ∧ X ^^^ 2 ^ t = T
  · obtain ⟨u, u1, u2, u3⟩ := h
    have huT : T.testBit u = false := by rw [← u3]; exact xor_tb u2
    have hXT : X = T ||| 2 ^ u := by rw [← u3, xor_or u2]
    have hrest : ∀ t, t ≠ u → (if X.testBit t && (th.testBit t && (decide (T ≤ X ^^^ 2 ^ t) && (decide (pc (X ^^^ 2 ^ t) = k) && lk w t))) then f (X ^^^ 2 ^ t) else 0) = (if X.testBit t && (th.testBit t && (decide (T + 1 ≤ X ^^^ 2 ^ t) && (decide (pc (X ^^^ 2 ^ t) = k) && lk w t))) then f (X ^^^ 2 ^ t) else 0) := by
      intro t ht
      cases c : X.testBit t
      · rfl
      · have : X ^^^ 2 ^ t ≠ T := fun e => by
          have h1 : T.testBit t = false := by rw [← e]; exact xor_tb c
          have h2 : X = T ||| 2 ^ t := by rw [← e, xor_or c]
          exact ht (or_inj h1 (h2.symm.trans hXT) huT)
        rw [show decide (T ≤ X ^^^ 2 ^ t) = decide (T + 1 ≤ X ^^^ 2 ^ t) from decide_eq_decide.mpr (by omega)]
    have hany : ((List.range 7).any fun t => (!T.testBit t && (th.testBit t && lk w t)) && decide (X = T ||| 2 ^ t)) = (th.testBit u && lk w u) := by
      cases e : (th.testBit u && lk w u)
      · rw [List.any_eq_false]
        intro t ht
        cases h1 : T.testBit t
        · by_cases h2 : X = T ||| 2 ^ t
          · have := or_inj h1 (h2.symm.trans hXT) huT
            subst this
            rw [Bool.and_eq_false_iff] at e
            rcases e with e | e <;> simp [e]
          · simp [h2]
        · simp
      · rw [List.any_eq_true]
        refine ⟨u, List.mem_range.mpr u1, ?_⟩
        rw [Bool.and_eq_true] at e
        simp [huT, e.1, e.2, hXT]
    rw [hany]
    refine smm_one (u := u) ?_ hrest 7 u1
    rw [u2, u3, decide_eq_true (Nat.le_refl T), decide_eq_false (show ¬ T + 1 ≤ T by omega)]
    cases th.testBit u <;> cases lk w u <;> cases decide (pc T = k) <;> simp
  · have hany : ((List.range 7).any fun t => (!T.testBit t && (th.testBit t && lk w t)) && decide (X = T ||| 2 ^ t)) = false := by
      rw [List.any_eq_false]
      intro t ht
      cases h1 : T.testBit t
      · by_cases h2 : X = T ||| 2 ^ t
        · exact absurd ⟨t, List.mem_range.mp ht, by rw [h2, Nat.testBit_or, Nat.testBit_two_pow_self, Bool.or_true], by rw [h2, or_xor h1]⟩ h
        · simp [h2]
      · simp
    rw [hany, Bool.and_false, if_neg (by decide), Nat.add_zero]
    refine smm_cg 7 fun t ht => ?_
    cases c : X.testBit t
    · rfl
    · have : X ^^^ 2 ^ t ≠ T := fun e => h ⟨t, ht, c, e⟩
      rw [show decide (T ≤ X ^^^ 2 ^ t) = decide (T + 1 ≤ X ^^^ 2 ^ t) from decide_eq_decide.mpr (by omega)]
theorem FX_no {q : Nat} (h : sub X th = false) : FX lk line q th X = 0 := by
  unfold FX
  rw [h]; rfl
theorem sub_xor {t : Nat} (c : X.testBit t = true) (h : th.testBit t = true) : sub (X ^^^ 2 ^ t) th = sub X th := by
  cases e : sub X th
  · cases e2 : sub (X ^^^ 2 ^ t) th
    · rfl
    · exfalso
      have : sub X th = true := sub_iff.mpr fun x hx => by
        rw [← xor_or c, Nat.testBit_or, Bool.or_eq_true] at hx
        rcases hx with h1 | h1
        · exact sub_iff.mp e2 x h1
        · rw [Nat.testBit_two_pow] at h1
          rw [← of_decide_eq_true h1]
          exact h
      rw [this] at e
      cases e
  · exact sub_iff.mpr fun x hx => sub_iff.mp e x (by rw [← xor_or c, Nat.testBit_or, hx, Bool.true_or])
theorem RX_fin (hX : X < 128) (hw : line k = w) : RX lk w k th (FX lk line k th) 0 X = FX lk line (k + 1) th X := by
  unfold RX
  cases hs : sub X th
  · rw [FX_no hs, FX_no hs, Nat.zero_add]
    refine smm_0 7 fun t ht => ?_
    cases c : X.testBit t
    · rfl
    · cases c2 : th.testBit t
      · rfl
      · rw [FX_no (by rw [sub_xor c c2]; exact hs)]
        simp
  · have e : ∀ q, FX lk line q th X = if decide (pc X ≤ q) then WL lk line (pc X) X else 0 := fun q => by unfold FX; rw [hs, Bool.true_and]
    rw [e, e]
    by_cases h1 : pc X = k + 1
    · rw [h1, decide_eq_false (by omega), decide_eq_true (by omega), if_neg (by decide), if_pos rfl, Nat.zero_add]
      show _ = smm (fun t => if X.testBit t && lk (line k) t then WL lk line k (X ^^^ 2 ^ t) else 0) 7
      refine smm_cg 7 fun t ht => ?_
      cases c : X.testBit t
      · rfl
      · have p1 := pc_xor hX c
        have p2 : pc (X ^^^ 2 ^ t) = k := by omega
        have c2 := sub_iff.mp hs t c
        rw [c2, p2, hw, decide_eq_true (Nat.zero_le _), decide_eq_true rfl]
        unfold FX
        rw [sub_xor c c2, hs, p2, decide_eq_true (Nat.le_refl _)]
        rfl
    · rw [show decide (pc X ≤ k) = decide (pc X ≤ k + 1) from decide_eq_decide.mpr (by omega), smm_0 7 (fun t ht => ?_), Nat.add_zero]
      cases c : X.testBit t
      · rfl
      · have p1 := pc_xor hX c
        rw [decide_eq_false (show ¬ pc (X ^^^ 2 ^ t) = k by omega)]
        simp
theorem FX_0 (hX : X < 128) : FX lk line 0 th X = if X = 0 then 1 else 0 := by
  by_cases h : X = 0
  · subst h
    unfold FX
    have h1 : sub 0 th = true := sub_iff.mpr fun x hx => by simp at hx
    rw [h1, show pc 0 = 0 from rfl, decide_eq_true (Nat.le_refl _)]
    rfl
  · unfold FX
    rw [if_neg h, decide_eq_false (fun z => h (pc_0 X hX (by omega)))]
    simp
theorem zdf_sub : zdf X th = 0 ↔ sub X th = true := by
  unfold sub
  rw [decide_eq_true_eq]
end RXS
section SM
variable {sc : Nat × (Nat → Int32)} {s : zv_S} {M : zM}
theorem q_spr (hM : QM (s.1 89) M) (hw : MW M) {i th how k : Nat} {f : Nat → Nat} (hi : i < mN M) (hth : th < 128) (hthn : ∀ x, th.testBit x = true → x < mN M) (hhow : how < 3) (hk7 : k < 8) (hfb : ∀ X, f X < 2147483648) (hf0 : ∀ X, sub X th = false → f X = 0) (h103 : ∀ X, X < 128 → s.1 103 X = nI (f X)) :
    CC sc 87 [.ref 88, .int (nI i), .int (nI th), .int (nI how), .int (nI k)] s (QV fun t => (∀ X, X < 128 → t.1 103 X = nI (RX (lkM M how) i k th f 0 X)) ∧ FR 103 104 s t) := by
  refine cc_of ml_87 rfl rfl ?_
  have h7 := hw.1
  have bi := hw.2.2.2.1 i hi
  have ei := hw.2.2.1 i _ hi bi
  refine v_bpN (n := 127) c_87_0 rfl ?_
  refine v_is5 c_87_1 rfl ?_
  refine vv_forS 128 (fun a ls t => (∃ y6 y7 y8, ls = [some (.ref 88), some (.int (nI i)), some (.int (nI th)), some (.int (nI how)), some (.int (nI k)), some (.int (nI (128 - a) - nI 1)), y6, y7, y8]) ∧ (∀ X, X < 128 → t.1 103 X = nI (RX (lkM M how) i k th f (128 - a) X)) ∧ FR 103 104 s t) ?_ ?_ _ _ ⟨⟨none, none, none, rfl⟩, fun X hX => by rw [Nat.sub_zero, RX_top hX]; exact h103 X hX, FR.rf⟩
  · rintro a ls t ha ⟨⟨y6, y7, y8, rfl⟩, g1, g2⟩ hk
    have ej : nI (128 - a) - nI 1 = nI (128 - a - 1) := pk_sub (by omega)
    rw [ej]
    obtain ⟨T, hT⟩ : ∃ T, T = 128 - a - 1 := ⟨_, rfl⟩
    rw [← hT]
    rw [show 128 - a = T + 1 by omega] at g1
    have hT8 : T < 128 := by omega
    have hpT := pc_le T
    have fin : ∀ u y6 y7 y8, (∀ X, X < 128 → u.1 103 X = nI (RX (lkM M how) i k th f T X)) → FR 103 104 s u → VV sc 87 2 [some (.ref 88), some (.int (nI i)), some (.int (nI th)), some (.int (nI how)), some (.int (nI k)), some (.int (nI T + (-1))), y6, y7, y8] [] u (QV fun t => (∀ X, X < 128 → t.1 103 X = nI (RX (lkM M how) i k th f 0 X)) ∧ FR 103 104 s t) := by
      intro u y6 y7 y8 r1 r2
      have := hk [some (.ref 88), some (.int (nI i)), some (.int (nI th)), some (.int (nI how)), some (.int (nI k)), some (.int (nI (128 - (a + 1)) - nI 1)), y6, y7, y8] u ⟨⟨y6, y7, y8, rfl⟩, by rw [show 128 - (a + 1) = T by omega]; exact r1, r2⟩
      rw [show 128 - (a + 1) = T by omega, show nI T - nI 1 = nI T + (-1) by rw [Int32.sub_eq_add_neg]; rfl] at this
      exact this
    have stay : (decide (pc T = k) = false ∨ f T = 0) → ∀ X, X < 128 → t.1 103 X = nI (RX (lkM M how) i k th f T X) := by
      intro hh X hX
      rw [RX_s, g1 X hX]
      rcases hh with hh | hh <;> rw [hh]
      · rw [Bool.false_and]; rfl
      · simp
    by_cases c1 : zdf T th = 0
    · by_cases c2 : pc T = k
      · have tT : t.1 103 T = nI (f T) := by rw [g1 T hT8, RX_self hT8]
        have hfT := hfb T
        by_cases c3 : f T = 0
        · refine v_il5 c_87_2 ?_
          refine v_if_lt_F c_87_3 (by omega) ?_
          refine v_il5 c_87_4 ?_
          refine v_il2 c_87_5 ?_
          refine v_ic c_87_6 ?_
          refine v_ixor c_87_7 ?_
          refine v_iand c_87_8 ?_
          rw [nI_not]
          refine v_if_ne_F c_87_9 (by omega) (by omega) ?_
          refine v_il5 c_87_10 ?_
          refine v_cSi c_87_11 rfl rfl rfl (q_ones hT8) ?_
          refine v_il4 c_87_12 ?_
          refine v_icmp_ne_F c_87_13 (by omega) (by omega) (by omega) ?_
          refine v_al0 c_87_14 ?_
          refine v_gR (n0 := 103) c_87_15 rfl ?_
          refine v_il5 c_87_16 ?_
          refine v_aI c_87_17 rfl (by omega) (tT) ?_
          refine v_if_le_T c_87_18 ((by omega)) (by omega) ?_
          refine v_inc5 c_87_91 rfl ?_
          refine v_goto c_87_92 ?_
          exact fin t _ _ _ (stay (Or.inr c3)) g2
        · refine v_il5 c_87_2 ?_
          refine v_if_lt_F c_87_3 (by omega) ?_
          refine v_il5 c_87_4 ?_
          refine v_il2 c_87_5 ?_
          refine v_ic c_87_6 ?_
          refine v_ixor c_87_7 ?_
          refine v_iand c_87_8 ?_
          rw [nI_not]
          refine v_if_ne_F c_87_9 (by omega) (by omega) ?_
          refine v_il5 c_87_10 ?_
          refine v_cSi c_87_11 rfl rfl rfl (q_ones hT8) ?_
          refine v_il4 c_87_12 ?_
          refine v_icmp_ne_F c_87_13 (by omega) (by omega) (by omega) ?_
          refine v_al0 c_87_14 ?_
          refine v_gR (n0 := 103) c_87_15 rfl ?_
          refine v_il5 c_87_16 ?_
          refine v_aI c_87_17 rfl (by omega) (tT) ?_
          refine v_if_le_F c_87_18 ((by omega)) (by omega) ?_
          refine v_icN (n := 0) c_87_19 rfl ?_
          refine v_is6 c_87_20 rfl ?_
          obtain ⟨c, hc⟩ : ∃ c : Nat → Bool, c = fun t => !T.testBit t && (th.testBit t && lkM M how i t) := ⟨_, rfl⟩
          have hce : ∀ t, c t = (!T.testBit t && (th.testBit t && lkM M how i t)) := fun t => by rw [hc]
          have hcT : ∀ t, c t = true → T.testBit t = false := fun t ht => by
            rw [hce, Bool.and_eq_true, Bool.not_eq_true'] at ht
            exact ht.1
          refine vv_forS (mN M) (fun j ls u => (∃ y7 y8, ls = [some (.ref 88), some (.int (nI i)), some (.int (nI th)), some (.int (nI how)), some (.int (nI k)), some (.int (nI T)), some (.int (nI j)), y7, y8]) ∧ (∀ X, X < 128 → u.1 103 X = nI (RX (lkM M how) i k th f (T + 1) X + (if (List.range j).any (fun t => c t && decide (X = T ||| 2 ^ t)) then f T else 0))) ∧ FR 103 104 s u) ?_ ?_ _ _ ⟨⟨_, _, rfl⟩, fun X hX => g1 X hX, g2⟩
          · rintro j ls u hj ⟨⟨y7, y8, rfl⟩, f1, f2⟩ hkk
            have hMu : QM (u.1 89) M := by rw [f2.at (by omega)]; exact hM
            have rj := hw.2.2.1 i j hi hj
            have hTj : T ||| 2 ^ j < 128 := or_128 hT8 (by omega)
            have stp : ∀ X, RX (lkM M how) i k th f (T + 1) X + (if (List.range (j + 1)).any (fun t => c t && decide (X = T ||| 2 ^ t)) then f T else 0) = RX (lkM M how) i k th f (T + 1) X + (if (List.range j).any (fun t => c t && decide (X = T ||| 2 ^ t)) then f T else 0) + (if c j && decide (X = T ||| 2 ^ j) then f T else 0) := by
              intro X
              rw [any_s]
              cases h1 : (c j && decide (X = T ||| 2 ^ j))
              · simp
              · rw [Bool.and_eq_true, decide_eq_true_eq] at h1
                have : (List.range j).any (fun t => c t && decide (X = T ||| 2 ^ t)) = false := by
                  rw [List.any_eq_false]
                  intro t ht
                  rw [Bool.and_eq_true, decide_eq_true_eq]
                  rintro ⟨h2, h3⟩
                  have := or_inj (hcT j h1.1) (h1.2.symm.trans h3) (hcT t h2)
                  have := List.mem_range.mp ht
                  omega
                rw [this]
                simp
            have uT : u.1 103 T = nI (f T) := by
              rw [f1 T hT8, RX_self hT8, if_neg, Nat.add_zero]
              rw [Bool.not_eq_true, List.any_eq_false]
              intro t ht
              rw [Bool.and_eq_true, decide_eq_true_eq]
              rintro ⟨h2, h3⟩
              have := hcT t h2
              rw [h3, Nat.testBit_or, Nat.testBit_two_pow_self, Bool.or_true] at this
              cases this
            have uX := f1 (T ||| 2 ^ j) hTj
            have fin2 : ∀ b y8, b = bI (lkM M how i j) → VV sc 87 61 [some (.ref 88), some (.int (nI i)), some (.int (nI th)), some (.int (nI how)), some (.int (nI k)), some (.int (nI T)), some (.int (nI j)), some (.int (nI (mR M i j) - nI (mR M i (mH M i)))), y8] [.int b] u (QV fun t => (∀ X, X < 128 → t.1 103 X = nI (RX (lkM M how) i k th f 0 X)) ∧ FR 103 104 s t) := by
              intro b y8 hb
              subst hb
              have done : ∀ y8, (∀ v, v = (if c j then f T else 0) → VV sc 87 21 [some (.ref 88), some (.int (nI i)), some (.int (nI th)), some (.int (nI how)), some (.int (nI k)), some (.int (nI T)), some (.int (nI (j + 1))), some (.int (nI (mR M i j) - nI (mR M i (mH M i)))), y8] [] (sI u 103 (T ||| 2 ^ j) (nI (RX (lkM M how) i k th f (T + 1) (T ||| 2 ^ j) + (if (List.range j).any (fun t => c t && decide (T ||| 2 ^ j = T ||| 2 ^ t)) then f T else 0) + v))) (QV fun t => (∀ X, X < 128 → t.1 103 X = nI (RX (lkM M how) i k th f 0 X)) ∧ FR 103 104 s t)) := by
                intro y8 v hv
                refine hkk _ _ ⟨⟨_, _, rfl⟩, fun X hX => ?_, f2.tr (FR.sI (by omega) (by omega))⟩
                by_cases e : X = T ||| 2 ^ j
                · subst e
                  rw [sI_s, stp, hv, decide_eq_true rfl, Bool.and_true]
                · rw [sI_k e, stp, decide_eq_false e, Bool.and_false]
                  exact f1 X hX
              cases hl : lkM M how i j
              · refine v_is8 c_87_61 rfl ?_
                refine v_al0 c_87_62 ?_
                refine v_gR (n0 := 103) c_87_63 rfl ?_
                refine v_il5 c_87_64 ?_
                refine v_icN (n := 1) c_87_65 rfl ?_
                refine v_il6 c_87_66 ?_
                refine v_ishlN c_87_67 (by omega) ?_
                refine v_iorN c_87_68 ?_
                rw [Nat.one_mul]
                refine v_dup2 c_87_69 ?_
                refine v_aI c_87_70 rfl (hTj) (uX) ?_
                refine v_il8 c_87_71 ?_
                refine v_if_eq_tb c_87_72 (rfl) ?_
                refine v_icN (n := 0) c_87_86 rfl ?_
                refine v_iaddN c_87_87 ?_
                refine v_sI c_87_88 rfl (hTj) ?_
                refine v_incN6 c_87_89 rfl rfl ?_
                refine v_goto c_87_90 ?_
                exact done _ 0 (by rw [hce, hl]; simp)
              · refine v_is8 c_87_61 rfl ?_
                refine v_al0 c_87_62 ?_
                refine v_gR (n0 := 103) c_87_63 rfl ?_
                refine v_il5 c_87_64 ?_
                refine v_icN (n := 1) c_87_65 rfl ?_
                refine v_il6 c_87_66 ?_
                refine v_ishlN c_87_67 (by omega) ?_
                refine v_iorN c_87_68 ?_
                rw [Nat.one_mul]
                refine v_dup2 c_87_69 ?_
                refine v_aI c_87_70 rfl (hTj) (uX) ?_
                refine v_il8 c_87_71 ?_
                refine v_if_eq_fb c_87_72 (rfl) ?_
                refine v_il2 c_87_73 ?_
                refine v_il5 c_87_74 ?_
                refine v_ic c_87_75 ?_
                refine v_ixor c_87_76 ?_
                refine v_iand c_87_77 ?_
                rw [nI_not]
                have hz : zdf th T < 128 := zdf_lt (n := 7) hth
                have hzt := zdf_tb th T j
                cases hz2 : (zdf th T).testBit j
                · refine v_il6 c_87_78 ?_
                  refine v_cSi c_87_79 rfl rfl rfl (q_has (by omega) (by omega)) ?_
                  refine v_if_eq_tb c_87_80 (hz2) ?_
                  refine v_icN (n := 0) c_87_86 rfl ?_
                  refine v_iaddN c_87_87 ?_
                  refine v_sI c_87_88 rfl (hTj) ?_
                  refine v_incN6 c_87_89 rfl rfl ?_
                  refine v_goto c_87_90 ?_
                  refine done _ 0 ?_
                  rw [hz2] at hzt
                  rw [hce, hl, Bool.and_true, Bool.and_comm, ← hzt]
                  rfl
                · refine v_il6 c_87_78 ?_
                  refine v_cSi c_87_79 rfl rfl rfl (q_has (by omega) (by omega)) ?_
                  refine v_if_eq_fb c_87_80 (hz2) ?_
                  refine v_al0 c_87_81 ?_
                  refine v_gR (n0 := 103) c_87_82 rfl ?_
                  refine v_il5 c_87_83 ?_
                  refine v_aI c_87_84 rfl (by omega) (uT) ?_
                  refine v_goto c_87_85 ?_
                  refine v_iaddN c_87_87 ?_
                  refine v_sI c_87_88 rfl (hTj) ?_
                  refine v_incN6 c_87_89 rfl rfl ?_
                  refine v_goto c_87_90 ?_
                  refine done _ (f T) ?_
                  rw [hz2] at hzt
                  rw [hce, hl, Bool.and_true, Bool.and_comm, ← hzt]
                  rfl
            have h012 : how = 0 ∨ how = 1 ∨ how = 2 := by omega
            have l0 : lkM M 0 i j = decide (mR M i j ≤ mR M i (mH M i)) := rfl
            have l1 : lkM M 1 i j = decide (mR M i j = mR M i (mH M i)) := rfl
            have l2 : lkM M 2 i j = decide (mR M i j < mR M i (mH M i)) := rfl
            refine v_il6 c_87_21 ?_
            refine v_al0 c_87_22 ?_
            refine v_gR (n0 := 89) c_87_23 rfl ?_
            refine v_icN (n := 0) c_87_24 rfl ?_
            refine v_aI c_87_25 rfl (by omega) (hMu.1) ?_
            refine v_icmp_ge_F c_87_26 (by omega) (by omega) (by omega) ?_
            refine v_al0 c_87_27 ?_
            refine v_il1 c_87_28 ?_
            refine v_il6 c_87_29 ?_
            refine v_cVi c_87_30 rfl (by decide) rfl rfl (q_rk hMu hw hi hj) ?_
            refine v_al0 c_87_31 ?_
            refine v_il1 c_87_32 ?_
            refine v_al0 c_87_33 ?_
            refine v_il1 c_87_34 ?_
            refine v_cVi c_87_35 rfl (by decide) rfl rfl (q_hd hMu h7 hi) ?_
            refine v_cVi c_87_36 rfl (by decide) rfl rfl (q_rk hMu hw hi bi) ?_
            refine v_isub c_87_37 ?_
            refine v_is7 c_87_38 rfl ?_
            rcases h012 with e | e | e
            · by_cases c5 : mR M i j ≤ mR M i (mH M i)
              · refine v_il3 c_87_39 ?_
                refine v_if_ne_F c_87_40 (e) (by omega) ?_
                refine v_il7 c_87_41 ?_
                refine v_if_gt_f c_87_42 ((fun z => absurd ((ls_gt rj ei).mp z) (by omega))) ?_
                refine v_icN (n := 1) c_87_43 rfl ?_
                refine v_goto c_87_44 ?_
                exact fin2 _ _ (by rw [e, l0, decide_eq_true c5]; rfl)
              · refine v_il3 c_87_39 ?_
                refine v_if_ne_F c_87_40 (e) (by omega) ?_
                refine v_il7 c_87_41 ?_
                refine v_if_gt_t c_87_42 (((ls_gt rj ei).mpr (by omega))) ?_
                refine v_icN (n := 0) c_87_45 rfl ?_
                refine v_goto c_87_46 ?_
                exact fin2 _ _ (by rw [e, l0, decide_eq_false c5]; rfl)
            · by_cases c5 : mR M i j = mR M i (mH M i)
              · refine v_il3 c_87_39 ?_
                refine v_if_ne_T c_87_40 ((by omega)) (by omega) ?_
                refine v_il3 c_87_47 ?_
                refine v_icN (n := 1) c_87_48 rfl ?_
                refine v_icmp_ne_F c_87_49 (e) (by omega) (by omega) ?_
                refine v_il7 c_87_50 ?_
                refine v_if_ne_f c_87_51 (((ls_eq rj ei).mpr c5)) ?_
                refine v_icN (n := 1) c_87_52 rfl ?_
                refine v_goto c_87_53 ?_
                exact fin2 _ _ (by rw [e, l1, decide_eq_true c5]; rfl)
              · refine v_il3 c_87_39 ?_
                refine v_if_ne_T c_87_40 ((by omega)) (by omega) ?_
                refine v_il3 c_87_47 ?_
                refine v_icN (n := 1) c_87_48 rfl ?_
                refine v_icmp_ne_F c_87_49 (e) (by omega) (by omega) ?_
                refine v_il7 c_87_50 ?_
                refine v_if_ne_t c_87_51 ((fun z => c5 ((ls_eq rj ei).mp z))) ?_
                refine v_icN (n := 0) c_87_54 rfl ?_
                refine v_goto c_87_55 ?_
                exact fin2 _ _ (by rw [e, l1, decide_eq_false c5]; rfl)
            · by_cases c5 : mR M i j < mR M i (mH M i)
              · refine v_il3 c_87_39 ?_
                refine v_if_ne_T c_87_40 ((by omega)) (by omega) ?_
                refine v_il3 c_87_47 ?_
                refine v_icN (n := 1) c_87_48 rfl ?_
                refine v_icmp_ne_T c_87_49 ((by omega)) (by omega) (by omega) ?_
                refine v_il7 c_87_56 ?_
                refine v_if_ge_f c_87_57 ((fun z => absurd ((ls_ge rj ei).mp z) (by omega))) ?_
                refine v_icN (n := 1) c_87_58 rfl ?_
                refine v_goto c_87_59 ?_
                exact fin2 _ _ (by rw [e, l2, decide_eq_true c5]; rfl)
              · refine v_il3 c_87_39 ?_
                refine v_if_ne_T c_87_40 ((by omega)) (by omega) ?_
                refine v_il3 c_87_47 ?_
                refine v_icN (n := 1) c_87_48 rfl ?_
                refine v_icmp_ne_T c_87_49 ((by omega)) (by omega) (by omega) ?_
                refine v_il7 c_87_56 ?_
                refine v_if_ge_t c_87_57 (((ls_ge rj ei).mpr (by omega))) ?_
                refine v_icN (n := 0) c_87_60 rfl ?_
                exact fin2 _ _ (by rw [e, l2, decide_eq_false c5]; rfl)
          · rintro ls u ⟨⟨y7, y8, rfl⟩, f1, f2⟩
            have hMu : QM (u.1 89) M := by rw [f2.at (by omega)]; exact hM
            refine v_il6 c_87_21 ?_
            refine v_al0 c_87_22 ?_
            refine v_gR (n0 := 89) c_87_23 rfl ?_
            refine v_icN (n := 0) c_87_24 rfl ?_
            refine v_aI c_87_25 rfl (by omega) (hMu.1) ?_
            refine v_icmp_ge_T c_87_26 (by omega) (by omega) (by omega) ?_
            refine v_inc5 c_87_91 rfl ?_
            refine v_goto c_87_92 ?_
            refine fin u _ _ _ (fun X hX => ?_) f2
            rw [f1 X hX, RX_s (T := T), decide_eq_true c2, Bool.true_and]
            have ea : ((List.range (mN M)).any fun t => c t && decide (X = T ||| 2 ^ t)) = ((List.range 7).any fun t => (!T.testBit t && (th.testBit t && lkM M how i t)) && decide (X = T ||| 2 ^ t)) := by
              rw [Bool.eq_iff_iff, List.any_eq_true, List.any_eq_true]
              constructor
              · rintro ⟨x, x1, x2⟩
                exact ⟨x, List.mem_range.mpr (by have := List.mem_range.mp x1; omega), by rw [hce] at x2; exact x2⟩
              · rintro ⟨x, x1, x2⟩
                refine ⟨x, List.mem_range.mpr (hthn x ?_), by rw [hce]; exact x2⟩
                rw [Bool.and_eq_true, Bool.and_eq_true, Bool.and_eq_true] at x2
                exact x2.1.2.1
            rw [ea]
      · refine v_il5 c_87_2 ?_
        refine v_if_lt_F c_87_3 (by omega) ?_
        refine v_il5 c_87_4 ?_
        refine v_il2 c_87_5 ?_
        refine v_ic c_87_6 ?_
        refine v_ixor c_87_7 ?_
        refine v_iand c_87_8 ?_
        rw [nI_not]
        refine v_if_ne_F c_87_9 (by omega) (by omega) ?_
        refine v_il5 c_87_10 ?_
        refine v_cSi c_87_11 rfl rfl rfl (q_ones hT8) ?_
        refine v_il4 c_87_12 ?_
        refine v_icmp_ne_T c_87_13 (c2) (by omega) (by omega) ?_
        refine v_inc5 c_87_91 rfl ?_
        refine v_goto c_87_92 ?_
        exact fin t _ _ _ (stay (Or.inl (decide_eq_false c2))) g2
    · have hz : zdf T th < 128 := zdf_lt (n := 7) hT8
      have hs : sub T th = false := by
        cases e : sub T th
        · rfl
        · exact absurd (zdf_sub.mpr e) c1
      refine v_il5 c_87_2 ?_
      refine v_if_lt_F c_87_3 (by omega) ?_
      refine v_il5 c_87_4 ?_
      refine v_il2 c_87_5 ?_
      refine v_ic c_87_6 ?_
      refine v_ixor c_87_7 ?_
      refine v_iand c_87_8 ?_
      rw [nI_not]
      refine v_if_ne_T c_87_9 (c1) (by omega) ?_
      refine v_inc5 c_87_91 rfl ?_
      refine v_goto c_87_92 ?_
      exact fin t _ _ _ (stay (Or.inr (hf0 T hs))) g2
  · rintro ls t ⟨⟨y6, y7, y8, rfl⟩, g1, g2⟩
    rw [Nat.sub_self] at g1 ⊢
    refine v_il5 c_87_2 ?_
    refine v_if_lt_t c_87_3 ((by decide)) ?_
    exact v_rv c_87_93 ⟨rfl, ⟨g1, g2⟩⟩
theorem q_way (hM : QM (s.1 89) M) (hw : MW M) {S th how : Nat} (hS : S < 128) (hth : th < 128) (hthn : ∀ x, th.testBit x = true → x < mN M) (hhow : how < 3) :
    CC sc 86 [.ref 88, .int (nI S), .int (nI th), .int (nI how)] s (QI fun x t => x = nI (wyS M S th how) ∧ FR 103 104 s t) := by
  refine cc_of ml_86 rfl rfl ?_
  have h7 := hw.1
  refine v_al0 c_86_0 ?_
  refine v_gR (n0 := 103) c_86_1 rfl ?_
  refine v_icN (n := 0) c_86_2 rfl ?_
  refine v_icN (n := 1) c_86_3 rfl ?_
  refine v_sI c_86_4 rfl (by omega) ?_
  refine v_icN (n := 1) c_86_5 rfl ?_
  refine v_is4 c_86_6 rfl ?_
  refine vv_forS 127 (fun a ls t => ls = [some (.ref 88), some (.int (nI S)), some (.int (nI th)), some (.int (nI how)), some (.int (nI (1 + a))), none] ∧ (∀ X, X < 1 + a → t.1 103 X = nI (if X = 0 then 1 else 0)) ∧ FR 103 104 s t) ?_ ?_ _ _ ⟨rfl, fun X hX => ?_, FR.sI (by omega) (by omega)⟩
  · rintro a ls t ha ⟨rfl, g1, g2⟩ hk
    refine v_il4 c_86_7 ?_
    refine v_spN (n := 128) c_86_8 rfl ?_
    refine v_icmp_ge_F c_86_9 (by omega) (by omega) (by omega) ?_
    refine v_al0 c_86_10 ?_
    refine v_gR (n0 := 103) c_86_11 rfl ?_
    refine v_il4 c_86_12 ?_
    refine v_icN (n := 0) c_86_13 rfl ?_
    refine v_sI c_86_14 rfl (by omega) ?_
    refine v_incN4 c_86_15 rfl rfl ?_
    refine v_goto c_86_16 ?_
    refine hk _ _ ⟨rfl, fun X hX => ?_, g2.tr (FR.sI (by omega) (by omega))⟩
    by_cases e : X = 1 + a
    · rw [e, sI_s, if_neg (by omega)]
    · rw [sI_k e]; exact g1 X (by omega)
  · rintro ls t ⟨rfl, g1, g2⟩
    refine v_il4 c_86_7 ?_
    refine v_spN (n := 128) c_86_8 rfl ?_
    refine v_icmp_ge_T c_86_9 (by omega) (by omega) (by omega) ?_
    refine v_icN (n := 0) c_86_17 rfl ?_
    refine v_is4 c_86_18 rfl ?_
    refine v_icN (n := 0) c_86_19 rfl ?_
    refine v_is5 c_86_20 rfl ?_
    refine vv_forS (mN M) (fun i ls t => ls = [some (.ref 88), some (.int (nI S)), some (.int (nI th)), some (.int (nI how)), some (.int (nI (bS S i))), some (.int (nI i))] ∧ (∀ X, X < 128 → t.1 103 X = nI (FX (lkM M how) (selF S (mN M)) (bS S i) th X)) ∧ FR 103 104 s t) ?_ ?_ _ _ ⟨rfl, fun X hX => by rw [show bS S 0 = 0 from rfl, FX_0 hX]; exact g1 X (by omega), g2⟩
    · rintro i ls t hi ⟨rfl, g1, g2⟩ hk
      have hMt : QM (t.1 89) M := by rw [g2.at (by omega)]; exact hM
      have hbi : bS S i ≤ i := cnt_le _ i
      cases h1 : S.testBit i
      · refine v_il5 c_86_21 ?_
        refine v_al0 c_86_22 ?_
        refine v_gR (n0 := 89) c_86_23 rfl ?_
        refine v_icN (n := 0) c_86_24 rfl ?_
        refine v_aI c_86_25 rfl (by omega) (hMt.1) ?_
        refine v_icmp_ge_F c_86_26 (by omega) (by omega) (by omega) ?_
        refine v_il1 c_86_27 ?_
        refine v_il5 c_86_28 ?_
        refine v_cSi c_86_29 rfl rfl rfl (q_has (by omega) (by omega)) ?_
        refine v_if_eq_tb c_86_30 (h1) ?_
        refine v_incN5 c_86_38 rfl rfl ?_
        refine v_goto c_86_39 ?_
        exact hk _ _ ⟨by rw [bS_f h1], fun X hX => by rw [bS_f h1]; exact g1 X hX, g2⟩
      · refine v_il5 c_86_21 ?_
        refine v_al0 c_86_22 ?_
        refine v_gR (n0 := 89) c_86_23 rfl ?_
        refine v_icN (n := 0) c_86_24 rfl ?_
        refine v_aI c_86_25 rfl (by omega) (hMt.1) ?_
        refine v_icmp_ge_F c_86_26 (by omega) (by omega) (by omega) ?_
        refine v_il1 c_86_27 ?_
        refine v_il5 c_86_28 ?_
        refine v_cSi c_86_29 rfl rfl rfl (q_has (by omega) (by omega)) ?_
        refine v_if_eq_fb c_86_30 (h1) ?_
        refine v_al0 c_86_31 ?_
        refine v_il5 c_86_32 ?_
        refine v_il2 c_86_33 ?_
        refine v_il3 c_86_34 ?_
        refine v_il4 c_86_35 ?_
        refine v_cVV c_86_36 rfl (by decide) rfl rfl (q_spr hMt hw hi hth hthn hhow (by omega) (fun X => FX_b) (fun X hX => FX_no hX) g1) ?_
        rintro u ⟨r1, r2⟩
        refine v_incN4 c_86_37 rfl rfl ?_
        refine v_incN5 c_86_38 rfl rfl ?_
        refine v_goto c_86_39 ?_
        refine hk _ _ ⟨by rw [bS_t h1], fun X hX => ?_, g2.tr r2⟩
        rw [r1 X hX, RX_fin hX (selF_at h1 _ hi), bS_t h1]
    · rintro ls t ⟨rfl, g1, g2⟩
      have hMt : QM (t.1 89) M := by rw [g2.at (by omega)]; exact hM
      refine v_il5 c_86_21 ?_
      refine v_al0 c_86_22 ?_
      refine v_gR (n0 := 89) c_86_23 rfl ?_
      refine v_icN (n := 0) c_86_24 rfl ?_
      refine v_aI c_86_25 rfl (by omega) (hMt.1) ?_
      refine v_icmp_ge_T c_86_26 (by omega) (by omega) (by omega) ?_
      refine v_al0 c_86_40 ?_
      refine v_gR (n0 := 103) c_86_41 rfl ?_
      refine v_il2 c_86_42 ?_
      refine v_aI c_86_43 rfl (by omega) (g1 th hth) ?_
      refine v_ri c_86_44 ?_
      exact ⟨_, rfl, rfl, g2⟩
  · rw [show X = 0 by omega, sI_s]; rfl
theorem q_cdo (hM : QM (s.1 89) M) (hw : MW M) {S : Nat} (hS : S < 2 ^ mN M) (much : Bool) :
    CC sc 88 [.ref 88, .int (nI S), .int (bI much)] s (QI fun x t => x = bI (cdo M S much) ∧ FR 103 104 s t) := by
  refine cc_of ml_88 rfl rfl ?_
  have hS7 : S < 128 := Nat.lt_of_lt_of_le hS hw.p128
  have hSn := lt_tb hS
  have b0 : wyS M S S 0 < 2147483648 := FX_b
  have b1 : wyS M S S 1 < 2147483648 := FX_b
  have b2 : wyS M S S 2 < 2147483648 := FX_b
  cases much
  · refine v_il2 c_88_0 ?_
    refine v_if_eq_tb c_88_1 (rfl) ?_
    refine v_al0 c_88_12 ?_
    refine v_il1 c_88_13 ?_
    refine v_il1 c_88_14 ?_
    refine v_icN (n := 0) c_88_15 rfl ?_
    refine v_cVI c_88_16 rfl (by decide) rfl rfl (q_way hM hw hS7 hS7 hSn (how := 0) (by omega)) ?_
    rintro x t ⟨rfl, f1⟩
    have hMt : QM (t.1 89) M := by rw [f1.at (by omega)]; exact hM
    refine v_al0 c_88_17 ?_
    refine v_il1 c_88_18 ?_
    refine v_il1 c_88_19 ?_
    refine v_icN (n := 1) c_88_20 rfl ?_
    refine v_cVI c_88_21 rfl (by decide) rfl rfl (q_way hMt hw hS7 hS7 hSn (how := 1) (by omega)) ?_
    rintro x t2 ⟨rfl, f2⟩
    by_cases c : wyS M S S 1 < wyS M S S 0
    · refine v_icmp_le_F c_88_22 (c) (by omega) (by omega) ?_
      refine v_icN (n := 1) c_88_23 rfl ?_
      refine v_goto c_88_24 ?_
      refine v_rb (B := true) c_88_26 rfl ?_
      exact ⟨_, rfl, by unfold cdo; rw [if_neg (by decide), decide_eq_true c], f1.tr f2⟩
    · refine v_icmp_le_T c_88_22 ((by omega)) (by omega) (by omega) ?_
      refine v_icN (n := 0) c_88_25 rfl ?_
      refine v_rb (B := false) c_88_26 rfl ?_
      exact ⟨_, rfl, by unfold cdo; rw [if_neg (by decide), decide_eq_false c], f1.tr f2⟩
  · refine v_il2 c_88_0 ?_
    refine v_if_eq_fb c_88_1 (rfl) ?_
    refine v_al0 c_88_2 ?_
    refine v_il1 c_88_3 ?_
    refine v_il1 c_88_4 ?_
    refine v_icN (n := 2) c_88_5 rfl ?_
    refine v_cVI c_88_6 rfl (by decide) rfl rfl (q_way hM hw hS7 hS7 hSn (how := 2) (by omega)) ?_
    rintro x t ⟨rfl, f1⟩
    by_cases c : 0 < wyS M S S 2
    · refine v_if_le_F c_88_7 (c) (by omega) ?_
      refine v_icN (n := 1) c_88_8 rfl ?_
      refine v_goto c_88_9 ?_
      refine v_rb (B := true) c_88_26 rfl ?_
      exact ⟨_, rfl, by unfold cdo; rw [if_pos rfl, decide_eq_true c], f1⟩
    · refine v_if_le_T c_88_7 ((by omega)) (by omega) ?_
      refine v_icN (n := 0) c_88_10 rfl ?_
      refine v_goto c_88_11 ?_
      refine v_rb (B := false) c_88_26 rfl ?_
      exact ⟨_, rfl, by unfold cdo; rw [if_pos rfl, decide_eq_false c], f1⟩
theorem q_grs (hM : QM (s.1 89) M) (hw : MW M) (much : Bool) : CC sc 90 [.ref 88, .int (bI much)] s (QI fun x t => x = nI (mGr M much) ∧ FR 103 104 s t) := by
  refine cc_of ml_90 rfl rfl ?_
  have h7 := hw.1
  have hp := hw.p128
  have hp0 := Nat.two_pow_pos (mN M)
  refine v_icN (n := 0) c_90_0 rfl ?_
  refine v_is2 c_90_1 rfl ?_
  refine v_icN (n := 1) c_90_2 rfl ?_
  refine v_is3 c_90_3 rfl ?_
  refine vv_forS (2 ^ mN M - 1) (fun i ls t => ls = [some (.ref 88), some (.int (bI much)), some (.int (nI (cnt (fun k => cdo M (1 + k) much) i))), some (.int (nI (1 + i)))] ∧ FR 103 104 s t) ?_ ?_ _ _ ⟨rfl, FR.rf⟩
  · rintro i ls t hi ⟨rfl, g2⟩ hk
    have hMt : QM (t.1 89) M := by rw [g2.at (by omega)]; exact hM
    refine v_il3 c_90_4 ?_
    refine v_icN (n := 1) c_90_5 rfl ?_
    refine v_al0 c_90_6 ?_
    refine v_gR (n0 := 89) c_90_7 rfl ?_
    refine v_icN (n := 0) c_90_8 rfl ?_
    refine v_aI c_90_9 rfl (by omega) (hMt.1) ?_
    refine v_ishlN c_90_10 (by omega) ?_
    rw [Nat.one_mul]
    refine v_icmp_ge_F c_90_11 (by omega) (by omega) (by omega) ?_
    refine v_il2 c_90_12 ?_
    refine v_al0 c_90_13 ?_
    refine v_il3 c_90_14 ?_
    refine v_il1 c_90_15 ?_
    refine v_cVI c_90_16 rfl (by decide) rfl rfl (q_cdo hMt hw (S := 1 + i) (by omega) much) ?_
    rintro x t2 ⟨rfl, r2⟩
    cases c : cdo M (1 + i) much
    · refine v_if_eq_tb c_90_17 (rfl) ?_
      refine v_icN (n := 0) c_90_20 rfl ?_
      refine v_iaddN c_90_21 ?_
      refine v_is2 c_90_22 rfl ?_
      refine v_incN3 c_90_23 rfl rfl ?_
      refine v_goto c_90_24 ?_
      exact hk _ _ ⟨by rw [cnt_f c]; rfl, g2.tr r2⟩
    · refine v_if_eq_fb c_90_17 (rfl) ?_
      refine v_icN (n := 1) c_90_18 rfl ?_
      refine v_goto c_90_19 ?_
      refine v_iaddN c_90_21 ?_
      refine v_is2 c_90_22 rfl ?_
      refine v_incN3 c_90_23 rfl rfl ?_
      refine v_goto c_90_24 ?_
      exact hk _ _ ⟨by rw [cnt_t c]; rfl, g2.tr r2⟩
  · rintro ls t ⟨rfl, g2⟩
    have hMt : QM (t.1 89) M := by rw [g2.at (by omega)]; exact hM
    refine v_il3 c_90_4 ?_
    refine v_icN (n := 1) c_90_5 rfl ?_
    refine v_al0 c_90_6 ?_
    refine v_gR (n0 := 89) c_90_7 rfl ?_
    refine v_icN (n := 0) c_90_8 rfl ?_
    refine v_aI c_90_9 rfl (by omega) (hMt.1) ?_
    refine v_ishlN c_90_10 (by omega) ?_
    rw [Nat.one_mul]
    refine v_icmp_ge_T c_90_11 (by omega) (by omega) (by omega) ?_
    refine v_il2 c_90_25 ?_
    refine v_ri c_90_26 ?_
    exact ⟨_, rfl, rfl, g2⟩
theorem q_grp (hM : QM (s.1 89) M) (hw : MW M) (much : Bool) : CC sc 89 [.ref 88, .int (bI much)] s (QI fun x t => x = oI (bgF M much (2 ^ mN M - 1)) ∧ FR 103 104 (sI s 88 8 (nI 0)) t) := by
  refine cc_of ml_89 rfl rfl ?_
  have h7 := hw.1
  have hp := hw.p128
  have hp0 := Nat.two_pow_pos (mN M)
  refine v_al0 c_89_0 ?_
  refine v_icN (n := 0) c_89_1 rfl ?_
  refine v_pI c_89_2 rfl ?_
  refine v_bp c_89_3 ?_
  refine v_is2 c_89_4 rfl ?_
  refine v_icN (n := 1) c_89_5 rfl ?_
  refine v_is3 c_89_6 rfl ?_
  have hM : QM ((sI s 88 8 (nI 0)).1 89) M := by rw [sI_o (by omega)]; exact hM
  refine vv_forS (2 ^ mN M - 1) (fun i ls t => ls = [some (.ref 88), some (.int (bI much)), some (.int (oI (bgF M much i))), some (.int (nI (1 + i)))] ∧ FR 103 104 (sI s 88 8 (nI 0)) t) ?_ ?_ _ _ ⟨rfl, FR.rf⟩
  · rintro i ls t hi ⟨rfl, g2⟩ hk
    have hMt : QM (t.1 89) M := by rw [g2.at (by omega)]; exact hM
    have e : bgF M much (i + 1) = (match bgF M much i with
      | none => if cdo M (1 + i) much then some (1 + i) else none
      | some b => if decide (pc (1 + i) < pc b) && cdo M (1 + i) much then some (1 + i) else some b) := rfl
    have hpc := pc_le (1 + i)
    cases c : bgF M much i with
    | none =>
      rw [c] at e
      refine v_il3 c_89_7 ?_
      refine v_icN (n := 1) c_89_8 rfl ?_
      refine v_al0 c_89_9 ?_
      refine v_gR (n0 := 89) c_89_10 rfl ?_
      refine v_icN (n := 0) c_89_11 rfl ?_
      refine v_aI c_89_12 rfl (by omega) (hMt.1) ?_
      refine v_ishlN c_89_13 (by omega) ?_
      rw [Nat.one_mul]
      refine v_icmp_ge_F c_89_14 (by omega) (by omega) (by omega) ?_
      refine v_il2 c_89_15 ?_
      refine v_if_lt_t c_89_16 ((by decide)) ?_
      refine v_al0 c_89_22 ?_
      refine v_il3 c_89_23 ?_
      refine v_il1 c_89_24 ?_
      refine v_cVI c_89_25 rfl (by decide) rfl rfl (q_cdo hMt hw (S := 1 + i) (by omega) much) ?_
      rintro x t2 ⟨rfl, r2⟩
      cases d : cdo M (1 + i) much
      · rw [d] at e
        refine v_if_eq_tb c_89_26 (rfl) ?_
        refine v_il2 c_89_29 ?_
        refine v_is2 c_89_30 rfl ?_
        refine v_incN3 c_89_31 rfl rfl ?_
        refine v_goto c_89_32 ?_
        exact hk _ _ ⟨by rw [e]; rfl, g2.tr r2⟩
      · rw [d] at e
        refine v_if_eq_fb c_89_26 (rfl) ?_
        refine v_il3 c_89_27 ?_
        refine v_goto c_89_28 ?_
        refine v_is2 c_89_30 rfl ?_
        refine v_incN3 c_89_31 rfl rfl ?_
        refine v_goto c_89_32 ?_
        exact hk _ _ ⟨by rw [e]; rfl, g2.tr r2⟩
    | some b =>
      rw [c] at e
      dsimp only at e
      have hb := bgF_le i c
      have hpb := pc_le b
      by_cases q : pc (1 + i) < pc b
      · refine v_il3 c_89_7 ?_
        refine v_icN (n := 1) c_89_8 rfl ?_
        refine v_al0 c_89_9 ?_
        refine v_gR (n0 := 89) c_89_10 rfl ?_
        refine v_icN (n := 0) c_89_11 rfl ?_
        refine v_aI c_89_12 rfl (by omega) (hMt.1) ?_
        refine v_ishlN c_89_13 (by omega) ?_
        rw [Nat.one_mul]
        refine v_icmp_ge_F c_89_14 (by omega) (by omega) (by omega) ?_
        refine v_il2 c_89_15 ?_
        refine v_if_lt_F c_89_16 (by omega) ?_
        refine v_il3 c_89_17 ?_
        refine v_cSi c_89_18 rfl rfl rfl (q_ones (by omega)) ?_
        refine v_il2 c_89_19 ?_
        refine v_cSi c_89_20 rfl rfl rfl (q_ones (by omega)) ?_
        refine v_icmp_ge_F c_89_21 (by omega) (by omega) (by omega) ?_
        refine v_al0 c_89_22 ?_
        refine v_il3 c_89_23 ?_
        refine v_il1 c_89_24 ?_
        refine v_cVI c_89_25 rfl (by decide) rfl rfl (q_cdo hMt hw (S := 1 + i) (by omega) much) ?_
        rintro x t2 ⟨rfl, r2⟩
        cases d : cdo M (1 + i) much
        · rw [d, decide_eq_true q] at e
          refine v_if_eq_tb c_89_26 (rfl) ?_
          refine v_il2 c_89_29 ?_
          refine v_is2 c_89_30 rfl ?_
          refine v_incN3 c_89_31 rfl rfl ?_
          refine v_goto c_89_32 ?_
          exact hk _ _ ⟨by rw [e]; rfl, g2.tr r2⟩
        · rw [d, decide_eq_true q] at e
          refine v_if_eq_fb c_89_26 (rfl) ?_
          refine v_il3 c_89_27 ?_
          refine v_goto c_89_28 ?_
          refine v_is2 c_89_30 rfl ?_
          refine v_incN3 c_89_31 rfl rfl ?_
          refine v_goto c_89_32 ?_
          exact hk _ _ ⟨by rw [e]; rfl, g2.tr r2⟩
      · rw [decide_eq_false q] at e
        refine v_il3 c_89_7 ?_
        refine v_icN (n := 1) c_89_8 rfl ?_
        refine v_al0 c_89_9 ?_
        refine v_gR (n0 := 89) c_89_10 rfl ?_
        refine v_icN (n := 0) c_89_11 rfl ?_
        refine v_aI c_89_12 rfl (by omega) (hMt.1) ?_
        refine v_ishlN c_89_13 (by omega) ?_
        rw [Nat.one_mul]
        refine v_icmp_ge_F c_89_14 (by omega) (by omega) (by omega) ?_
        refine v_il2 c_89_15 ?_
        refine v_if_lt_F c_89_16 (by omega) ?_
        refine v_il3 c_89_17 ?_
        refine v_cSi c_89_18 rfl rfl rfl (q_ones (by omega)) ?_
        refine v_il2 c_89_19 ?_
        refine v_cSi c_89_20 rfl rfl rfl (q_ones (by omega)) ?_
        refine v_icmp_ge_T c_89_21 (by omega) (by omega) (by omega) ?_
        refine v_il2 c_89_29 ?_
        refine v_is2 c_89_30 rfl ?_
        refine v_incN3 c_89_31 rfl rfl ?_
        refine v_goto c_89_32 ?_
        exact hk _ _ ⟨by rw [e]; rfl, g2⟩
  · rintro ls t ⟨rfl, g2⟩
    have hMt : QM (t.1 89) M := by rw [g2.at (by omega)]; exact hM
    refine v_il3 c_89_7 ?_
    refine v_icN (n := 1) c_89_8 rfl ?_
    refine v_al0 c_89_9 ?_
    refine v_gR (n0 := 89) c_89_10 rfl ?_
    refine v_icN (n := 0) c_89_11 rfl ?_
    refine v_aI c_89_12 rfl (by omega) (hMt.1) ?_
    refine v_ishlN c_89_13 (by omega) ?_
    rw [Nat.one_mul]
    refine v_icmp_ge_T c_89_14 (by omega) (by omega) (by omega) ?_
    refine v_il2 c_89_33 ?_
    refine v_ri c_89_34 ?_
    exact ⟨_, rfl, rfl, g2⟩
theorem q_gms (hM : QM (s.1 89) M) (hw : MW M) (much : Bool) : CC sc 91 [.ref 88, .int (bI much)] s (QI fun x t => x = nI (mGr M much) ∧ FR 103 104 (sI s 88 8 (nI 0)) t) := by
  refine cc_of ml_91 rfl rfl ?_
  have hM : QM ((sI s 88 8 (nI 0)).1 89) M := by rw [sI_o (by omega)]; exact hM
  refine v_al0 c_91_0 ?_
  refine v_icN (n := 0) c_91_1 rfl ?_
  refine v_pI c_91_2 rfl ?_
  refine v_al0 c_91_3 ?_
  refine v_il1 c_91_4 ?_
  refine v_cVI c_91_5 rfl (by decide) rfl rfl (q_grs hM hw much) ?_
  rintro x t ⟨rfl, f⟩
  refine v_ri c_91_6 ?_
  exact ⟨_, rfl, rfl, f⟩
theorem q_prs (hM : QM (s.1 89) M) (hw : MW M) : RI sc 92 [.ref 88] s (nI (mP M)) s := by
  refine cc_of ml_92 rfl rfl ?_
  have h7 := hw.1
  have hp0 := Nat.two_pow_pos (mN M)
  refine v_icN (n := 1) c_92_0 rfl ?_
  refine v_al0 c_92_1 ?_
  refine v_gR (n0 := 89) c_92_2 rfl ?_
  refine v_icN (n := 0) c_92_3 rfl ?_
  refine v_aI c_92_4 rfl (by omega) (hM.1) ?_
  refine v_ishlN c_92_5 (by omega) ?_
  refine v_icN (n := 1) c_92_6 rfl ?_
  rw [Nat.one_mul]
  refine v_isubN c_92_7 (by omega) ?_
  refine v_al0 c_92_8 ?_
  refine v_gR (n0 := 89) c_92_9 rfl ?_
  refine v_icN (n := 1) c_92_10 rfl ?_
  refine v_aI c_92_11 rfl (by omega) (hM.2.1) ?_
  refine v_ic c_92_12 ?_
  refine v_ixor c_92_13 ?_
  refine v_iand c_92_14 ?_
  rw [nI_not]
  exact v_ri c_92_15 ⟨_, rfl, rfl, rfl⟩
theorem q_hth (hM : QM (s.1 89) M) (hw : MW M) : RI sc 93 [.ref 88] s (nI (mTh M (mP M))) s := by
  refine cc_of ml_93 rfl rfl ?_
  have h7 := hw.1
  refine v_icN (n := 0) c_93_0 rfl ?_
  refine v_is1 c_93_1 rfl ?_
  refine v_icN (n := 0) c_93_2 rfl ?_
  refine v_is2 c_93_3 rfl ?_
  refine vv_for (mN M) (fun i => [some (.ref 88), some (.int (nI (orS (fun i => if (mP M).testBit i then 2 ^ mH M i else 0) i))), some (.int (nI i))]) ?_ ?_
  · intro i hi hk
    have hp := mP_tb M i
    rw [decide_eq_true hi, Bool.true_and] at hp
    have hb := hw.2.2.2.1 i hi
    rw [orS_s, hp] at hk
    cases h1 : (mL M).testBit i
    · rw [h1] at hk
      refine v_il2 c_93_4 ?_
      refine v_al0 c_93_5 ?_
      refine v_gR (n0 := 89) c_93_6 rfl ?_
      refine v_icN (n := 0) c_93_7 rfl ?_
      refine v_aI c_93_8 rfl (by omega) (hM.1) ?_
      refine v_icmp_ge_F c_93_9 (by omega) (by omega) (by omega) ?_
      refine v_il1 c_93_10 ?_
      refine v_al0 c_93_11 ?_
      refine v_il2 c_93_12 ?_
      refine v_cVi c_93_13 rfl (by decide) rfl rfl (q_isP hM hw (by omega)) ?_
      refine v_if_eq_fb c_93_14 (by rw [h1]; rfl) ?_
      refine v_icN (n := 1) c_93_15 rfl ?_
      refine v_al0 c_93_16 ?_
      refine v_il2 c_93_17 ?_
      refine v_cVi c_93_18 rfl (by decide) rfl rfl (q_hd hM h7 hi) ?_
      refine v_ishlN c_93_19 (by omega) ?_
      refine v_goto c_93_20 ?_
      rw [Nat.one_mul]
      refine v_iorN c_93_22 ?_
      refine v_is1 c_93_23 rfl ?_
      refine v_incN2 c_93_24 rfl rfl ?_
      refine v_goto c_93_25 ?_
      exact hk
    · rw [h1] at hk
      refine v_il2 c_93_4 ?_
      refine v_al0 c_93_5 ?_
      refine v_gR (n0 := 89) c_93_6 rfl ?_
      refine v_icN (n := 0) c_93_7 rfl ?_
      refine v_aI c_93_8 rfl (by omega) (hM.1) ?_
      refine v_icmp_ge_F c_93_9 (by omega) (by omega) (by omega) ?_
      refine v_il1 c_93_10 ?_
      refine v_al0 c_93_11 ?_
      refine v_il2 c_93_12 ?_
      refine v_cVi c_93_13 rfl (by decide) rfl rfl (q_isP hM hw (by omega)) ?_
      refine v_if_eq_tb c_93_14 (by rw [h1]; rfl) ?_
      refine v_icN (n := 0) c_93_21 rfl ?_
      refine v_iorN c_93_22 ?_
      refine v_is1 c_93_23 rfl ?_
      refine v_incN2 c_93_24 rfl rfl ?_
      refine v_goto c_93_25 ?_
      exact hk
  · refine v_il2 c_93_4 ?_
    refine v_al0 c_93_5 ?_
    refine v_gR (n0 := 89) c_93_6 rfl ?_
    refine v_icN (n := 0) c_93_7 rfl ?_
    refine v_aI c_93_8 rfl (by omega) (hM.1) ?_
    refine v_icmp_ge_T c_93_9 (by omega) (by omega) (by omega) ?_
    refine v_il1 c_93_26 ?_
    exact v_ri c_93_27 ⟨_, rfl, rfl, rfl⟩
theorem q_bet (hM : QM (s.1 89) M) (hw : MW M) : CC sc 97 [.ref 88] s (QI fun x t => x = mBw M ∧ FR 103 104 (sI s 88 8 (nI 0)) t) := by
  refine cc_of ml_97 rfl rfl ?_
  have hP7 := mP_128 hw
  have hT7 := mTh_128 hw (mP M)
  have hM : QM ((sI s 88 8 (nI 0)).1 89) M := by rw [sI_o (by omega)]; exact hM
  refine v_al0 c_97_0 ?_
  refine v_icN (n := 0) c_97_1 rfl ?_
  refine v_pI c_97_2 rfl ?_
  refine v_al0 c_97_3 ?_
  refine v_cVi c_97_4 rfl (by decide) rfl rfl (q_prs hM hw) ?_
  refine v_is1 c_97_5 rfl ?_
  refine v_al0 c_97_6 ?_
  refine v_il1 c_97_7 ?_
  refine v_al0 c_97_8 ?_
  refine v_cVi c_97_9 rfl (by decide) rfl rfl (q_hth hM hw) ?_
  refine v_icN (n := 0) c_97_10 rfl ?_
  refine v_cVI c_97_11 rfl (by decide) rfl rfl (q_way hM hw hP7 hT7 (mT_lt hw) (how := 0) (by omega)) ?_
  rintro x t ⟨rfl, f1⟩
  have hMt : QM (t.1 89) M := by rw [f1.at (by omega)]; exact hM
  refine v_al0 c_97_12 ?_
  refine v_il1 c_97_13 ?_
  refine v_al0 c_97_14 ?_
  refine v_cVi c_97_15 rfl (by decide) rfl rfl (q_hth hMt hw) ?_
  refine v_icN (n := 1) c_97_16 rfl ?_
  refine v_cVI c_97_17 rfl (by decide) rfl rfl (q_way hMt hw hP7 hT7 (mT_lt hw) (how := 1) (by omega)) ?_
  rintro x t2 ⟨rfl, f2⟩
  refine v_isub c_97_18 ?_
  refine v_ri c_97_19 ?_
  exact ⟨_, rfl, rfl, f1.tr f2⟩
end SM
