/-! COMMANDS OF A SCRIPT: what they do; the class's -/
def cmA (M : zM) (d1 d2 d3 d4 : Nat) : Option zM :=
  if d1 = 1 then (if d4 = 0 ∧ d2 < mN M ∧ d3 < mN M ∧ mAg M d2 d3 = 0 then some (mSw M d2 d3) else none)
  else if d1 = 2 then (if d3 = 0 ∧ d4 = 0 ∧ d2 < mRn M then some (mTk M (rSet M d2) (gT M (mP M))) else none)
  else if d1 = 3 then (if d2 = 0 ∧ d3 = 0 ∧ d4 = 0 then some (mTk M (mP M) (gT M (mP M))) else none)
  else if d1 = 4 then (if d3 = 0 ∧ d4 = 0 ∧ d2 < mN M ∧ (mL M).testBit d2 = false then some (mLv M d2) else none)
  else if d1 = 5 then (if d2 < mN M ∧ d3 < mN M then some (mRk M d2 d3 d4) else none)
  else if d1 = 6 then (if d2 = 0 ∧ d3 = 0 ∧ d4 = 0 then some (mHo M) else none)
  else if d1 = 7 then (if d4 = 0 ∧ d2 < mN M ∧ d3 < mN M ∧ mH M d2 = d3 then some M else none)
  else if d1 = 8 then (if d2 = 0 ∧ mSum M ≤ d3 * 10 + d4 then some M else none)
  else if d1 = 9 then (if d2 = 0 ∧ d3 ≤ 1 ∧ mGr M (decide (d3 = 1)) ≤ d4 then some M else none)
  else none
def cmd (M : zM) (c : Nat) : Option zM := cmA M (c / 1000) (c / 100 % 10) (c / 10 % 10) (c % 10)
theorem MW.sw' {M : zM} (hw : MW M) {i j : Nat} (hi : i < mN M) (hj : j < mN M) : MW (mSw M i j) := hw.sw hi hj
theorem cmA_w {M N : zM} (hw : MW M) {d1 d2 d3 d4 : Nat} (h4 : d4 < 10) (h : cmA M d1 d2 d3 d4 = some N) : MW N := by
  unfold cmA at h
  split at h
  · split at h
    · cases h
      exact hw.sw (by omega) (by omega)
    · cases h
  split at h
  · split at h
    · next hc => cases h; exact hw.tkR hc.2.2
    · cases h
  split at h
  · split at h
    · cases h; exact hw.tkP
    · cases h
  split at h
  · split at h
    · next hc => cases h; exact hw.lv hc.2.2.1
    · cases h
  split at h
  · split at h
    · cases h; exact hw.rk (by omega)
    · cases h
  split at h
  · split at h
    · cases h; exact hw.ho
    · cases h
  split at h
  · split at h
    · cases h; exact hw
    · cases h
  split at h
  · split at h
    · cases h; exact hw
    · cases h
  split at h
  · split at h
    · cases h; exact hw
    · cases h
  · cases h
theorem cmd_w {M N : zM} (hw : MW M) {c : Nat} (h : cmd M c = some N) : MW N := cmA_w hw (Nat.mod_lt _ (by omega)) h
theorem mSum_b {M : zM} (hw : MW M) : mSum M ≤ 63 := by
  have h : ∀ n, n ≤ mN M → smm (fun i => mR M i (mH M i)) n ≤ 9 * n := by
    intro n
    induction n with
    | zero => intro _; exact Nat.le_refl _
    | succ n ih =>
      intro hn
      have h1 := ih (by omega)
      have h2 := hw.2.2.1 n _ hn (hw.2.2.2.1 n hn)
      rw [smm_s]
      show smm (fun i => mR M i (mH M i)) n + mR M n (mH M n) ≤ _
      omega
  have h1 := h (mN M) (Nat.le_refl _)
  have h7 := hw.1
  have e : mSum M = smm (fun i => mR M i (mH M i)) (mN M) := rfl
  omega
theorem mGr_b {M : zM} (hw : MW M) (much : Bool) : mGr M much ≤ 127 := by
  have h1 := cnt_le (fun k => cdo M (1 + k) much) (2 ^ mN M - 1)
  have h2 := hw.p128
  have e : mGr M much = cnt (fun k => cdo M (1 + k) much) (2 ^ mN M - 1) := rfl
  omega
theorem m52 : isM 58 = true := rfl
theorem m3 : isM 3 = true := rfl
theorem t55 : isT 61 = true := rfl
theorem t63 : isT 69 = true := rfl
theorem hasD {n i : Nat} (h7 : n ≤ 7) (hi : i < 2147483648) : (decide (0 ≤ nI i) && decide (nI i < nI n)) = decide (i < n) := by
  have h1 : (0 : Int32) ≤ nI i := nI_pos' hi
  rw [decide_eq_true h1, Bool.true_and]
  exact decide_eq_decide.mpr (nI_ltI hi (by omega))
abbrev CR (s : zv_S) (r : Option zM) (x : Int32) (t : zv_S) : Prop := match r with
  | some N => x = bI true ∧ MK t 58 N ∧ FR 58 83 s t
  | none => x = bI false ∧ FR 58 83 s t
section CK
variable {sc : Nat × (Nat → Int32)} {s : zv_S} {M : zM}
theorem k_hasN {o : Nat} (ho : isM o = true) (hM : MK s o M) (hw : MW M) {i : Nat} (hi : i < 2147483648) : RI sc 116 [.ref o, .int (nI i)] s (bI (decide (i < mN M))) s := by
  have h := k_has (sc := sc) ho hM.1 hw.1 (nI i)
  rw [hasD hw.1 hi] at h
  exact h
theorem l_xch (hM : MK s 58 M) (hw : MW M) {i j : Nat} (hi : i < 10) (hj : j < 10) : CC sc 140 [.ref 58, .int (nI i), .int (nI j)] s (QI fun x t => CR s (if i < mN M ∧ j < mN M ∧ mAg M i j = 0 then some (mSw M i j) else none) x t) := by
  refine cc_of ml_140 rfl rfl ?_
  have h7 := hw.1
  by_cases h1 : i < mN M
  · by_cases h2 : j < mN M
    · by_cases h3 : mAg M i j = 0
      · rw [if_pos ⟨h1, h2, h3⟩]
        refine v_al0 c_140_0 ?_
        refine v_il1 c_140_1 ?_
        refine v_cVi c_140_2 rfl (by decide) rfl rfl (k_hasN m52 hM hw (by omega)) ?_
        refine v_if_eq_fb c_140_3 (decide_eq_true h1) ?_
        refine v_al0 c_140_4 ?_
        refine v_il2 c_140_5 ?_
        refine v_cVi c_140_6 rfl (by decide) rfl rfl (k_hasN m52 hM hw (by omega)) ?_
        refine v_if_eq_fb c_140_7 (decide_eq_true h2) ?_
        refine v_al0 c_140_8 ?_
        refine v_il1 c_140_9 ?_
        refine v_il2 c_140_10 ?_
        refine v_cVi c_140_11 rfl (by decide) rfl rfl (k_rsn m52 hM hw h1 h2) ?_
        refine v_if_eq_T c_140_12 (h3) (by omega) ?_
        refine v_al0 c_140_15 ?_
        refine v_il1 c_140_16 ?_
        refine v_il2 c_140_17 ?_
        refine v_cVv c_140_18 rfl (by decide) rfl rfl (k_swp m52 (by omega) (by omega)) ?_
        refine v_icN (n := 1) c_140_19 rfl ?_
        refine v_rb (B := true) c_140_20 rfl ?_
        exact ⟨_, rfl, rfl, MK.sw hM h1 h2, (FR.sI (by omega) (by omega)).tr (FR.sI (by omega) (by omega))⟩
      · rw [if_neg (fun h => h3 h.2.2)]
        have hb : mAg M i j < 2147483648 := by unfold mAg; (repeat' split) <;> omega
        refine v_al0 c_140_0 ?_
        refine v_il1 c_140_1 ?_
        refine v_cVi c_140_2 rfl (by decide) rfl rfl (k_hasN m52 hM hw (by omega)) ?_
        refine v_if_eq_fb c_140_3 (decide_eq_true h1) ?_
        refine v_al0 c_140_4 ?_
        refine v_il2 c_140_5 ?_
        refine v_cVi c_140_6 rfl (by decide) rfl rfl (k_hasN m52 hM hw (by omega)) ?_
        refine v_if_eq_fb c_140_7 (decide_eq_true h2) ?_
        refine v_al0 c_140_8 ?_
        refine v_il1 c_140_9 ?_
        refine v_il2 c_140_10 ?_
        refine v_cVi c_140_11 rfl (by decide) rfl rfl (k_rsn m52 hM hw h1 h2) ?_
        refine v_if_eq_F c_140_12 (h3) (by omega) ?_
        refine v_icN (n := 0) c_140_13 rfl ?_
        refine v_rb (B := false) c_140_14 rfl ?_
        exact ⟨_, rfl, rfl, FR.rf⟩
    · rw [if_neg (fun h => h2 h.2.1)]
      refine v_al0 c_140_0 ?_
      refine v_il1 c_140_1 ?_
      refine v_cVi c_140_2 rfl (by decide) rfl rfl (k_hasN m52 hM hw (by omega)) ?_
      refine v_if_eq_fb c_140_3 (decide_eq_true h1) ?_
      refine v_al0 c_140_4 ?_
      refine v_il2 c_140_5 ?_
      refine v_cVi c_140_6 rfl (by decide) rfl rfl (k_hasN m52 hM hw (by omega)) ?_
      refine v_if_eq_tb c_140_7 (decide_eq_false h2) ?_
      refine v_icN (n := 0) c_140_13 rfl ?_
      refine v_rb (B := false) c_140_14 rfl ?_
      exact ⟨_, rfl, rfl, FR.rf⟩
  · rw [if_neg (fun h => h1 h.1)]
    refine v_al0 c_140_0 ?_
    refine v_il1 c_140_1 ?_
    refine v_cVi c_140_2 rfl (by decide) rfl rfl (k_hasN m52 hM hw (by omega)) ?_
    refine v_if_eq_tb c_140_3 (decide_eq_false h1) ?_
    refine v_icN (n := 0) c_140_13 rfl ?_
    refine v_rb (B := false) c_140_14 rfl ?_
    exact ⟨_, rfl, rfl, FR.rf⟩
theorem l_rng (hM : MK s 58 M) (hw : MW M) {k : Nat} (hk : k < 10) : CC sc 141 [.ref 58, .ref 61, .int (nI k)] s (QI fun x t => CR s (if k < mRn M then some (mTk M (rSet M k) (gT M (mP M))) else none) x t) := by
  refine cc_of ml_141 rfl rfl ?_
  have h7 := mRn_7 hw
  refine v_al1 c_141_0 ?_
  refine v_al0 c_141_1 ?_
  refine v_al0 c_141_2 ?_
  refine v_cVi c_141_3 rfl (by decide) rfl rfl (k_pre m52 hM hw) ?_
  refine v_cVV c_141_4 rfl (by decide) rfl rfl (c_fnd m52 t55 hM hw mP_n) ?_
  rintro t ⟨T, F⟩
  have hM' : MK t 58 M := hM.fr F (by omega)
  have hh : RI sc 176 [.ref 61, .int (nI k)] t (bI (decide (k < mRn M))) t := by
    have h := c_has (sc := sc) t55 T h7 (nI k)
    have e := hasD (i := k) h7 (by omega)
    rw [show tRi (tF (mN M) (mR M) (mH M) (mP M)) = mRn M from rfl, e] at h
    exact h
  by_cases h : k < mRn M
  · rw [if_pos h]
    obtain ⟨r1, r2, r3, r4⟩ := rSet_ok hw h
    have hg : ∀ i, i < mN M → (rSet M k).testBit i = true → t.1 (61 + 1) i = nI (gT M (mP M) i) ∧ gT M (mP M) i < 7 := fun i hi hb => by
      obtain ⟨g1, g2⟩ := gT_ok hw mP_n (r2 i hb)
      exact ⟨(T.2.2.1 i hi).1.trans g1, by have := hw.1; omega⟩
    refine v_al1 c_141_5 ?_
    refine v_il2 c_141_6 ?_
    refine v_cVi c_141_7 rfl (by decide) rfl rfl (hh) ?_
    refine v_if_ne_tb c_141_8 (decide_eq_true h) ?_
    refine v_al0 c_141_11 ?_
    refine v_al1 c_141_12 ?_
    refine v_al1 c_141_13 ?_
    refine v_gR (n0 := 66) c_141_14 rfl ?_
    refine v_il2 c_141_15 ?_
    refine v_at c_141_16 rfl (by omega) ((T.2.2.2 k h).1.trans r1) rfl ?_
    refine v_cVI c_141_17 rfl (by decide) rfl rfl (k_tak m52 t55 hM' hw (by omega) hg) ?_
    rintro x u ⟨-, hMu, Fu⟩
    refine v_pop c_141_18 ?_
    refine v_icN (n := 1) c_141_19 rfl ?_
    refine v_rb (B := true) c_141_20 rfl ?_
    exact ⟨_, rfl, rfl, hMu, (F.up (by omega) (by omega)).tr (Fu.up (by omega) (by omega))⟩
  · rw [if_neg h]
    refine v_al1 c_141_5 ?_
    refine v_il2 c_141_6 ?_
    refine v_cVi c_141_7 rfl (by decide) rfl rfl (hh) ?_
    refine v_if_ne_fb c_141_8 (decide_eq_false h) ?_
    refine v_icN (n := 0) c_141_9 rfl ?_
    refine v_rb (B := false) c_141_10 rfl ?_
    exact ⟨_, rfl, rfl, F.up (by omega) (by omega)⟩
theorem l_trd (hM : MK s 58 M) (hw : MW M) : CC sc 142 [.ref 58, .ref 61] s (QI fun x t => CR s (some (mTk M (mP M) (gT M (mP M)))) x t) := by
  refine cc_of ml_142 rfl rfl ?_
  refine v_al1 c_142_0 ?_
  refine v_al0 c_142_1 ?_
  refine v_al0 c_142_2 ?_
  refine v_cVi c_142_3 rfl (by decide) rfl rfl (k_pre m52 hM hw) ?_
  refine v_cVV c_142_4 rfl (by decide) rfl rfl (c_fnd m52 t55 hM hw mP_n) ?_
  rintro t ⟨T, F⟩
  have hM' : MK t 58 M := hM.fr F (by omega)
  have hP := mP_128 hw
  have hg : ∀ i, i < mN M → (mP M).testBit i = true → t.1 (61 + 1) i = nI (gT M (mP M) i) ∧ gT M (mP M) i < 7 := fun i hi hb => by
    obtain ⟨g1, g2⟩ := gT_ok hw mP_n hb
    exact ⟨(T.2.2.1 i hi).1.trans g1, by have := hw.1; omega⟩
  refine v_al0 c_142_5 ?_
  refine v_al1 c_142_6 ?_
  refine v_al0 c_142_7 ?_
  refine v_cVi c_142_8 rfl (by decide) rfl rfl (k_pre m52 hM' hw) ?_
  refine v_cVI c_142_9 rfl (by decide) rfl rfl (k_tak m52 t55 hM' hw (by omega) hg) ?_
  rintro x u ⟨-, hMu, Fu⟩
  refine v_pop c_142_10 ?_
  refine v_icN (n := 1) c_142_11 rfl ?_
  refine v_rb (B := true) c_142_12 rfl ?_
  exact ⟨_, rfl, rfl, hMu, (F.up (by omega) (by omega)).tr (Fu.up (by omega) (by omega))⟩
theorem l_lea (hM : MK s 58 M) (hw : MW M) {i : Nat} (hi : i < 10) : CC sc 143 [.ref 58, .int (nI i)] s (QI fun x t => CR s (if i < mN M ∧ (mL M).testBit i = false then some (mLv M i) else none) x t) := by
  refine cc_of ml_143 rfl rfl ?_
  have h7 := hw.1
  by_cases h1 : i < mN M
  · cases h2 : (mL M).testBit i
    · rw [if_pos ⟨h1, rfl⟩]
      refine v_al0 c_143_0 ?_
      refine v_il1 c_143_1 ?_
      refine v_cVi c_143_2 rfl (by decide) rfl rfl (k_hasN m52 hM hw (by omega)) ?_
      refine v_if_eq_fb c_143_3 (decide_eq_true h1) ?_
      refine v_al0 c_143_4 ?_
      refine v_il1 c_143_5 ?_
      refine v_cVi c_143_6 rfl (by decide) rfl rfl (k_isP m52 hM hw (by omega)) ?_
      refine v_if_ne_tb c_143_7 (by rw [h2]; rfl) ?_
      refine v_al0 c_143_10 ?_
      refine v_il1 c_143_11 ?_
      refine v_cVv c_143_12 rfl (by decide) rfl rfl (k_snd m52 hM hw (by omega)) ?_
      refine v_icN (n := 1) c_143_13 rfl ?_
      refine v_rb (B := true) c_143_14 rfl ?_
      exact ⟨_, rfl, rfl, MK.snd hM, FR.sI (by omega) (by omega)⟩
    · rw [if_neg (fun h => by cases h.2)]
      refine v_al0 c_143_0 ?_
      refine v_il1 c_143_1 ?_
      refine v_cVi c_143_2 rfl (by decide) rfl rfl (k_hasN m52 hM hw (by omega)) ?_
      refine v_if_eq_fb c_143_3 (decide_eq_true h1) ?_
      refine v_al0 c_143_4 ?_
      refine v_il1 c_143_5 ?_
      refine v_cVi c_143_6 rfl (by decide) rfl rfl (k_isP m52 hM hw (by omega)) ?_
      refine v_if_ne_fb c_143_7 (by rw [h2]; rfl) ?_
      refine v_icN (n := 0) c_143_8 rfl ?_
      refine v_rb (B := false) c_143_9 rfl ?_
      exact ⟨_, rfl, rfl, FR.rf⟩
  · rw [if_neg (fun h => h1 h.1)]
    refine v_al0 c_143_0 ?_
    refine v_il1 c_143_1 ?_
    refine v_cVi c_143_2 rfl (by decide) rfl rfl (k_hasN m52 hM hw (by omega)) ?_
    refine v_if_eq_tb c_143_3 (decide_eq_false h1) ?_
    refine v_icN (n := 0) c_143_8 rfl ?_
    refine v_rb (B := false) c_143_9 rfl ?_
    exact ⟨_, rfl, rfl, FR.rf⟩
theorem l_rnk (hM : MK s 58 M) (hw : MW M) {i j r : Nat} (hi : i < 10) (hj : j < 10) : CC sc 144 [.ref 58, .int (nI i), .int (nI j), .int (nI r)] s (QI fun x t => CR s (if i < mN M ∧ j < mN M then some (mRk M i j r) else none) x t) := by
  refine cc_of ml_144 rfl rfl ?_
  have h7 := hw.1
  by_cases h1 : i < mN M
  · by_cases h2 : j < mN M
    · rw [if_pos ⟨h1, h2⟩]
      refine v_al0 c_144_0 ?_
      refine v_il1 c_144_1 ?_
      refine v_cVi c_144_2 rfl (by decide) rfl rfl (k_hasN m52 hM hw (by omega)) ?_
      refine v_if_eq_fb c_144_3 (decide_eq_true h1) ?_
      refine v_al0 c_144_4 ?_
      refine v_il2 c_144_5 ?_
      refine v_cVi c_144_6 rfl (by decide) rfl rfl (k_hasN m52 hM hw (by omega)) ?_
      refine v_if_ne_tb c_144_7 (decide_eq_true h2) ?_
      refine v_al0 c_144_10 ?_
      refine v_il1 c_144_11 ?_
      refine v_il2 c_144_12 ?_
      refine v_il3 c_144_13 ?_
      refine v_cVv c_144_14 rfl (by decide) rfl rfl (k_put m52 (by omega) (by omega)) ?_
      refine v_icN (n := 1) c_144_15 rfl ?_
      refine v_rb (B := true) c_144_16 rfl ?_
      exact ⟨_, rfl, rfl, MK.put hM hw h1 h2, FR.sI (by omega) (by omega)⟩
    · rw [if_neg (fun h => h2 h.2)]
      refine v_al0 c_144_0 ?_
      refine v_il1 c_144_1 ?_
      refine v_cVi c_144_2 rfl (by decide) rfl rfl (k_hasN m52 hM hw (by omega)) ?_
      refine v_if_eq_fb c_144_3 (decide_eq_true h1) ?_
      refine v_al0 c_144_4 ?_
      refine v_il2 c_144_5 ?_
      refine v_cVi c_144_6 rfl (by decide) rfl rfl (k_hasN m52 hM hw (by omega)) ?_
      refine v_if_ne_fb c_144_7 (decide_eq_false h2) ?_
      refine v_icN (n := 0) c_144_8 rfl ?_
      refine v_rb (B := false) c_144_9 rfl ?_
      exact ⟨_, rfl, rfl, FR.rf⟩
  · rw [if_neg (fun h => h1 h.1)]
    refine v_al0 c_144_0 ?_
    refine v_il1 c_144_1 ?_
    refine v_cVi c_144_2 rfl (by decide) rfl rfl (k_hasN m52 hM hw (by omega)) ?_
    refine v_if_eq_tb c_144_3 (decide_eq_false h1) ?_
    refine v_icN (n := 0) c_144_8 rfl ?_
    refine v_rb (B := false) c_144_9 rfl ?_
    exact ⟨_, rfl, rfl, FR.rf⟩
theorem l_hom (hM : MK s 58 M) (hw : MW M) : CC sc 145 [.ref 58] s (QI fun x t => CR s (some (mHo M)) x t) := by
  refine cc_of ml_145 rfl rfl ?_
  refine v_al0 c_145_0 ?_
  refine v_cVI c_145_1 rfl (by decide) rfl rfl (k_hom m52 hM hw) ?_
  rintro x t ⟨-, h1, h2⟩
  refine v_pop c_145_2 ?_
  refine v_icN (n := 1) c_145_3 rfl ?_
  refine v_rb (B := true) c_145_4 rfl ?_
  exact ⟨_, rfl, rfl, h1, h2.up (by omega) (by omega)⟩
/-- a command that is done -/
theorem CR.ok {r : Option zM} {x : Int32} {t : zv_S} {N : zM} (h : CR s r x t) (e : r = some N) : x = bI true ∧ MK t 58 N ∧ FR 58 83 s t := by subst e; exact h
theorem CR.no {r : Option zM} {x : Int32} {t : zv_S} (h : CR s r x t) (e : r = none) : x = bI false ∧ FR 58 83 s t := by subst e; exact h
end CK
section CK2
variable {sc : Nat × (Nat → Int32)} {s : zv_S} {M : zM} {d2 d3 d4 : Nat}
theorem cmA_0 : cmA M 0 d2 d3 d4 = none := rfl
theorem cmA_1 : cmA M 1 d2 d3 d4 = if d4 = 0 ∧ d2 < mN M ∧ d3 < mN M ∧ mAg M d2 d3 = 0 then some (mSw M d2 d3) else none := rfl
theorem cmA_2 : cmA M 2 d2 d3 d4 = if d3 = 0 ∧ d4 = 0 ∧ d2 < mRn M then some (mTk M (rSet M d2) (gT M (mP M))) else none := rfl
theorem cmA_3 : cmA M 3 d2 d3 d4 = if d2 = 0 ∧ d3 = 0 ∧ d4 = 0 then some (mTk M (mP M) (gT M (mP M))) else none := rfl
theorem cmA_4 : cmA M 4 d2 d3 d4 = if d3 = 0 ∧ d4 = 0 ∧ d2 < mN M ∧ (mL M).testBit d2 = false then some (mLv M d2) else none := rfl
theorem cmA_5 : cmA M 5 d2 d3 d4 = if d2 < mN M ∧ d3 < mN M then some (mRk M d2 d3 d4) else none := rfl
theorem cmA_6 : cmA M 6 d2 d3 d4 = if d2 = 0 ∧ d3 = 0 ∧ d4 = 0 then some (mHo M) else none := rfl
theorem cmA_7 : cmA M 7 d2 d3 d4 = if d4 = 0 ∧ d2 < mN M ∧ d3 < mN M ∧ mH M d2 = d3 then some M else none := rfl
theorem cmA_8 : cmA M 8 d2 d3 d4 = if d2 = 0 ∧ mSum M ≤ d3 * 10 + d4 then some M else none := rfl
theorem cmA_9 : cmA M 9 d2 d3 d4 = if d2 = 0 ∧ d3 ≤ 1 ∧ mGr M (decide (d3 = 1)) ≤ d4 then some M else none := rfl
theorem l_suc0 (hM : MK s 58 M) (hw : MW M) {k c d1 : Nat} (h1 : d1 < 10) (h2 : d2 < 10) (h3 : d3 < 10) (h4 : d4 < 10) :
    VV sc 139 32 [some (.ref 86), some (.int (nI k)), some (.ref 58), some (.ref 61), some (.ref 77), some (.int (nI c)), some (.int (nI d2)), some (.int (nI d3)), some (.int (nI d4))] [.int (nI d1)] s (QI fun x t => CR s (cmA M d1 d2 d3 d4) x t) := by
  have h7 := hw.1
  rcases (show d1 = 0 ∨ d1 = 1 ∨ d1 = 2 ∨ d1 = 3 ∨ d1 = 4 ∨ d1 = 5 ∨ d1 = 6 ∨ d1 = 7 ∨ d1 = 8 ∨ d1 = 9 by omega) with rfl | rfl | rfl | rfl | rfl | rfl | rfl | rfl | rfl | rfl
  · rw [cmA_0]
    refine v_sw (n := 156) c_139_32 (by decide +kernel) ?_
    refine v_icN (n := 0) c_139_156 rfl ?_
    refine v_rb (B := false) c_139_157 rfl ?_
    exact ⟨_, rfl, rfl, FR.rf⟩
  · rw [cmA_1]
    by_cases ed4 : d4 = 0
    · subst ed4
      refine v_sw (n := 33) c_139_32 (by decide +kernel) ?_
      refine v_il8 c_139_33 ?_
      refine v_if_ne_F c_139_34 (by omega) (by omega) ?_
      refine v_al2 c_139_35 ?_
      refine v_il6 c_139_36 ?_
      refine v_il7 c_139_37 ?_
      refine v_cSI c_139_38 rfl rfl rfl (l_xch hM hw h2 h3) ?_
      rintro x t h
      by_cases hc : d2 < mN M ∧ d3 < mN M ∧ mAg M d2 d3 = 0
      · obtain ⟨rfl, a1, a2⟩ := h.ok (if_pos hc)
        rw [if_pos (⟨rfl, hc⟩)]
        refine v_if_eq_fb c_139_39 (rfl) ?_
        refine v_icN (n := 1) c_139_40 rfl ?_
        refine v_goto c_139_41 ?_
        refine v_rb (B := true) c_139_43 rfl ?_
        exact ⟨_, rfl, rfl, a1, a2⟩
      · obtain ⟨rfl, a2⟩ := h.no (if_neg hc)
        rw [if_neg (fun z => hc z.2)]
        refine v_if_eq_tb c_139_39 (rfl) ?_
        refine v_icN (n := 0) c_139_42 rfl ?_
        refine v_rb (B := false) c_139_43 rfl ?_
        exact ⟨_, rfl, rfl, a2⟩
    · rw [if_neg (fun z => ed4 (by omega))]
      refine v_sw (n := 33) c_139_32 (by decide +kernel) ?_
      refine v_il8 c_139_33 ?_
      refine v_if_ne_T c_139_34 (by omega) (by omega) ?_
      refine v_icN (n := 0) c_139_42 rfl ?_
      refine v_rb (B := false) c_139_43 rfl ?_
      exact ⟨_, rfl, rfl, FR.rf⟩
  · rw [cmA_2]
    by_cases ed3 : d3 = 0
    · subst ed3
      by_cases ed4 : d4 = 0
      · subst ed4
        refine v_sw (n := 44) c_139_32 (by decide +kernel) ?_
        refine v_il7 c_139_44 ?_
        refine v_if_ne_F c_139_45 (by omega) (by omega) ?_
        refine v_il8 c_139_46 ?_
        refine v_if_ne_F c_139_47 (by omega) (by omega) ?_
        refine v_al2 c_139_48 ?_
        refine v_al3 c_139_49 ?_
        refine v_il6 c_139_50 ?_
        refine v_cSI c_139_51 rfl rfl rfl (l_rng hM hw h2) ?_
        rintro x t h
        by_cases hc : d2 < mRn M
        · obtain ⟨rfl, a1, a2⟩ := h.ok (if_pos hc)
          rw [if_pos (⟨rfl, rfl, hc⟩)]
          refine v_if_eq_fb c_139_52 (rfl) ?_
          refine v_icN (n := 1) c_139_53 rfl ?_
          refine v_goto c_139_54 ?_
          refine v_rb (B := true) c_139_56 rfl ?_
          exact ⟨_, rfl, rfl, a1, a2⟩
        · obtain ⟨rfl, a2⟩ := h.no (if_neg hc)
          rw [if_neg (fun z => hc z.2.2)]
          refine v_if_eq_tb c_139_52 (rfl) ?_
          refine v_icN (n := 0) c_139_55 rfl ?_
          refine v_rb (B := false) c_139_56 rfl ?_
          exact ⟨_, rfl, rfl, a2⟩
      · rw [if_neg (fun z => ed4 (by omega))]
        refine v_sw (n := 44) c_139_32 (by decide +kernel) ?_
        refine v_il7 c_139_44 ?_
        refine v_if_ne_F c_139_45 (by omega) (by omega) ?_
        refine v_il8 c_139_46 ?_
        refine v_if_ne_T c_139_47 (by omega) (by omega) ?_
        refine v_icN (n := 0) c_139_55 rfl ?_
        refine v_rb (B := false) c_139_56 rfl ?_
        exact ⟨_, rfl, rfl, FR.rf⟩
    · rw [if_neg (fun z => ed3 (by omega))]
      refine v_sw (n := 44) c_139_32 (by decide +kernel) ?_
      refine v_il7 c_139_44 ?_
      refine v_if_ne_T c_139_45 (by omega) (by omega) ?_
      refine v_icN (n := 0) c_139_55 rfl ?_
      refine v_rb (B := false) c_139_56 rfl ?_
      exact ⟨_, rfl, rfl, FR.rf⟩
  · rw [cmA_3]
    by_cases ed2 : d2 = 0
    · subst ed2
      by_cases ed3 : d3 = 0
      · subst ed3
        by_cases ed4 : d4 = 0
        · subst ed4
          refine v_sw (n := 57) c_139_32 (by decide +kernel) ?_
          refine v_il6 c_139_57 ?_
          refine v_if_ne_F c_139_58 (by omega) (by omega) ?_
          refine v_il7 c_139_59 ?_
          refine v_if_ne_F c_139_60 (by omega) (by omega) ?_
          refine v_il8 c_139_61 ?_
          refine v_if_ne_F c_139_62 (by omega) (by omega) ?_
          refine v_al2 c_139_63 ?_
          refine v_al3 c_139_64 ?_
          refine v_cSI c_139_65 rfl rfl rfl (l_trd hM hw) ?_
          rintro x t h
          obtain ⟨rfl, a1, a2⟩ := h
          rw [if_pos (⟨rfl, rfl, rfl⟩)]
          refine v_if_eq_fb c_139_66 (rfl) ?_
          refine v_icN (n := 1) c_139_67 rfl ?_
          refine v_goto c_139_68 ?_
          refine v_rb (B := true) c_139_70 rfl ?_
          exact ⟨_, rfl, rfl, a1, a2⟩
        · rw [if_neg (fun z => ed4 (by omega))]
          refine v_sw (n := 57) c_139_32 (by decide +kernel) ?_
          refine v_il6 c_139_57 ?_
          refine v_if_ne_F c_139_58 (by omega) (by omega) ?_
          refine v_il7 c_139_59 ?_
          refine v_if_ne_F c_139_60 (by omega) (by omega) ?_
          refine v_il8 c_139_61 ?_
          refine v_if_ne_T c_139_62 (by omega) (by omega) ?_
          refine v_icN (n := 0) c_139_69 rfl ?_
          refine v_rb (B := false) c_139_70 rfl ?_
          exact ⟨_, rfl, rfl, FR.rf⟩
      · rw [if_neg (fun z => ed3 (by omega))]
        refine v_sw (n := 57) c_139_32 (by decide +kernel) ?_
        refine v_il6 c_139_57 ?_
        refine v_if_ne_F c_139_58 (by omega) (by omega) ?_
        refine v_il7 c_139_59 ?_
        refine v_if_ne_T c_139_60 (by omega) (by omega) ?_
        refine v_icN (n := 0) c_139_69 rfl ?_
        refine v_rb (B := false) c_139_70 rfl ?_
        exact ⟨_, rfl, rfl, FR.rf⟩
    · rw [if_neg (fun z => ed2 (by omega))]
      refine v_sw (n := 57) c_139_32 (by decide +kernel) ?_
      refine v_il6 c_139_57 ?_
      refine v_if_ne_T c_139_58 (by omega) (by omega) ?_
      refine v_icN (n := 0) c_139_69 rfl ?_
      refine v_rb (B := false) c_139_70 rfl ?_
      exact ⟨_, rfl, rfl, FR.rf⟩
  · rw [cmA_4]
    by_cases ed3 : d3 = 0
    · subst ed3
      by_cases ed4 : d4 = 0
      · subst ed4
        refine v_sw (n := 71) c_139_32 (by decide +kernel) ?_
        refine v_il7 c_139_71 ?_
        refine v_if_ne_F c_139_72 (by omega) (by omega) ?_
        refine v_il8 c_139_73 ?_
        refine v_if_ne_F c_139_74 (by omega) (by omega) ?_
        refine v_al2 c_139_75 ?_
        refine v_il6 c_139_76 ?_
        refine v_cSI c_139_77 rfl rfl rfl (l_lea hM hw h2) ?_
        rintro x t h
        by_cases hc : d2 < mN M ∧ (mL M).testBit d2 = false
        · obtain ⟨rfl, a1, a2⟩ := h.ok (if_pos hc)
          rw [if_pos (⟨rfl, rfl, hc⟩)]
          refine v_if_eq_fb c_139_78 (rfl) ?_
          refine v_icN (n := 1) c_139_79 rfl ?_
          refine v_goto c_139_80 ?_
          refine v_rb (B := true) c_139_82 rfl ?_
          exact ⟨_, rfl, rfl, a1, a2⟩
        · obtain ⟨rfl, a2⟩ := h.no (if_neg hc)
          rw [if_neg (fun z => hc z.2.2)]
          refine v_if_eq_tb c_139_78 (rfl) ?_
          refine v_icN (n := 0) c_139_81 rfl ?_
          refine v_rb (B := false) c_139_82 rfl ?_
          exact ⟨_, rfl, rfl, a2⟩
      · rw [if_neg (fun z => ed4 (by omega))]
        refine v_sw (n := 71) c_139_32 (by decide +kernel) ?_
        refine v_il7 c_139_71 ?_
        refine v_if_ne_F c_139_72 (by omega) (by omega) ?_
        refine v_il8 c_139_73 ?_
        refine v_if_ne_T c_139_74 (by omega) (by omega) ?_
        refine v_icN (n := 0) c_139_81 rfl ?_
        refine v_rb (B := false) c_139_82 rfl ?_
        exact ⟨_, rfl, rfl, FR.rf⟩
    · rw [if_neg (fun z => ed3 (by omega))]
      refine v_sw (n := 71) c_139_32 (by decide +kernel) ?_
      refine v_il7 c_139_71 ?_
      refine v_if_ne_T c_139_72 (by omega) (by omega) ?_
      refine v_icN (n := 0) c_139_81 rfl ?_
      refine v_rb (B := false) c_139_82 rfl ?_
      exact ⟨_, rfl, rfl, FR.rf⟩
  · rw [cmA_5]
    refine v_sw (n := 83) c_139_32 (by decide +kernel) ?_
    refine v_al2 c_139_83 ?_
    refine v_il6 c_139_84 ?_
    refine v_il7 c_139_85 ?_
    refine v_il8 c_139_86 ?_
    refine v_cSI c_139_87 rfl rfl rfl (l_rnk hM hw h2 h3) ?_
    rintro x t h
    by_cases hc : d2 < mN M ∧ d3 < mN M
    · obtain ⟨rfl, a1, a2⟩ := h.ok (if_pos hc)
      rw [if_pos hc]
      refine v_rb c_139_88 rfl ?_
      exact ⟨_, rfl, rfl, a1, a2⟩
    · obtain ⟨rfl, a2⟩ := h.no (if_neg hc)
      rw [if_neg hc]
      refine v_rb c_139_88 rfl ?_
      exact ⟨_, rfl, rfl, a2⟩
  · rw [cmA_6]
    by_cases ed2 : d2 = 0
    · subst ed2
      by_cases ed3 : d3 = 0
      · subst ed3
        by_cases ed4 : d4 = 0
        · subst ed4
          refine v_sw (n := 89) c_139_32 (by decide +kernel) ?_
          refine v_il6 c_139_89 ?_
          refine v_if_ne_F c_139_90 (by omega) (by omega) ?_
          refine v_il7 c_139_91 ?_
          refine v_if_ne_F c_139_92 (by omega) (by omega) ?_
          refine v_il8 c_139_93 ?_
          refine v_if_ne_F c_139_94 (by omega) (by omega) ?_
          refine v_al2 c_139_95 ?_
          refine v_cSI c_139_96 rfl rfl rfl (l_hom hM hw) ?_
          rintro x t h
          obtain ⟨rfl, a1, a2⟩ := h
          rw [if_pos (⟨rfl, rfl, rfl⟩)]
          refine v_if_eq_fb c_139_97 (rfl) ?_
          refine v_icN (n := 1) c_139_98 rfl ?_
          refine v_goto c_139_99 ?_
          refine v_rb (B := true) c_139_101 rfl ?_
          exact ⟨_, rfl, rfl, a1, a2⟩
        · rw [if_neg (fun z => ed4 (by omega))]
          refine v_sw (n := 89) c_139_32 (by decide +kernel) ?_
          refine v_il6 c_139_89 ?_
          refine v_if_ne_F c_139_90 (by omega) (by omega) ?_
          refine v_il7 c_139_91 ?_
          refine v_if_ne_F c_139_92 (by omega) (by omega) ?_
          refine v_il8 c_139_93 ?_
          refine v_if_ne_T c_139_94 (by omega) (by omega) ?_
          refine v_icN (n := 0) c_139_100 rfl ?_
          refine v_rb (B := false) c_139_101 rfl ?_
          exact ⟨_, rfl, rfl, FR.rf⟩
      · rw [if_neg (fun z => ed3 (by omega))]
        refine v_sw (n := 89) c_139_32 (by decide +kernel) ?_
        refine v_il6 c_139_89 ?_
        refine v_if_ne_F c_139_90 (by omega) (by omega) ?_
        refine v_il7 c_139_91 ?_
        refine v_if_ne_T c_139_92 (by omega) (by omega) ?_
        refine v_icN (n := 0) c_139_100 rfl ?_
        refine v_rb (B := false) c_139_101 rfl ?_
        exact ⟨_, rfl, rfl, FR.rf⟩
    · rw [if_neg (fun z => ed2 (by omega))]
      refine v_sw (n := 89) c_139_32 (by decide +kernel) ?_
      refine v_il6 c_139_89 ?_
      refine v_if_ne_T c_139_90 (by omega) (by omega) ?_
      refine v_icN (n := 0) c_139_100 rfl ?_
      refine v_rb (B := false) c_139_101 rfl ?_
      exact ⟨_, rfl, rfl, FR.rf⟩
  · rw [cmA_7]
    by_cases e4 : d4 = 0
    · subst e4
      by_cases c2 : d2 < mN M
      · by_cases c3 : d3 < mN M
        · have b2 := hw.2.2.2.1 d2 c2
          by_cases c4 : mH M d2 = d3
          · rw [if_pos ⟨rfl, c2, c3, c4⟩]
            refine v_sw (n := 102) c_139_32 (by decide +kernel) ?_
            refine v_il8 c_139_102 ?_
            refine v_if_ne_F c_139_103 (by omega) (by omega) ?_
            refine v_al2 c_139_104 ?_
            refine v_il6 c_139_105 ?_
            refine v_cVi c_139_106 rfl (by decide) rfl rfl (k_hasN m52 hM hw (by omega)) ?_
            refine v_if_eq_fb c_139_107 (decide_eq_true c2) ?_
            refine v_al2 c_139_108 ?_
            refine v_il7 c_139_109 ?_
            refine v_cVi c_139_110 rfl (by decide) rfl rfl (k_hasN m52 hM hw (by omega)) ?_
            refine v_if_eq_fb c_139_111 (decide_eq_true c3) ?_
            refine v_al2 c_139_112 ?_
            refine v_gR (n0 := 60) c_139_113 rfl ?_
            refine v_il6 c_139_114 ?_
            refine v_at c_139_115 rfl (by omega) (hM.2.2.2 d2 c2) rfl ?_
            refine v_il7 c_139_116 ?_
            refine v_icmp_ne_F c_139_117 (c4) (by omega) (by omega) ?_
            refine v_icN (n := 1) c_139_118 rfl ?_
            refine v_goto c_139_119 ?_
            refine v_rb (B := true) c_139_121 rfl ?_
            exact ⟨_, rfl, rfl, hM, FR.rf⟩
          · rw [if_neg (fun z => c4 z.2.2.2)]
            refine v_sw (n := 102) c_139_32 (by decide +kernel) ?_
            refine v_il8 c_139_102 ?_
            refine v_if_ne_F c_139_103 (by omega) (by omega) ?_
            refine v_al2 c_139_104 ?_
            refine v_il6 c_139_105 ?_
            refine v_cVi c_139_106 rfl (by decide) rfl rfl (k_hasN m52 hM hw (by omega)) ?_
            refine v_if_eq_fb c_139_107 (decide_eq_true c2) ?_
            refine v_al2 c_139_108 ?_
            refine v_il7 c_139_109 ?_
            refine v_cVi c_139_110 rfl (by decide) rfl rfl (k_hasN m52 hM hw (by omega)) ?_
            refine v_if_eq_fb c_139_111 (decide_eq_true c3) ?_
            refine v_al2 c_139_112 ?_
            refine v_gR (n0 := 60) c_139_113 rfl ?_
            refine v_il6 c_139_114 ?_
            refine v_at c_139_115 rfl (by omega) (hM.2.2.2 d2 c2) rfl ?_
            refine v_il7 c_139_116 ?_
            refine v_icmp_ne_T c_139_117 (c4) (by omega) (by omega) ?_
            refine v_icN (n := 0) c_139_120 rfl ?_
            refine v_rb (B := false) c_139_121 rfl ?_
            exact ⟨_, rfl, rfl, FR.rf⟩
        · rw [if_neg (fun z => c3 z.2.2.1)]
          refine v_sw (n := 102) c_139_32 (by decide +kernel) ?_
          refine v_il8 c_139_102 ?_
          refine v_if_ne_F c_139_103 (by omega) (by omega) ?_
          refine v_al2 c_139_104 ?_
          refine v_il6 c_139_105 ?_
          refine v_cVi c_139_106 rfl (by decide) rfl rfl (k_hasN m52 hM hw (by omega)) ?_
          refine v_if_eq_fb c_139_107 (decide_eq_true c2) ?_
          refine v_al2 c_139_108 ?_
          refine v_il7 c_139_109 ?_
          refine v_cVi c_139_110 rfl (by decide) rfl rfl (k_hasN m52 hM hw (by omega)) ?_
          refine v_if_eq_tb c_139_111 (decide_eq_false c3) ?_
          refine v_icN (n := 0) c_139_120 rfl ?_
          refine v_rb (B := false) c_139_121 rfl ?_
          exact ⟨_, rfl, rfl, FR.rf⟩
      · rw [if_neg (fun z => c2 z.2.1)]
        refine v_sw (n := 102) c_139_32 (by decide +kernel) ?_
        refine v_il8 c_139_102 ?_
        refine v_if_ne_F c_139_103 (by omega) (by omega) ?_
        refine v_al2 c_139_104 ?_
        refine v_il6 c_139_105 ?_
        refine v_cVi c_139_106 rfl (by decide) rfl rfl (k_hasN m52 hM hw (by omega)) ?_
        refine v_if_eq_tb c_139_107 (decide_eq_false c2) ?_
        refine v_icN (n := 0) c_139_120 rfl ?_
        refine v_rb (B := false) c_139_121 rfl ?_
        exact ⟨_, rfl, rfl, FR.rf⟩
    · rw [if_neg (fun z => e4 z.1)]
      refine v_sw (n := 102) c_139_32 (by decide +kernel) ?_
      refine v_il8 c_139_102 ?_
      refine v_if_ne_T c_139_103 (by omega) (by omega) ?_
      refine v_icN (n := 0) c_139_120 rfl ?_
      refine v_rb (B := false) c_139_121 rfl ?_
      exact ⟨_, rfl, rfl, FR.rf⟩
  · rw [cmA_8]
    have hb := mSum_b hw
    by_cases e2 : d2 = 0
    · subst e2
      by_cases c : mSum M ≤ d3 * 10 + d4
      · rw [if_pos ⟨rfl, c⟩]
        refine v_sw (n := 122) c_139_32 (by decide +kernel) ?_
        refine v_il6 c_139_122 ?_
        refine v_if_ne_F c_139_123 (by omega) (by omega) ?_
        refine v_al2 c_139_124 ?_
        refine v_cVi c_139_125 rfl (by decide) rfl rfl (k_sum m52 hM hw) ?_
        refine v_il7 c_139_126 ?_
        refine v_bpN (n := 10) c_139_127 rfl ?_
        refine v_imulN c_139_128 ?_
        refine v_il8 c_139_129 ?_
        refine v_iaddN c_139_130 ?_
        refine v_icmp_gt_F c_139_131 (by omega) (by omega) (by omega) ?_
        refine v_icN (n := 1) c_139_132 rfl ?_
        refine v_goto c_139_133 ?_
        refine v_rb (B := true) c_139_135 rfl ?_
        exact ⟨_, rfl, rfl, hM, FR.rf⟩
      · rw [if_neg (fun z => c z.2)]
        refine v_sw (n := 122) c_139_32 (by decide +kernel) ?_
        refine v_il6 c_139_122 ?_
        refine v_if_ne_F c_139_123 (by omega) (by omega) ?_
        refine v_al2 c_139_124 ?_
        refine v_cVi c_139_125 rfl (by decide) rfl rfl (k_sum m52 hM hw) ?_
        refine v_il7 c_139_126 ?_
        refine v_bpN (n := 10) c_139_127 rfl ?_
        refine v_imulN c_139_128 ?_
        refine v_il8 c_139_129 ?_
        refine v_iaddN c_139_130 ?_
        refine v_icmp_gt_T c_139_131 (by omega) (by omega) (by omega) ?_
        refine v_icN (n := 0) c_139_134 rfl ?_
        refine v_rb (B := false) c_139_135 rfl ?_
        exact ⟨_, rfl, rfl, FR.rf⟩
    · rw [if_neg (fun z => e2 z.1)]
      refine v_sw (n := 122) c_139_32 (by decide +kernel) ?_
      refine v_il6 c_139_122 ?_
      refine v_if_ne_T c_139_123 (by omega) (by omega) ?_
      refine v_icN (n := 0) c_139_134 rfl ?_
      refine v_rb (B := false) c_139_135 rfl ?_
      exact ⟨_, rfl, rfl, FR.rf⟩
  · rw [cmA_9]
    by_cases e2 : d2 = 0
    · subst e2
      rcases (show d3 = 0 ∨ d3 = 1 ∨ 1 < d3 by omega) with rfl | rfl | e3
      · have hb := mGr_b hw false
        refine v_sw (n := 136) c_139_32 (by decide +kernel) ?_
        refine v_il6 c_139_136 ?_
        refine v_if_ne_F c_139_137 (by omega) (by omega) ?_
        refine v_il7 c_139_138 ?_
        refine v_icN (n := 1) c_139_139 rfl ?_
        refine v_icmp_gt_F c_139_140 (by omega) (by omega) (by omega) ?_
        refine v_al4 c_139_141 ?_
        refine v_al2 c_139_142 ?_
        refine v_il7 c_139_143 ?_
        refine v_icN (n := 1) c_139_144 rfl ?_
        refine v_icmp_ne_T c_139_145 (by omega) (by omega) (by omega) ?_
        refine v_icN (n := 0) c_139_148 rfl ?_
        refine v_cVI c_139_149 rfl (by decide) rfl rfl (s_grs m52 (by omega) hM hw false) ?_
        rintro x t ⟨rfl, F⟩
        by_cases c : mGr M false ≤ d4
        · rw [if_pos ⟨rfl, by omega, c⟩]
          refine v_il8 c_139_150 ?_
          refine v_icmp_gt_F c_139_151 (by omega) (by omega) (by omega) ?_
          refine v_icN (n := 1) c_139_152 rfl ?_
          refine v_goto c_139_153 ?_
          refine v_rb (B := true) c_139_155 rfl ?_
          exact ⟨_, rfl, rfl, hM.fr F (by omega), F.up (by omega) (by omega)⟩
        · rw [if_neg (fun z => c z.2.2)]
          refine v_il8 c_139_150 ?_
          refine v_icmp_gt_T c_139_151 (by omega) (by omega) (by omega) ?_
          refine v_icN (n := 0) c_139_154 rfl ?_
          refine v_rb (B := false) c_139_155 rfl ?_
          exact ⟨_, rfl, rfl, F.up (by omega) (by omega)⟩
      · have hb := mGr_b hw true
        refine v_sw (n := 136) c_139_32 (by decide +kernel) ?_
        refine v_il6 c_139_136 ?_
        refine v_if_ne_F c_139_137 (by omega) (by omega) ?_
        refine v_il7 c_139_138 ?_
        refine v_icN (n := 1) c_139_139 rfl ?_
        refine v_icmp_gt_F c_139_140 (by omega) (by omega) (by omega) ?_
        refine v_al4 c_139_141 ?_
        refine v_al2 c_139_142 ?_
        refine v_il7 c_139_143 ?_
        refine v_icN (n := 1) c_139_144 rfl ?_
        refine v_icmp_ne_F c_139_145 (by omega) (by omega) (by omega) ?_
        refine v_icN (n := 1) c_139_146 rfl ?_
        refine v_goto c_139_147 ?_
        refine v_cVI c_139_149 rfl (by decide) rfl rfl (s_grs m52 (by omega) hM hw true) ?_
        rintro x t ⟨rfl, F⟩
        by_cases c : mGr M true ≤ d4
        · rw [if_pos ⟨rfl, by omega, c⟩]
          refine v_il8 c_139_150 ?_
          refine v_icmp_gt_F c_139_151 (by omega) (by omega) (by omega) ?_
          refine v_icN (n := 1) c_139_152 rfl ?_
          refine v_goto c_139_153 ?_
          refine v_rb (B := true) c_139_155 rfl ?_
          exact ⟨_, rfl, rfl, hM.fr F (by omega), F.up (by omega) (by omega)⟩
        · rw [if_neg (fun z => c z.2.2)]
          refine v_il8 c_139_150 ?_
          refine v_icmp_gt_T c_139_151 (by omega) (by omega) (by omega) ?_
          refine v_icN (n := 0) c_139_154 rfl ?_
          refine v_rb (B := false) c_139_155 rfl ?_
          exact ⟨_, rfl, rfl, F.up (by omega) (by omega)⟩
      · rw [if_neg (fun z => absurd z.2.1 (by omega))]
        refine v_sw (n := 136) c_139_32 (by decide +kernel) ?_
        refine v_il6 c_139_136 ?_
        refine v_if_ne_F c_139_137 (by omega) (by omega) ?_
        refine v_il7 c_139_138 ?_
        refine v_icN (n := 1) c_139_139 rfl ?_
        refine v_icmp_gt_T c_139_140 (by omega) (by omega) (by omega) ?_
        refine v_icN (n := 0) c_139_154 rfl ?_
        refine v_rb (B := false) c_139_155 rfl ?_
        exact ⟨_, rfl, rfl, FR.rf⟩
    · rw [if_neg (fun z => e2 z.1)]
      refine v_sw (n := 136) c_139_32 (by decide +kernel) ?_
      refine v_il6 c_139_136 ?_
      refine v_if_ne_T c_139_137 (by omega) (by omega) ?_
      refine v_icN (n := 0) c_139_154 rfl ?_
      refine v_rb (B := false) c_139_155 rfl ?_
      exact ⟨_, rfl, rfl, FR.rf⟩
theorem l_suc (hM : MK s 58 M) (hw : MW M) {k n c : Nat} (hn : s.1 86 1 = nI n) (h4 : n ≤ 4) (hk : k < n) (hc : s.1 87 k = nI c) (hc4 : c < 10000) : CC sc 139 [.ref 86, .int (nI k), .ref 58, .ref 61, .ref 77] s (QI fun x t => CR s (cmd M c) x t) := by
  refine cc_of ml_139 rfl rfl ?_
  refine v_il1 c_139_0 ?_
  refine v_if_lt_F c_139_1 (by omega) ?_
  refine v_il1 c_139_2 ?_
  refine v_al0 c_139_3 ?_
  refine v_gI c_139_4 rfl (hn) ?_
  refine v_icmp_ge_F c_139_5 (by omega) (by omega) (by omega) ?_
  refine v_al0 c_139_6 ?_
  refine v_gR (n0 := 87) c_139_7 rfl ?_
  refine v_il1 c_139_8 ?_
  refine v_at c_139_9 rfl (by omega) (hc) rfl ?_
  refine v_goto c_139_10 ?_
  refine v_is5 c_139_12 rfl ?_
  refine v_il5 c_139_13 ?_
  refine v_bpN (n := 100) c_139_14 rfl ?_
  refine v_idivN c_139_15 (by omega) (by omega) (by omega) ?_
  refine v_bpN (n := 10) c_139_16 rfl ?_
  refine v_iremN c_139_17 (by omega) (by omega) (by omega) ?_
  refine v_is6 c_139_18 rfl ?_
  refine v_il5 c_139_19 ?_
  refine v_bpN (n := 10) c_139_20 rfl ?_
  refine v_idivN c_139_21 (by omega) (by omega) (by omega) ?_
  refine v_bpN (n := 10) c_139_22 rfl ?_
  refine v_iremN c_139_23 (by omega) (by omega) (by omega) ?_
  refine v_is7 c_139_24 rfl ?_
  refine v_il5 c_139_25 ?_
  refine v_bpN (n := 10) c_139_26 rfl ?_
  refine v_iremN c_139_27 (by omega) (by omega) (by omega) ?_
  refine v_is8 c_139_28 rfl ?_
  refine v_il5 c_139_29 ?_
  refine v_spN (n := 1000) c_139_30 rfl ?_
  refine v_idivN c_139_31 (by omega) (by omega) (by omega) ?_
  exact l_suc0 hM hw (by omega) (by omega) (by omega) (by omega)
end CK2
