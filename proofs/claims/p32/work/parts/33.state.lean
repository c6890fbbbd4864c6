/-! WHAT BOTH SIDES HOLD: market, remembered states, save slots, text -/
def HK (s : zv_S) (L : List zM) : Prop := L.length ≤ 14 ∧ ∃ nx, nx < 14 ∧ s.1 6 1 = nI L.length ∧ s.1 6 2 = nI nx ∧ ∀ (j : Nat) (M : zM), L[j]? = some M → MK s (8 + 3 * ((nx + 13 - j) % 14)) M
def HQ (s : zv_S) (L : List zM) : Prop := L.length ≤ 14 ∧ s.1 88 3 = nI L.length ∧ ∀ (j : Nat) (M : zM), L[j]? = some M → QM (fun i => s.1 91 (58 * (L.length - 1 - j) + i)) M
def SK (s : zv_S) (S : Nat → Option zM) : Prop := ∀ k, k < 2 → match S k with
  | none => s.1 (50 + 4 * k) 1 = bI false
  | some M => s.1 (50 + 4 * k) 1 = bI true ∧ MK s (51 + 4 * k) M
def SQ (s : zv_S) (S : Nat → Option zM) : Prop := ∀ k, k < 2 → match S k with
  | none => s.1 93 k = bI false
  | some M => s.1 93 k = bI true ∧ QM (fun i => s.1 92 (58 * k + i)) M
def WA (M : zM) (L : List zM) (S : Nat → Option zM) : Prop := MW M ∧ (∀ N, N ∈ L → MW N) ∧ ∀ k N, S k = some N → MW N
def RC (s : zv_S) (M : zM) (L : List zM) (S : Nat → Option zM) (tx : Nat → Nat) (len : Nat) : Prop := MK s 3 M ∧ HK s L ∧ SK s S ∧ TXT s 2 1 1 tx len
def RM (s : zv_S) (M : zM) (L : List zM) (S : Nat → Option zM) (tx : Nat → Nat) (len : Nat) : Prop := QM (s.1 89) M ∧ HQ s L ∧ SQ s S ∧ TXT s 94 88 7 tx len
theorem HK.fr {s t : zv_S} {L : List zM} {lo hi : Nat} (h : HK s L) (hf : FR lo hi s t) (h1 : 50 ≤ lo ∨ hi ≤ 6) : HK t L := by
  obtain ⟨h0, nx, a1, a2, a3, a4⟩ := h
  refine ⟨h0, nx, a1, by rw [hf.at (by omega)]; exact a2, by rw [hf.at (by omega)]; exact a3, fun j M hj => (a4 j M hj).fr hf ?_⟩
  have := Nat.mod_lt (nx + 13 - j) (show 14 > 0 by omega)
  omega
theorem SK.fr {s t : zv_S} {S : Nat → Option zM} {lo hi : Nat} (h : SK s S) (hf : FR lo hi s t) (h1 : hi ≤ 50 ∨ (58 ≤ lo ∧ hi ≤ 88) ∨ 88 ≤ lo) : SK t S := by
  intro k hk
  have h2 := h k hk
  revert h2
  cases S k with
  | none => intro h2; show t.1 (50 + 4 * k) 1 = _; rw [hf.at (by omega)]; exact h2
  | some M => exact fun h2 => ⟨by rw [hf.at (by omega)]; exact h2.1, h2.2.fr hf (by omega)⟩
theorem RC.fr {s t : zv_S} {M : zM} {L : List zM} {S : Nat → Option zM} {tx : Nat → Nat} {len lo hi : Nat} (h : RC s M L S tx len) (hf : FR lo hi s t) (h1 : (58 ≤ lo ∧ hi ≤ 88) ∨ 88 ≤ lo) : RC t M L S tx len := ⟨h.1.fr hf (by omega), h.2.1.fr hf (by omega), h.2.2.1.fr hf (by omega), h.2.2.2.fr hf (by omega) (by omega)⟩
theorem SQ.of {s t : zv_S} {S : Nat → Option zM} (h : SQ s S) (e1 : t.1 93 = s.1 93) (e2 : t.1 92 = s.1 92) : SQ t S := by
  unfold SQ
  rw [e1, e2]
  exact h
theorem HQ.of {s t : zv_S} {L : List zM} (h : HQ s L) (e1 : t.1 88 3 = s.1 88 3) (e2 : t.1 91 = s.1 91) : HQ t L := by
  unfold HQ
  rw [e1, e2]
  exact h
section RMS
variable {s t : zv_S} {M N : zM} {L : List zM} {S : Nat → Option zM} {tx : Nat → Nat} {len lo hi : Nat}
theorem RM.fr (h : RM s M L S tx len) (hf : FR lo hi s t) (h1 : hi ≤ 88 ∨ 95 ≤ lo) : RM t M L S tx len := by
  have e : ∀ a, 88 ≤ a → a < 95 → t.1 a = s.1 a := fun a x y => hf.at (by omega)
  refine ⟨by rw [e 89 (by omega) (by omega)]; exact h.1, h.2.1.of (by rw [e 88 (by omega) (by omega)]) (e 91 (by omega) (by omega)), h.2.2.1.of (e 93 (by omega) (by omega)) (e 92 (by omega) (by omega)), ?_⟩
  unfold TXT
  rw [e 88 (by omega) (by omega), e 94 (by omega) (by omega)]
  exact h.2.2.2
theorem RM.fw (h : RM s M L S tx len) (hf : FW s t) : RM t M L S tx len := ⟨by rw [hf.at (by omega) (by omega) (by omega)]; exact h.1, h.2.1.of hf.2.2.1 (hf.at (by omega) (by omega) (by omega)), h.2.2.1.of (hf.at (by omega) (by omega) (by omega)) (hf.at (by omega) (by omega) (by omega)), h.2.2.2.fw hf⟩
theorem RM.th (h : RM s M L S tx len) (x : Int32) : RM (sI s 88 8 x) M L S tx len := by
  refine ⟨by rw [sI_o (by omega)]; exact h.1, h.2.1.of (sI_k (by omega)) (sI_o (by omega)), h.2.2.1.of (sI_o (by omega)) (sI_o (by omega)), ?_⟩
  unfold TXT
  rw [sI_k (by omega), sI_o (by omega)]
  exact h.2.2.2
theorem RM.q (h : RM s M L S tx len) (hf : FR 89 90 s t) (hq : QM (t.1 89) N) : RM t N L S tx len := by
  refine ⟨hq, h.2.1.of (by rw [hf.at (by omega)]) (hf.at (by omega)), h.2.2.1.of (hf.at (by omega)) (hf.at (by omega)), ?_⟩
  unfold TXT
  rw [hf.at (by omega), hf.at (by omega)]
  exact h.2.2.2
theorem FW.fr (h : FW s t) : FR 88 109 s t := ⟨fun a ha => h.1 a (by omega) (by omega) (by omega), h.2.1⟩
end RMS
theorem hst_at : ∀ k, k < 14 → ([8, 11, 14, 17, 20, 23, 26, 29, 32, 35, 38, 41, 44, 47] : List Nat)[k]? = some (8 + 3 * k) := by decide +kernel
theorem hst_M : ∀ k, k < 14 → isM (8 + 3 * k) = true := by decide +kernel
theorem take_at {α : Type} {l : List α} {n j : Nat} {x : α} (h : (l.take n)[j]? = some x) : l[j]? = some x ∧ j < n := by
  rw [List.getElem?_take] at h
  split at h
  · exact ⟨h, by assumption⟩
  · cases h
section HI
variable {sc : Nat × (Nat → Int32)} {s : zv_S} {M : zM} {L : List zM}
theorem h_frg : RV sc 111 [.ref 6] s (sI s 6 1 (nI 0)) := by
  refine cc_of ml_111 rfl rfl ?_
  refine v_al0 c_111_0 ?_
  refine v_icN (n := 0) c_111_1 rfl ?_
  refine v_pI c_111_2 rfl ?_
  exact v_rv c_111_3 ⟨rfl, rfl⟩
theorem HK.nil (h : HK s L) : HK (sI s 6 1 (nI 0)) [] := by
  obtain ⟨h0, nx, a1, a2, a3, a4⟩ := h
  exact ⟨Nat.zero_le _, nx, a1, sI_s, by rw [sI_k (by omega)]; exact a3, fun j M hj => by simp at hj⟩
theorem h_rem (hH : HK s L) (hM : MK s 3 M) (hw : MW M) : CC sc 112 [.ref 6, .ref 3] s (QV fun t => HK t ((M :: L).take 14) ∧ FR 6 50 s t) := by
  refine cc_of ml_112 rfl rfl ?_
  obtain ⟨h0, nx, a1, a2, a3, a4⟩ := hH
  have hx := hst_M nx a1
  refine v_al0 c_112_0 ?_
  refine v_gI c_112_1 rfl (a3) ?_
  refine v_if_lt_F c_112_2 (by omega) ?_
  refine v_al0 c_112_3 ?_
  refine v_gI c_112_4 rfl (a3) ?_
  refine v_al0 c_112_5 ?_
  refine v_gR (n0 := 7) c_112_6 rfl ?_
  refine v_len c_112_7 rfl ?_
  refine v_icmp_ge_F c_112_8 (by omega) (by omega) (by omega) ?_
  refine v_al0 c_112_9 ?_
  refine v_gR (n0 := 7) c_112_10 rfl ?_
  refine v_al0 c_112_11 ?_
  refine v_gI c_112_12 rfl (a3) ?_
  refine v_aR c_112_13 rfl (by omega) (hst_at nx a1) ?_
  refine v_ifn c_112_14 ?_
  refine v_al0 c_112_15 ?_
  refine v_gR (n0 := 7) c_112_16 rfl ?_
  refine v_al0 c_112_17 ?_
  refine v_gI c_112_18 rfl (a3) ?_
  refine v_aR c_112_19 rfl (by omega) (hst_at nx a1) ?_
  refine v_al1 c_112_20 ?_
  refine v_cVV c_112_21 rfl (kM_lt hx) (kM_is hx) rfl (k_bec hx (show isM 3 = true from rfl) (by omega)) ?_
  rintro t hp
  have hM' := MK.bec hM hw.1 hp
  have hf := hp.2.2.2.2
  have t1 : t.1 6 1 = nI L.length := by rw [hf.at (by omega)]; exact a2
  have t2 : t.1 6 2 = nI nx := by rw [hf.at (by omega)]; exact a3
  refine v_al0 c_112_22 ?_
  refine v_al0 c_112_23 ?_
  refine v_gI c_112_24 rfl (t2) ?_
  refine v_icN (n := 1) c_112_25 rfl ?_
  refine v_iaddN c_112_26 ?_
  refine v_bpN (n := 14) c_112_27 rfl ?_
  refine v_iremN c_112_28 (by omega) (by omega) (by omega) ?_
  refine v_pI c_112_29 rfl ?_
  refine v_al0 c_112_30 ?_
  refine v_al0 c_112_31 ?_
  refine v_gI c_112_32 rfl (show (sI t 6 2 _).1 6 1 = nI L.length by rw [sI_k (by omega)]; exact t1) ?_
  refine v_icN (n := 1) c_112_33 rfl ?_
  refine v_iaddN c_112_34 ?_
  refine v_bpN (n := 14) c_112_35 rfl ?_
  refine v_min c_112_36 rfl ?_
  have emin : (if nI 14 < nI (L.length + 1) then nI 14 else nI (L.length + 1)) = nI ((M :: L).take 14).length := by
    rw [List.length_take, List.length_cons]
    by_cases h : 14 < L.length + 1
    · rw [if_pos ((nI_ltI (by omega) (by omega)).mpr h), Nat.min_eq_left (by omega)]
    · rw [if_neg (fun z => h ((nI_ltI (by omega) (by omega)).mp z)), Nat.min_eq_right (by omega)]
  rw [emin]
  refine v_pI c_112_37 rfl ?_
  refine v_rv c_112_38 ?_
  refine ⟨rfl, ⟨by rw [List.length_take]; omega, (nx + 1) % 14, Nat.mod_lt _ (by omega), sI_s, by rw [sI_k (by omega), sI_s], fun j N hj => ?_⟩, ((hf.up (by omega) (by omega)).tr (FR.sI (by omega) (by omega))).tr (FR.sI (by omega) (by omega))⟩
  obtain ⟨hj, hj14⟩ := take_at hj
  have hfr : FR 6 7 t (sI (sI t 6 2 (nI ((nx + 1) % 14))) 6 1 (nI ((M :: L).take 14).length)) := (FR.sI (by omega) (by omega)).tr (FR.sI (by omega) (by omega))
  refine MK.fr ?_ hfr (by omega)
  match j, hj with
  | 0, hj =>
    cases hj
    rw [show ((nx + 1) % 14 + 13 - 0) % 14 = nx by omega]
    exact hM'
  | j + 1, hj =>
    have hj' : L[j]? = some N := by simpa using hj
    rw [show ((nx + 1) % 14 + 13 - (j + 1)) % 14 = (nx + 13 - j) % 14 by omega]
    exact (a4 j N hj').fr hf (by omega)
theorem h_tkb (hH : HK s (M :: L)) (h7 : mN M ≤ 7) : CC sc 113 [.ref 6, .ref 3] s (QV fun t => HK t L ∧ MK t 3 M ∧ FR 3 50 s t) := by
  refine cc_of ml_113 rfl rfl ?_
  obtain ⟨h0, nx, a1, a2, a3, a4⟩ := hH
  have hlen : (M :: L).length = L.length + 1 := rfl
  rw [hlen] at h0 a2
  have hk : (nx + 14 - 1) % 14 < 14 := Nat.mod_lt _ (by omega)
  have hx := hst_M _ hk
  have hM : MK s (8 + 3 * ((nx + 14 - 1) % 14)) M := a4 0 M rfl
  refine v_al0 c_113_0 ?_
  refine v_gI c_113_1 rfl (a3) ?_
  refine v_bpN (n := 14) c_113_2 rfl ?_
  refine v_iaddN c_113_3 ?_
  refine v_icN (n := 1) c_113_4 rfl ?_
  refine v_isubN c_113_5 (by omega) ?_
  refine v_bpN (n := 14) c_113_6 rfl ?_
  refine v_iremN c_113_7 (by omega) (by omega) (by omega) ?_
  refine v_is2 c_113_8 rfl ?_
  refine v_al0 c_113_9 ?_
  refine v_gI c_113_10 rfl (a2) ?_
  refine v_if_le_F c_113_11 (by omega) (by omega) ?_
  refine v_il2 c_113_12 ?_
  refine v_if_lt_F c_113_13 (by omega) ?_
  refine v_il2 c_113_14 ?_
  refine v_al0 c_113_15 ?_
  refine v_gR (n0 := 7) c_113_16 rfl ?_
  refine v_len c_113_17 rfl ?_
  refine v_icmp_ge_F c_113_18 (by omega) (by omega) (by omega) ?_
  refine v_al0 c_113_19 ?_
  refine v_gR (n0 := 7) c_113_20 rfl ?_
  refine v_il2 c_113_21 ?_
  refine v_aR c_113_22 rfl (by omega) (hst_at _ hk) ?_
  refine v_ifn c_113_23 ?_
  refine v_al1 c_113_24 ?_
  refine v_al0 c_113_25 ?_
  refine v_gR (n0 := 7) c_113_26 rfl ?_
  refine v_il2 c_113_27 ?_
  refine v_aR c_113_28 rfl (by omega) (hst_at _ hk) ?_
  refine v_cVV c_113_29 rfl (by decide) rfl rfl (k_bec (show isM 3 = true from rfl) hx (by omega)) ?_
  rintro t hp
  have hM' := MK.bec hM h7 hp
  have hf := hp.2.2.2.2
  refine v_al0 c_113_30 ?_
  refine v_il2 c_113_31 ?_
  refine v_pI c_113_32 rfl ?_
  refine v_al0 c_113_33 ?_
  refine v_dupr c_113_34 ?_
  refine v_gI c_113_35 rfl (show (sI t 6 2 _).1 6 1 = nI (L.length + 1) by rw [sI_k (by omega), hf.at (by omega)]; exact a2) ?_
  refine v_icN (n := 1) c_113_36 rfl ?_
  refine v_isubN c_113_37 (by omega) ?_
  refine v_pI c_113_38 rfl ?_
  refine v_rv c_113_39 ?_
  have fu : FR 6 7 t (sI (sI t 6 2 (nI ((nx + 14 - 1) % 14))) 6 1 (nI (L.length + 1 - 1))) := (FR.sI (by omega) (by omega)).tr (FR.sI (by omega) (by omega))
  refine ⟨rfl, ⟨by omega, (nx + 14 - 1) % 14, hk, by rw [sI_s]; rfl, by rw [sI_k (by omega), sI_s], fun j N hj => ?_⟩, hM'.fr fu (by omega), (hf.up (by omega) (by omega)).tr (fu.up (by omega) (by omega))⟩
  have h9 := a4 (j + 1) N (by simpa using hj)
  have hjl := (List.getElem?_eq_some_iff.mp hj).1
  rw [show ((nx + 14 - 1) % 14 + 13 - j) % 14 = (nx + 13 - (j + 1)) % 14 by omega]
  exact (h9.fr hf (by omega)).fr fu (by omega)
theorem h_siz (hH : HK s L) : RI sc 212 [.ref 6] s (nI L.length) s := by
  refine cc_of ml_212 rfl rfl ?_
  obtain ⟨-, nx, -, a2, -⟩ := hH
  refine v_al0 c_212_0 ?_
  refine v_gI c_212_1 rfl (a2) ?_
  exact v_ri c_212_2 ⟨_, rfl, rfl, rfl⟩
end HI
