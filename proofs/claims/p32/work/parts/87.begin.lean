/-! THE LAW'S BEGINNING: the object made -/
def zi_o (o : Option zKS) : zKS := match o with
  | some Z => Z
  | none => ([], 0, 0)
theorem zi_og {o : Option zKS} (h : o.isSome = true) : o = some (zi_o o) := by
  cases o with
  | none => cases h
  | some Z => rfl
def zi_0 : zKS := ([], 0, 0)
def zi_1 : zKS := zk_nw zi_0 (.inl (7, zm_ds 7)) (zm_cl 7).2.2
def zi_2 : zKS := zi_o (zk_run 300 (0, 0, [some (.ref 0)], [], zi_1))
theorem zi_2s : (zk_run 300 (0, 0, [some (.ref 0)], [], zi_1)).isSome = true := by decide +kernel
theorem zi_5a : zi_2.1 = zl_t.map zk_of := by decide +kernel
theorem zi_5b : zi_2.2 = (88, 6590) := by decide +kernel
theorem zi_5e : zi_2 = (zl_t.map zk_of, 88, 6590) := Prod.ext zi_5a zi_5b
theorem zk_rep_0 : zk_rep zi_0 zm_h0 := ⟨rfl, rfl, rfl, fun a k h => by simp [zi_0] at h⟩
def zi_s : zv_S := (fun _ _ => 0, fun _ _ => 0, 0)
theorem zk_zl {k : zl_K} {c : zm_C} (h : zk_c (zk_of k) c) : zl_c k (fun _ => 0) (fun _ => 0) c := by
  match k, h with
  | .inl (cj, rs), h => exact h
  | .inr (0, n, rs), h => exact h
  | .inr (1, n, rs), h => exact h
  | .inr (2, n, rs), h => exact h
  | .inr (q + 3, n, rs), h =>
    obtain ⟨p, h1, h2⟩ := h
    refine ⟨p, h1, fun i hi => (h2 i hi).trans ?_⟩
    unfold zk_g
    rw [List.getElem?_map]
    cases rs[i]? <;> rfl
theorem zk_zv {h : zm_H} (hr : zk_rep zi_2 h) : zv_rep zi_s h := by
  rw [zi_5e] at hr
  obtain ⟨h1, h2, h3, h4⟩ := hr
  have hl : (zl_t.map zk_of).length = 88 := by rw [List.length_map]; exact zl_len
  refine ⟨h1.trans hl, h2, h3, fun a ha => ?_⟩
  have ha2 : a < zl_t.length := by rw [zl_len]; exact ha
  have e : zl_t[a]? = some (zl a) := by
    unfold zl
    rw [List.getElem?_eq_getElem ha2]
  exact zk_zl (h4 a _ (by show (zl_t.map zk_of)[a]? = _; rw [List.getElem?_map, e]; rfl))
theorem law_go (sc : Nat × (Nat → Int32)) : ∃ h, zk_rep zi_2 h ∧ ∀ n, 300 ≤ n → zm_run sc (n + 4) (206, 0, zm_in (zm_ml 206) [.float 0], [], zm_h0) = zm_run sc n (206, 4, [some (.float 0), some (.ref 0), none, none, none], [], h) := by
  have r1 : zk_rep zi_1 (zm_nw zm_h0 (.inr (7, zm_ds 7)) (zm_cl 7).2.2) := zk_rep_nw (k := .inl (7, zm_ds 7)) (c := .inr (7, zm_ds 7)) zk_rep_0 rfl
  obtain ⟨h2, r2, b2⟩ := zk_sound sc _ _ _ _ _ _ _ (zi_og zi_2s) _ r1
  have r2 : zk_rep zi_2 h2 := r2
  have st : ∀ {i i' : Nat} {ls ls' : zm_L} {st st' : List Value} {h h' : zm_H} {bp len a b c : Nat} {ins : Instr} {v : Int32} {w : Int64} {ts : List Nat} (n : Nat), (zm_cd 206)[i]? = some (bp, ins, len, a, b, c, v, w, ts) → (∀ E, zm_G sc E 206 i ls st h ins a b c v w ts = E (206, i', ls', st', h')) → zm_run sc (n + 1) (206, i, ls, st, h) = zm_run sc n (206, i', ls', st', h') := fun n hc hG => by
    show zm_F sc (zm_run sc n) _ = _
    unfold zm_F
    simp only [hc]
    exact hG _
  have cl : ∀ {i y o : Nat} {ls : zm_L} {r : List Value} {h h' : zm_H} {bp q len c : Nat} {v : Int32} {w : Int64} {ts : List Nat} (n : Nat), (zm_cd 206)[i]? = some (bp, .invokespecial q, len, y, 0, 0, v, w, ts) → (∀ E, zm_G sc E 206 i ls (.ref o :: r) h (.invokespecial q) y 0 0 v w ts = zm_rt 0 E 206 i ls r (zm_call E y [.ref o] h)) → zm_call (zm_run sc n) y [.ref o] h = some (.inl none, h') → zm_run sc (n + 1) (206, i, ls, .ref o :: r, h) = zm_run sc n (206, i + 1, ls, r, h') := fun n hc hG hk => by
    show zm_F sc (zm_run sc n) _ = _
    unfold zm_F
    simp only [hc]
    rw [hG, hk]
    rfl
  have k2 : ∀ n, 300 ≤ n → zm_call (zm_run sc n) 0 [.ref 0] (zm_nw zm_h0 (.inr (7, zm_ds 7)) (zm_cl 7).2.2) = some (.inl none, h2) := fun n hn => by
    have e : Nat.beq (zm_in (zm_ml 0) [.ref 0]).length (zm_ml 0) = true := by decide +kernel
    unfold zm_call
    rw [e]
    exact b2 n hn
  refine ⟨_, r2, fun n hn => ?_⟩
  have hls : zm_in (zm_ml 206) [.float 0] = [some (.float 0), none, none, none, none] := by decide +kernel
  rw [hls]
  refine (st (n + 3) c_206_0 (i' := 1) (ls' := [some (.float 0), none, none, none, none]) (st' := [.ref 0]) (h' := zm_nw zm_h0 (.inr (7, zm_ds 7)) (zm_cl 7).2.2) (fun E => rfl)).trans ?_
  refine (st (n + 2) c_206_1 (i' := 2) (ls' := [some (.float 0), none, none, none, none]) (st' := [.ref 0, .ref 0]) (h' := zm_nw zm_h0 (.inr (7, zm_ds 7)) (zm_cl 7).2.2) (fun E => rfl)).trans ?_
  refine (cl (c := 0) (n + 1) c_206_2 (fun E => rfl) (k2 _ (by omega))).trans ?_
  refine (st (n + 0) c_206_3 (i' := 4) (ls' := [some (.float 0), some (.ref 0), none, none, none]) (st' := []) (h' := h2) (fun E => rfl)).trans ?_
  rfl
theorem law_W0 : ∃ (M : zM) (L : List zM) (S : Nat → Option zM) (tx : Nat → Nat) (len : Nat), MW M ∧ mN M = 0 ∧ RZ zi_s (M, L, S, tx, len) := by
  have z : ∀ a : Nat, a < 0 → False := fun a h => Nat.not_lt_zero a h
  refine ⟨(0, 0, (fun _ _ => 0), (fun k => k)), [], (fun _ => none), (fun _ => 0), 0, ⟨Nat.zero_le _, by decide, fun i t hi => (z i hi).elim, fun i hi => (z i hi).elim, fun i j hi => (z i hi).elim⟩, rfl, ⟨⟨rfl, rfl, fun i t hi => (z i hi).elim, fun i hi => (z i hi).elim⟩, ⟨Nat.zero_le _, 0, by decide, rfl, rfl, fun j M hj => by simp at hj⟩, fun k hk => rfl, rfl, Nat.zero_le _, fun j hj => (z j hj).elim⟩, rfl⟩
theorem law_fin {L : Nat} (hL : L ≤ 260) (xs : Nat → Int32) : ∃ (n : Nat) (r : zm_R), zm_run (L, xs) n (206, 0, zm_in (zm_ml 206) [.float 0], [], zm_h0) = some r ∧ r.1 = .inl (some (.int 1)) ∧ r.2.2.2.1 ≤ 600130 ∧ r.2.2.2.2 ≤ 7301080 := by
  obtain ⟨h, hr, hg⟩ := law_go (L, xs)
  obtain ⟨M, L', S, tx, len, w1, w2, w3⟩ := law_W0
  obtain ⟨N, r, t, h1, h2, h3, h4⟩ := law_lp (xs := xs) hL w1 w2 w3 h (zk_zv hr)
  refine ⟨N + 300 + 4, r, (hg _ (by omega)).trans (h1 _ (by omega)), h3, ?_, ?_⟩
  · rw [h2.2.1]
    omega
  · rw [h2.2.2.1]
    omega
