/-! EVERY INSTRUCTION FOLLOWS -/
theorem zc_dec {m bp k len : Nat} {ins : Instr} (h : decode (zm_by m) bp = .ok (ins, len)) (h2 : Nat.beq len k = true) : decode (zm_by m) bp = .ok (ins, k) := by
  rw [Nat.eq_of_beq_eq_true h2] at h
  exact h
theorem zc_hnil (hall : zc_All) {m : Nat} (hm : m < zm_n) : (zm_ht m = [] → zm_hh m = []) ∧ (∀ t tt, zm_ht m = t :: tt → zm_hh m ≠ []) := by
  obtain ⟨-, -, -, -, hp, h⟩ := zc_m0h hall hm
  refine ⟨fun e => ?_, fun t tt e e2 => ?_⟩
  · rw [e] at h
    cases hq : zm_hh m with
    | nil => rfl
    | cons a b =>
      rw [hq] at h
      cases hp <;> simp [zc_hs] at h
  · rw [e, e2] at h
    simp [zc_hs] at h
section ZG
variable {l : Launch} {b L : Nat} {xs : Nat → Int32}
theorem zs_rt (hall : zc_All) {e : zm_K} (ih : ∀ m i ls st h r, e (m, i, ls, st, h) = some r → zs_S l b L xs m i ls st h r) {m i bp c a : Nat} {ls : zm_L} {st rest as : List Value} {h : zm_H} {r : zm_R} (hp : zm_pc m i = some bp) (hp' : zm_pc m (i + 1) = some (bp + 3))
    (hr : zm_rt c e m i ls rest (zm_call e a as h) = some r)
    (hrun : ∀ r1 : zm_R, zs_S l b L xs a 0 (zm_in (zm_ml a) as) [] h r1 → (zm_in (zm_ml a) as).length = zm_ml a → ∀ (p : Program) (e : Env) (R : Room) (s : State) (mid : MethodId) (args : Array Value) (below : List Frame) (meth : Method) (c : Code) (dC : Nat → ClassId) (dI : Nat → Nat → Nat) (A : Nat → Prop) (H : Heap) (locs : List Loc) (cells slots : Nat) (ws : va_W) (tys : List (ClassId × FieldType)) (rls : Array Slot) (rst : List Value) (mc1 ms1 : Nat),
      zs_X l p R s mid args meth c m b L xs A → zs_W b dC dI ws tys A s H locs h → rls.size = zm_ml m → zs_vs b (ws.map Prod.fst) st rst → mc1 = r1.2.2.2.1 - h.2.2.1 → ms1 = r1.2.2.2.2 - h.2.2.2 → (cells + mc1 ≤ R.cells ∧ slots + ms1 ≤ R.slots) →
      ∃ rr av, zs_vs b (ws.map Prod.fst) rest rr ∧ vx_Run p l e R s mid args below meth c H locs cells slots mc1 ms1 (F0 mid bp rls rst) rr (zs_Q b dC dI (ws.map Prod.fst) (va_A ws H.size) r1 av) (zs_T b dC dI (ws.map Prod.fst) (va_A ws H.size) r1) (va_A ws H.size)) :
    zs_S l b L xs m i ls st h r := by
  have hm : m < zm_n := by
    obtain ⟨e5, h5e, -⟩ := zm_pc_inv hp
    exact zm_lt h5e
  have hn := zc_hnil hall hm
  unfold zm_call at hr
  split at hr
  · rename_i hlen
    have hin := Nat.eq_of_beq_eq_true hlen
    cases hq : e (a, 0, zm_in (zm_ml a) as, [], h) with
    | none =>
      rw [hq] at hr
      unfold zm_rt at hr
      split at hr <;> cases hr
    | some r1 =>
      rw [hq] at hr
      have hS1 := ih _ _ _ _ _ _ hq
      have kx : ∀ (k : Nat) (h1 : zm_H), r1 = (.inr k, h1) → zm_hx e m i ls k h1 = some r → (zm_hh m = [] ∧ r = (.inr k, r1.2)) ∨ ∃ g kk, zm_hh m ≠ [] ∧ zm_fd (zm_ht m) i k = some (g, kk) ∧ zs_S l b L xs m g (zm_s0 ls kk) [] r1.2 r := by
        intro k h1 e1 hx
        subst e1
        unfold zm_hx at hx
        split at hx
        · rename_i e2
          exact Or.inl ⟨hn.1 e2, (Option.some.inj hx).symm⟩
        · rename_i t tt e2
          split at hx
          · rename_i g kk e3
            exact Or.inr ⟨g, kk, hn.2 _ _ e2, by rw [e2]; exact e3, ih _ _ _ _ _ _ hx⟩
          · cases hx
      refine zs_inv hall hp hp' (r1 := r1) (rest := rest) ⟨hS1.1, hS1.2.1⟩ ?_ ?_ (hrun r1 hS1 hin)
      · intro v hv
        obtain ⟨r10, h1⟩ := r1
        dsimp only at hv
        subst hv
        unfold zm_rt at hr
        split at hr
        · unfold zm_rV at hr
          split at hr
          · rename_i e1
            cases e1
            exact ih _ _ _ _ _ _ hr
          · rename_i e1
            cases e1
          · cases hr
        · unfold zm_rI at hr
          split at hr
          · rename_i e1
            cases e1
            exact ih _ _ _ _ _ _ hr
          · rename_i e1
            cases e1
          · cases hr
        · unfold zm_rR at hr
          split at hr
          · rename_i e1
            cases e1
            exact ih _ _ _ _ _ _ hr
          · rename_i e1
            cases e1
          · cases hr
      · intro k hk
        obtain ⟨r10, h1⟩ := r1
        dsimp only at hk
        subst hk
        refine kx k h1 rfl ?_
        unfold zm_rt at hr
        split at hr
        · exact hr
        · exact hr
        · exact hr
  · unfold zm_rt at hr
    split at hr <;> cases hr
theorem zs_csum {st : List Value} {b : Nat} {as rr : List Value} {qs : List Nat} (h : Nat.ble (zm_cs st) 8 = true) (hv : zs_vs b qs st rr) : (rr.map fun v => v.category).sum ≤ 8 := by
  have h1 := Nat.le_of_ble_eq_true h
  rw [← hv.cat]
  exact h1
theorem zs_csum0 {st : List Value} (h : Nat.ble (zm_cs st) 8 = true) : (st.map fun v => v.category).sum ≤ 8 := Nat.le_of_ble_eq_true h
def zs_IH (l : Launch) (b L : Nat) (xs : Nat → Int32) (e : zm_K) : Prop := ∀ m i ls st h r, e (m, i, ls, st, h) = some r → zs_S l b L xs m i ls st h r

theorem zg_iadd (hall : zc_All) {e : zm_K} (ih : zs_IH l b L xs e) {m i bp len a b0 c : Nat} {v : Int32} {w : Int64} {ts : List Nat} {ls : zm_L} {st : List Value} {h : zm_H} {r : zm_R} (hc : (zm_cd m)[i]? = some (bp, .iadd, len, a, b0, c, v, w, ts)) (hr : zm_G (L, xs) e m i ls st h (.iadd) a b0 c v w ts = some r) : zs_S l b L xs m i ls st h r := by
  have hp : zm_pc m i = some bp := zm_pc_at hc
  obtain ⟨ps, hz⟩ := zc_at hall hc
  unfold zc_in at hz
  rw [Bool.and_eq_true, decide_eq_true_eq] at hz
  obtain ⟨hd, hz⟩ := hz
  unfold zm_G at hr
  dsimp only at hz hr
  rw [Bool.and_eq_true] at hz
  have hd := zc_dec hd hz.1
  have hn := zc_next hz.2
  split at hr
  · exact zs_pure hp hn rfl (zt_iadd hd) (ih _ _ _ _ _ _ hr)
  · cases hr
theorem zg_isub (hall : zc_All) {e : zm_K} (ih : zs_IH l b L xs e) {m i bp len a b0 c : Nat} {v : Int32} {w : Int64} {ts : List Nat} {ls : zm_L} {st : List Value} {h : zm_H} {r : zm_R} (hc : (zm_cd m)[i]? = some (bp, .isub, len, a, b0, c, v, w, ts)) (hr : zm_G (L, xs) e m i ls st h (.isub) a b0 c v w ts = some r) : zs_S l b L xs m i ls st h r := by
  have hp : zm_pc m i = some bp := zm_pc_at hc
  obtain ⟨ps, hz⟩ := zc_at hall hc
  unfold zc_in at hz
  rw [Bool.and_eq_true, decide_eq_true_eq] at hz
  obtain ⟨hd, hz⟩ := hz
  unfold zm_G at hr
  dsimp only at hz hr
  rw [Bool.and_eq_true] at hz
  have hd := zc_dec hd hz.1
  have hn := zc_next hz.2
  split at hr
  · exact zs_pure hp hn rfl (zt_isub hd) (ih _ _ _ _ _ _ hr)
  · cases hr
theorem zg_imul (hall : zc_All) {e : zm_K} (ih : zs_IH l b L xs e) {m i bp len a b0 c : Nat} {v : Int32} {w : Int64} {ts : List Nat} {ls : zm_L} {st : List Value} {h : zm_H} {r : zm_R} (hc : (zm_cd m)[i]? = some (bp, .imul, len, a, b0, c, v, w, ts)) (hr : zm_G (L, xs) e m i ls st h (.imul) a b0 c v w ts = some r) : zs_S l b L xs m i ls st h r := by
  have hp : zm_pc m i = some bp := zm_pc_at hc
  obtain ⟨ps, hz⟩ := zc_at hall hc
  unfold zc_in at hz
  rw [Bool.and_eq_true, decide_eq_true_eq] at hz
  obtain ⟨hd, hz⟩ := hz
  unfold zm_G at hr
  dsimp only at hz hr
  rw [Bool.and_eq_true] at hz
  have hd := zc_dec hd hz.1
  have hn := zc_next hz.2
  split at hr
  · exact zs_pure hp hn rfl (zt_imul hd) (ih _ _ _ _ _ _ hr)
  · cases hr
theorem zg_iand (hall : zc_All) {e : zm_K} (ih : zs_IH l b L xs e) {m i bp len a b0 c : Nat} {v : Int32} {w : Int64} {ts : List Nat} {ls : zm_L} {st : List Value} {h : zm_H} {r : zm_R} (hc : (zm_cd m)[i]? = some (bp, .iand, len, a, b0, c, v, w, ts)) (hr : zm_G (L, xs) e m i ls st h (.iand) a b0 c v w ts = some r) : zs_S l b L xs m i ls st h r := by
  have hp : zm_pc m i = some bp := zm_pc_at hc
  obtain ⟨ps, hz⟩ := zc_at hall hc
  unfold zc_in at hz
  rw [Bool.and_eq_true, decide_eq_true_eq] at hz
  obtain ⟨hd, hz⟩ := hz
  unfold zm_G at hr
  dsimp only at hz hr
  rw [Bool.and_eq_true] at hz
  have hd := zc_dec hd hz.1
  have hn := zc_next hz.2
  split at hr
  · exact zs_pure hp hn rfl (zt_iand hd) (ih _ _ _ _ _ _ hr)
  · cases hr
theorem zg_ior (hall : zc_All) {e : zm_K} (ih : zs_IH l b L xs e) {m i bp len a b0 c : Nat} {v : Int32} {w : Int64} {ts : List Nat} {ls : zm_L} {st : List Value} {h : zm_H} {r : zm_R} (hc : (zm_cd m)[i]? = some (bp, .ior, len, a, b0, c, v, w, ts)) (hr : zm_G (L, xs) e m i ls st h (.ior) a b0 c v w ts = some r) : zs_S l b L xs m i ls st h r := by
  have hp : zm_pc m i = some bp := zm_pc_at hc
  obtain ⟨ps, hz⟩ := zc_at hall hc
  unfold zc_in at hz
  rw [Bool.and_eq_true, decide_eq_true_eq] at hz
  obtain ⟨hd, hz⟩ := hz
  unfold zm_G at hr
  dsimp only at hz hr
  rw [Bool.and_eq_true] at hz
  have hd := zc_dec hd hz.1
  have hn := zc_next hz.2
  split at hr
  · exact zs_pure hp hn rfl (zt_ior hd) (ih _ _ _ _ _ _ hr)
  · cases hr
theorem zg_ixor (hall : zc_All) {e : zm_K} (ih : zs_IH l b L xs e) {m i bp len a b0 c : Nat} {v : Int32} {w : Int64} {ts : List Nat} {ls : zm_L} {st : List Value} {h : zm_H} {r : zm_R} (hc : (zm_cd m)[i]? = some (bp, .ixor, len, a, b0, c, v, w, ts)) (hr : zm_G (L, xs) e m i ls st h (.ixor) a b0 c v w ts = some r) : zs_S l b L xs m i ls st h r := by
  have hp : zm_pc m i = some bp := zm_pc_at hc
  obtain ⟨ps, hz⟩ := zc_at hall hc
  unfold zc_in at hz
  rw [Bool.and_eq_true, decide_eq_true_eq] at hz
  obtain ⟨hd, hz⟩ := hz
  unfold zm_G at hr
  dsimp only at hz hr
  rw [Bool.and_eq_true] at hz
  have hd := zc_dec hd hz.1
  have hn := zc_next hz.2
  split at hr
  · exact zs_pure hp hn rfl (zt_ixor hd) (ih _ _ _ _ _ _ hr)
  · cases hr
theorem zg_ishl (hall : zc_All) {e : zm_K} (ih : zs_IH l b L xs e) {m i bp len a b0 c : Nat} {v : Int32} {w : Int64} {ts : List Nat} {ls : zm_L} {st : List Value} {h : zm_H} {r : zm_R} (hc : (zm_cd m)[i]? = some (bp, .ishl, len, a, b0, c, v, w, ts)) (hr : zm_G (L, xs) e m i ls st h (.ishl) a b0 c v w ts = some r) : zs_S l b L xs m i ls st h r := by
  have hp : zm_pc m i = some bp := zm_pc_at hc
  obtain ⟨ps, hz⟩ := zc_at hall hc
  unfold zc_in at hz
  rw [Bool.and_eq_true, decide_eq_true_eq] at hz
  obtain ⟨hd, hz⟩ := hz
  unfold zm_G at hr
  dsimp only at hz hr
  rw [Bool.and_eq_true] at hz
  have hd := zc_dec hd hz.1
  have hn := zc_next hz.2
  split at hr
  · exact zs_pure hp hn rfl (zt_ishl hd) (ih _ _ _ _ _ _ hr)
  · cases hr
theorem zg_ishr (hall : zc_All) {e : zm_K} (ih : zs_IH l b L xs e) {m i bp len a b0 c : Nat} {v : Int32} {w : Int64} {ts : List Nat} {ls : zm_L} {st : List Value} {h : zm_H} {r : zm_R} (hc : (zm_cd m)[i]? = some (bp, .ishr, len, a, b0, c, v, w, ts)) (hr : zm_G (L, xs) e m i ls st h (.ishr) a b0 c v w ts = some r) : zs_S l b L xs m i ls st h r := by
  have hp : zm_pc m i = some bp := zm_pc_at hc
  obtain ⟨ps, hz⟩ := zc_at hall hc
  unfold zc_in at hz
  rw [Bool.and_eq_true, decide_eq_true_eq] at hz
  obtain ⟨hd, hz⟩ := hz
  unfold zm_G at hr
  dsimp only at hz hr
  rw [Bool.and_eq_true] at hz
  have hd := zc_dec hd hz.1
  have hn := zc_next hz.2
  split at hr
  · exact zs_pure hp hn rfl (zt_ishr hd) (ih _ _ _ _ _ _ hr)
  · cases hr
theorem zg_iushr (hall : zc_All) {e : zm_K} (ih : zs_IH l b L xs e) {m i bp len a b0 c : Nat} {v : Int32} {w : Int64} {ts : List Nat} {ls : zm_L} {st : List Value} {h : zm_H} {r : zm_R} (hc : (zm_cd m)[i]? = some (bp, .iushr, len, a, b0, c, v, w, ts)) (hr : zm_G (L, xs) e m i ls st h (.iushr) a b0 c v w ts = some r) : zs_S l b L xs m i ls st h r := by
  have hp : zm_pc m i = some bp := zm_pc_at hc
  obtain ⟨ps, hz⟩ := zc_at hall hc
  unfold zc_in at hz
  rw [Bool.and_eq_true, decide_eq_true_eq] at hz
  obtain ⟨hd, hz⟩ := hz
  unfold zm_G at hr
  dsimp only at hz hr
  rw [Bool.and_eq_true] at hz
  have hd := zc_dec hd hz.1
  have hn := zc_next hz.2
  split at hr
  · exact zs_pure hp hn rfl (zt_iushr hd) (ih _ _ _ _ _ _ hr)
  · cases hr
theorem zg_ladd (hall : zc_All) {e : zm_K} (ih : zs_IH l b L xs e) {m i bp len a b0 c : Nat} {v : Int32} {w : Int64} {ts : List Nat} {ls : zm_L} {st : List Value} {h : zm_H} {r : zm_R} (hc : (zm_cd m)[i]? = some (bp, .ladd, len, a, b0, c, v, w, ts)) (hr : zm_G (L, xs) e m i ls st h (.ladd) a b0 c v w ts = some r) : zs_S l b L xs m i ls st h r := by
  have hp : zm_pc m i = some bp := zm_pc_at hc
  obtain ⟨ps, hz⟩ := zc_at hall hc
  unfold zc_in at hz
  rw [Bool.and_eq_true, decide_eq_true_eq] at hz
  obtain ⟨hd, hz⟩ := hz
  unfold zm_G at hr
  dsimp only at hz hr
  rw [Bool.and_eq_true] at hz
  have hd := zc_dec hd hz.1
  have hn := zc_next hz.2
  split at hr
  · exact zs_pure hp hn rfl (zt_ladd hd) (ih _ _ _ _ _ _ hr)
  · cases hr
theorem zg_lmul (hall : zc_All) {e : zm_K} (ih : zs_IH l b L xs e) {m i bp len a b0 c : Nat} {v : Int32} {w : Int64} {ts : List Nat} {ls : zm_L} {st : List Value} {h : zm_H} {r : zm_R} (hc : (zm_cd m)[i]? = some (bp, .lmul, len, a, b0, c, v, w, ts)) (hr : zm_G (L, xs) e m i ls st h (.lmul) a b0 c v w ts = some r) : zs_S l b L xs m i ls st h r := by
  have hp : zm_pc m i = some bp := zm_pc_at hc
  obtain ⟨ps, hz⟩ := zc_at hall hc
  unfold zc_in at hz
  rw [Bool.and_eq_true, decide_eq_true_eq] at hz
  obtain ⟨hd, hz⟩ := hz
  unfold zm_G at hr
  dsimp only at hz hr
  rw [Bool.and_eq_true] at hz
  have hd := zc_dec hd hz.1
  have hn := zc_next hz.2
  split at hr
  · exact zs_pure hp hn rfl (zt_lmul hd) (ih _ _ _ _ _ _ hr)
  · cases hr
theorem zg_land (hall : zc_All) {e : zm_K} (ih : zs_IH l b L xs e) {m i bp len a b0 c : Nat} {v : Int32} {w : Int64} {ts : List Nat} {ls : zm_L} {st : List Value} {h : zm_H} {r : zm_R} (hc : (zm_cd m)[i]? = some (bp, .land, len, a, b0, c, v, w, ts)) (hr : zm_G (L, xs) e m i ls st h (.land) a b0 c v w ts = some r) : zs_S l b L xs m i ls st h r := by
  have hp : zm_pc m i = some bp := zm_pc_at hc
  obtain ⟨ps, hz⟩ := zc_at hall hc
  unfold zc_in at hz
  rw [Bool.and_eq_true, decide_eq_true_eq] at hz
  obtain ⟨hd, hz⟩ := hz
  unfold zm_G at hr
  dsimp only at hz hr
  rw [Bool.and_eq_true] at hz
  have hd := zc_dec hd hz.1
  have hn := zc_next hz.2
  split at hr
  · exact zs_pure hp hn rfl (zt_land hd) (ih _ _ _ _ _ _ hr)
  · cases hr
theorem zg_lor (hall : zc_All) {e : zm_K} (ih : zs_IH l b L xs e) {m i bp len a b0 c : Nat} {v : Int32} {w : Int64} {ts : List Nat} {ls : zm_L} {st : List Value} {h : zm_H} {r : zm_R} (hc : (zm_cd m)[i]? = some (bp, .lor, len, a, b0, c, v, w, ts)) (hr : zm_G (L, xs) e m i ls st h (.lor) a b0 c v w ts = some r) : zs_S l b L xs m i ls st h r := by
  have hp : zm_pc m i = some bp := zm_pc_at hc
  obtain ⟨ps, hz⟩ := zc_at hall hc
  unfold zc_in at hz
  rw [Bool.and_eq_true, decide_eq_true_eq] at hz
  obtain ⟨hd, hz⟩ := hz
  unfold zm_G at hr
  dsimp only at hz hr
  rw [Bool.and_eq_true] at hz
  have hd := zc_dec hd hz.1
  have hn := zc_next hz.2
  split at hr
  · exact zs_pure hp hn rfl (zt_lor hd) (ih _ _ _ _ _ _ hr)
  · cases hr
theorem zg_lshl (hall : zc_All) {e : zm_K} (ih : zs_IH l b L xs e) {m i bp len a b0 c : Nat} {v : Int32} {w : Int64} {ts : List Nat} {ls : zm_L} {st : List Value} {h : zm_H} {r : zm_R} (hc : (zm_cd m)[i]? = some (bp, .lshl, len, a, b0, c, v, w, ts)) (hr : zm_G (L, xs) e m i ls st h (.lshl) a b0 c v w ts = some r) : zs_S l b L xs m i ls st h r := by
  have hp : zm_pc m i = some bp := zm_pc_at hc
  obtain ⟨ps, hz⟩ := zc_at hall hc
  unfold zc_in at hz
  rw [Bool.and_eq_true, decide_eq_true_eq] at hz
  obtain ⟨hd, hz⟩ := hz
  unfold zm_G at hr
  dsimp only at hz hr
  rw [Bool.and_eq_true] at hz
  have hd := zc_dec hd hz.1
  have hn := zc_next hz.2
  split at hr
  · exact zs_pure hp hn rfl (zt_lshl hd) (ih _ _ _ _ _ _ hr)
  · cases hr
theorem zg_lushr (hall : zc_All) {e : zm_K} (ih : zs_IH l b L xs e) {m i bp len a b0 c : Nat} {v : Int32} {w : Int64} {ts : List Nat} {ls : zm_L} {st : List Value} {h : zm_H} {r : zm_R} (hc : (zm_cd m)[i]? = some (bp, .lushr, len, a, b0, c, v, w, ts)) (hr : zm_G (L, xs) e m i ls st h (.lushr) a b0 c v w ts = some r) : zs_S l b L xs m i ls st h r := by
  have hp : zm_pc m i = some bp := zm_pc_at hc
  obtain ⟨ps, hz⟩ := zc_at hall hc
  unfold zc_in at hz
  rw [Bool.and_eq_true, decide_eq_true_eq] at hz
  obtain ⟨hd, hz⟩ := hz
  unfold zm_G at hr
  dsimp only at hz hr
  rw [Bool.and_eq_true] at hz
  have hd := zc_dec hd hz.1
  have hn := zc_next hz.2
  split at hr
  · exact zs_pure hp hn rfl (zt_lushr hd) (ih _ _ _ _ _ _ hr)
  · cases hr
theorem zg_lcmp (hall : zc_All) {e : zm_K} (ih : zs_IH l b L xs e) {m i bp len a b0 c : Nat} {v : Int32} {w : Int64} {ts : List Nat} {ls : zm_L} {st : List Value} {h : zm_H} {r : zm_R} (hc : (zm_cd m)[i]? = some (bp, .lcmp, len, a, b0, c, v, w, ts)) (hr : zm_G (L, xs) e m i ls st h (.lcmp) a b0 c v w ts = some r) : zs_S l b L xs m i ls st h r := by
  have hp : zm_pc m i = some bp := zm_pc_at hc
  obtain ⟨ps, hz⟩ := zc_at hall hc
  unfold zc_in at hz
  rw [Bool.and_eq_true, decide_eq_true_eq] at hz
  obtain ⟨hd, hz⟩ := hz
  unfold zm_G at hr
  dsimp only at hz hr
  rw [Bool.and_eq_true] at hz
  have hd := zc_dec hd hz.1
  have hn := zc_next hz.2
  split at hr
  · exact zs_pure hp hn rfl (zt_lcmp hd) (ih _ _ _ _ _ _ hr)
  · cases hr
theorem zg_i2l (hall : zc_All) {e : zm_K} (ih : zs_IH l b L xs e) {m i bp len a b0 c : Nat} {v : Int32} {w : Int64} {ts : List Nat} {ls : zm_L} {st : List Value} {h : zm_H} {r : zm_R} (hc : (zm_cd m)[i]? = some (bp, .i2l, len, a, b0, c, v, w, ts)) (hr : zm_G (L, xs) e m i ls st h (.i2l) a b0 c v w ts = some r) : zs_S l b L xs m i ls st h r := by
  have hp : zm_pc m i = some bp := zm_pc_at hc
  obtain ⟨ps, hz⟩ := zc_at hall hc
  unfold zc_in at hz
  rw [Bool.and_eq_true, decide_eq_true_eq] at hz
  obtain ⟨hd, hz⟩ := hz
  unfold zm_G at hr
  dsimp only at hz hr
  rw [Bool.and_eq_true] at hz
  have hd := zc_dec hd hz.1
  have hn := zc_next hz.2
  split at hr
  · exact zs_pure hp hn rfl (zt_i2l hd) (ih _ _ _ _ _ _ hr)
  · cases hr
theorem zg_l2i (hall : zc_All) {e : zm_K} (ih : zs_IH l b L xs e) {m i bp len a b0 c : Nat} {v : Int32} {w : Int64} {ts : List Nat} {ls : zm_L} {st : List Value} {h : zm_H} {r : zm_R} (hc : (zm_cd m)[i]? = some (bp, .l2i, len, a, b0, c, v, w, ts)) (hr : zm_G (L, xs) e m i ls st h (.l2i) a b0 c v w ts = some r) : zs_S l b L xs m i ls st h r := by
  have hp : zm_pc m i = some bp := zm_pc_at hc
  obtain ⟨ps, hz⟩ := zc_at hall hc
  unfold zc_in at hz
  rw [Bool.and_eq_true, decide_eq_true_eq] at hz
  obtain ⟨hd, hz⟩ := hz
  unfold zm_G at hr
  dsimp only at hz hr
  rw [Bool.and_eq_true] at hz
  have hd := zc_dec hd hz.1
  have hn := zc_next hz.2
  split at hr
  · exact zs_pure hp hn rfl (zt_l2i hd) (ih _ _ _ _ _ _ hr)
  · cases hr
theorem zg_idiv (hall : zc_All) {e : zm_K} (ih : zs_IH l b L xs e) {m i bp len a b0 c : Nat} {v : Int32} {w : Int64} {ts : List Nat} {ls : zm_L} {st : List Value} {h : zm_H} {r : zm_R} (hc : (zm_cd m)[i]? = some (bp, .idiv, len, a, b0, c, v, w, ts)) (hr : zm_G (L, xs) e m i ls st h (.idiv) a b0 c v w ts = some r) : zs_S l b L xs m i ls st h r := by
  have hp : zm_pc m i = some bp := zm_pc_at hc
  obtain ⟨ps, hz⟩ := zc_at hall hc
  unfold zc_in at hz
  rw [Bool.and_eq_true, decide_eq_true_eq] at hz
  obtain ⟨hd, hz⟩ := hz
  unfold zm_G at hr
  dsimp only at hz hr
  rw [Bool.and_eq_true] at hz
  have hd := zc_dec hd hz.1
  have hn := zc_next hz.2
  split at hr
  · split at hr
    · cases hr
    · exact zs_pure hp hn rfl (zt_idiv ‹_› hd) (ih _ _ _ _ _ _ hr)
  · cases hr
theorem zg_irem (hall : zc_All) {e : zm_K} (ih : zs_IH l b L xs e) {m i bp len a b0 c : Nat} {v : Int32} {w : Int64} {ts : List Nat} {ls : zm_L} {st : List Value} {h : zm_H} {r : zm_R} (hc : (zm_cd m)[i]? = some (bp, .irem, len, a, b0, c, v, w, ts)) (hr : zm_G (L, xs) e m i ls st h (.irem) a b0 c v w ts = some r) : zs_S l b L xs m i ls st h r := by
  have hp : zm_pc m i = some bp := zm_pc_at hc
  obtain ⟨ps, hz⟩ := zc_at hall hc
  unfold zc_in at hz
  rw [Bool.and_eq_true, decide_eq_true_eq] at hz
  obtain ⟨hd, hz⟩ := hz
  unfold zm_G at hr
  dsimp only at hz hr
  rw [Bool.and_eq_true] at hz
  have hd := zc_dec hd hz.1
  have hn := zc_next hz.2
  split at hr
  · split at hr
    · cases hr
    · exact zs_pure hp hn rfl (zt_irem ‹_› hd) (ih _ _ _ _ _ _ hr)
  · cases hr
theorem zg_ldiv (hall : zc_All) {e : zm_K} (ih : zs_IH l b L xs e) {m i bp len a b0 c : Nat} {v : Int32} {w : Int64} {ts : List Nat} {ls : zm_L} {st : List Value} {h : zm_H} {r : zm_R} (hc : (zm_cd m)[i]? = some (bp, .ldiv, len, a, b0, c, v, w, ts)) (hr : zm_G (L, xs) e m i ls st h (.ldiv) a b0 c v w ts = some r) : zs_S l b L xs m i ls st h r := by
  have hp : zm_pc m i = some bp := zm_pc_at hc
  obtain ⟨ps, hz⟩ := zc_at hall hc
  unfold zc_in at hz
  rw [Bool.and_eq_true, decide_eq_true_eq] at hz
  obtain ⟨hd, hz⟩ := hz
  unfold zm_G at hr
  dsimp only at hz hr
  rw [Bool.and_eq_true] at hz
  have hd := zc_dec hd hz.1
  have hn := zc_next hz.2
  split at hr
  · split at hr
    · cases hr
    · exact zs_pure hp hn rfl (zt_ldiv ‹_› hd) (ih _ _ _ _ _ _ hr)
  · cases hr
theorem zg_lrem (hall : zc_All) {e : zm_K} (ih : zs_IH l b L xs e) {m i bp len a b0 c : Nat} {v : Int32} {w : Int64} {ts : List Nat} {ls : zm_L} {st : List Value} {h : zm_H} {r : zm_R} (hc : (zm_cd m)[i]? = some (bp, .lrem, len, a, b0, c, v, w, ts)) (hr : zm_G (L, xs) e m i ls st h (.lrem) a b0 c v w ts = some r) : zs_S l b L xs m i ls st h r := by
  have hp : zm_pc m i = some bp := zm_pc_at hc
  obtain ⟨ps, hz⟩ := zc_at hall hc
  unfold zc_in at hz
  rw [Bool.and_eq_true, decide_eq_true_eq] at hz
  obtain ⟨hd, hz⟩ := hz
  unfold zm_G at hr
  dsimp only at hz hr
  rw [Bool.and_eq_true] at hz
  have hd := zc_dec hd hz.1
  have hn := zc_next hz.2
  split at hr
  · split at hr
    · cases hr
    · exact zs_pure hp hn rfl (zt_lrem ‹_› hd) (ih _ _ _ _ _ _ hr)
  · cases hr
theorem zg_iconst (hall : zc_All) {e : zm_K} (ih : zs_IH l b L xs e) {m i bp len a b0 c : Nat} {v : Int32} {w : Int64} {ts : List Nat} {ls : zm_L} {st : List Value} {h : zm_H} {r : zm_R} {n : Int} (hc : (zm_cd m)[i]? = some (bp, .iconst n, len, a, b0, c, v, w, ts)) (hr : zm_G (L, xs) e m i ls st h (.iconst n) a b0 c v w ts = some r) : zs_S l b L xs m i ls st h r := by
  have hp : zm_pc m i = some bp := zm_pc_at hc
  obtain ⟨ps, hz⟩ := zc_at hall hc
  unfold zc_in at hz
  rw [Bool.and_eq_true, decide_eq_true_eq] at hz
  obtain ⟨hd, hz⟩ := hz
  unfold zm_G at hr
  dsimp only at hz hr
  simp only [Bool.and_eq_true, decide_eq_true_eq] at hz
  have hd := zc_dec hd hz.1.2
  have hn := zc_next hz.2
  exact zs_pure hp hn rfl (zt_iconst hz.1.1 hd) (ih _ _ _ _ _ _ hr)
theorem zg_bipush (hall : zc_All) {e : zm_K} (ih : zs_IH l b L xs e) {m i bp len a b0 c : Nat} {v : Int32} {w : Int64} {ts : List Nat} {ls : zm_L} {st : List Value} {h : zm_H} {r : zm_R} {n : Int} (hc : (zm_cd m)[i]? = some (bp, .bipush n, len, a, b0, c, v, w, ts)) (hr : zm_G (L, xs) e m i ls st h (.bipush n) a b0 c v w ts = some r) : zs_S l b L xs m i ls st h r := by
  have hp : zm_pc m i = some bp := zm_pc_at hc
  obtain ⟨ps, hz⟩ := zc_at hall hc
  unfold zc_in at hz
  rw [Bool.and_eq_true, decide_eq_true_eq] at hz
  obtain ⟨hd, hz⟩ := hz
  unfold zm_G at hr
  dsimp only at hz hr
  simp only [Bool.and_eq_true, decide_eq_true_eq] at hz
  have hd := zc_dec hd hz.1.2
  have hn := zc_next hz.2
  exact zs_pure hp hn rfl (zt_bipush hz.1.1 hd) (ih _ _ _ _ _ _ hr)
theorem zg_sipush (hall : zc_All) {e : zm_K} (ih : zs_IH l b L xs e) {m i bp len a b0 c : Nat} {v : Int32} {w : Int64} {ts : List Nat} {ls : zm_L} {st : List Value} {h : zm_H} {r : zm_R} {n : Int} (hc : (zm_cd m)[i]? = some (bp, .sipush n, len, a, b0, c, v, w, ts)) (hr : zm_G (L, xs) e m i ls st h (.sipush n) a b0 c v w ts = some r) : zs_S l b L xs m i ls st h r := by
  have hp : zm_pc m i = some bp := zm_pc_at hc
  obtain ⟨ps, hz⟩ := zc_at hall hc
  unfold zc_in at hz
  rw [Bool.and_eq_true, decide_eq_true_eq] at hz
  obtain ⟨hd, hz⟩ := hz
  unfold zm_G at hr
  dsimp only at hz hr
  simp only [Bool.and_eq_true, decide_eq_true_eq] at hz
  have hd := zc_dec hd hz.1.2
  have hn := zc_next hz.2
  exact zs_pure hp hn rfl (zt_sipush hz.1.1 hd) (ih _ _ _ _ _ _ hr)
theorem zg_lconst (hall : zc_All) {e : zm_K} (ih : zs_IH l b L xs e) {m i bp len a b0 c : Nat} {v : Int32} {w : Int64} {ts : List Nat} {ls : zm_L} {st : List Value} {h : zm_H} {r : zm_R} {n : Fin 2} (hc : (zm_cd m)[i]? = some (bp, .lconst n, len, a, b0, c, v, w, ts)) (hr : zm_G (L, xs) e m i ls st h (.lconst n) a b0 c v w ts = some r) : zs_S l b L xs m i ls st h r := by
  have hp : zm_pc m i = some bp := zm_pc_at hc
  obtain ⟨ps, hz⟩ := zc_at hall hc
  unfold zc_in at hz
  rw [Bool.and_eq_true, decide_eq_true_eq] at hz
  obtain ⟨hd, hz⟩ := hz
  unfold zm_G at hr
  dsimp only at hz hr
  simp only [Bool.and_eq_true, decide_eq_true_eq] at hz
  have hd := zc_dec hd hz.1.2
  have hn := zc_next hz.2
  exact zs_pure hp hn rfl (zt_lconst hz.1.1 hd) (ih _ _ _ _ _ _ hr)
theorem zg_ldc (hall : zc_All) {e : zm_K} (ih : zs_IH l b L xs e) {m i bp len a b0 c : Nat} {v : Int32} {w : Int64} {ts : List Nat} {ls : zm_L} {st : List Value} {h : zm_H} {r : zm_R} {n : Nat} (hc : (zm_cd m)[i]? = some (bp, .ldc n, len, a, b0, c, v, w, ts)) (hr : zm_G (L, xs) e m i ls st h (.ldc n) a b0 c v w ts = some r) : zs_S l b L xs m i ls st h r := by
  have hp : zm_pc m i = some bp := zm_pc_at hc
  obtain ⟨ps, hz⟩ := zc_at hall hc
  unfold zc_in at hz
  rw [Bool.and_eq_true, decide_eq_true_eq] at hz
  obtain ⟨hd, hz⟩ := hz
  unfold zm_G at hr
  dsimp only at hz hr
  split at hr
  · split at hz
    · split at hz
      · simp only [Bool.and_eq_true] at hz
        have hd := zc_dec hd hz.1.2
        have hn := zc_next hz.2
        exact zs_pure hp hn rfl (zt_ldc (zc_okw hz.1.1) hd) (ih _ _ _ _ _ _ hr)
      · cases hz
    · rename_i n9
      exact (n9 rfl).elim
  · cases hr
theorem zg_ldc_w (hall : zc_All) {e : zm_K} (ih : zs_IH l b L xs e) {m i bp len a b0 c : Nat} {v : Int32} {w : Int64} {ts : List Nat} {ls : zm_L} {st : List Value} {h : zm_H} {r : zm_R} {n : Nat} (hc : (zm_cd m)[i]? = some (bp, .ldc_w n, len, a, b0, c, v, w, ts)) (hr : zm_G (L, xs) e m i ls st h (.ldc_w n) a b0 c v w ts = some r) : zs_S l b L xs m i ls st h r := by
  have hp : zm_pc m i = some bp := zm_pc_at hc
  obtain ⟨ps, hz⟩ := zc_at hall hc
  unfold zc_in at hz
  rw [Bool.and_eq_true, decide_eq_true_eq] at hz
  obtain ⟨hd, hz⟩ := hz
  unfold zm_G at hr
  dsimp only at hz hr
  split at hr
  · split at hz
    · split at hz
      · simp only [Bool.and_eq_true] at hz
        have hd := zc_dec hd hz.1.2
        have hn := zc_next hz.2
        exact zs_pure hp hn rfl (zt_const (zc_okw hz.1.1) hd) (ih _ _ _ _ _ _ hr)
      · cases hz
    · rename_i n9
      exact (n9 rfl).elim
  · cases hr
theorem zg_ldc2_w (hall : zc_All) {e : zm_K} (ih : zs_IH l b L xs e) {m i bp len a b0 c : Nat} {v : Int32} {w : Int64} {ts : List Nat} {ls : zm_L} {st : List Value} {h : zm_H} {r : zm_R} {n : Nat} (hc : (zm_cd m)[i]? = some (bp, .ldc2_w n, len, a, b0, c, v, w, ts)) (hr : zm_G (L, xs) e m i ls st h (.ldc2_w n) a b0 c v w ts = some r) : zs_S l b L xs m i ls st h r := by
  have hp : zm_pc m i = some bp := zm_pc_at hc
  obtain ⟨ps, hz⟩ := zc_at hall hc
  unfold zc_in at hz
  rw [Bool.and_eq_true, decide_eq_true_eq] at hz
  obtain ⟨hd, hz⟩ := hz
  unfold zm_G at hr
  dsimp only at hz hr
  split at hz
  · simp only [Bool.and_eq_true] at hz
    have hd := zc_dec hd hz.1.2
    have hn := zc_next hz.2
    exact zs_pure hp hn rfl (zt_constL (zc_okw hz.1.1) hd) (ih _ _ _ _ _ _ hr)
  · cases hz
theorem zg_iload_n (hall : zc_All) {e : zm_K} (ih : zs_IH l b L xs e) {m i bp len a b0 c : Nat} {v : Int32} {w : Int64} {ts : List Nat} {ls : zm_L} {st : List Value} {h : zm_H} {r : zm_R} {k : Fin 4} (hc : (zm_cd m)[i]? = some (bp, .iload_n k, len, a, b0, c, v, w, ts)) (hr : zm_G (L, xs) e m i ls st h (.iload_n k) a b0 c v w ts = some r) : zs_S l b L xs m i ls st h r := by
  have hp : zm_pc m i = some bp := zm_pc_at hc
  obtain ⟨ps, hz⟩ := zc_at hall hc
  unfold zc_in at hz
  rw [Bool.and_eq_true, decide_eq_true_eq] at hz
  obtain ⟨hd, hz⟩ := hz
  unfold zm_G at hr
  dsimp only at hz hr
  simp only [Bool.and_eq_true] at hz
  have hd := zc_dec hd hz.1.2
  have hn := zc_next hz.2
  split at hr
  · rename_i x hx
    exact zs_pure hp hn rfl (zt_iload_n (Nat.eq_of_beq_eq_true hz.1.1) hx hd) (ih _ _ _ _ _ _ hr)
  · cases hr
theorem zg_iload (hall : zc_All) {e : zm_K} (ih : zs_IH l b L xs e) {m i bp len a b0 c : Nat} {v : Int32} {w : Int64} {ts : List Nat} {ls : zm_L} {st : List Value} {h : zm_H} {r : zm_R} {k : Nat} (hc : (zm_cd m)[i]? = some (bp, .iload k, len, a, b0, c, v, w, ts)) (hr : zm_G (L, xs) e m i ls st h (.iload k) a b0 c v w ts = some r) : zs_S l b L xs m i ls st h r := by
  have hp : zm_pc m i = some bp := zm_pc_at hc
  obtain ⟨ps, hz⟩ := zc_at hall hc
  unfold zc_in at hz
  rw [Bool.and_eq_true, decide_eq_true_eq] at hz
  obtain ⟨hd, hz⟩ := hz
  unfold zm_G at hr
  dsimp only at hz hr
  simp only [Bool.and_eq_true] at hz
  have hd := zc_dec hd hz.1.2
  have hn := zc_next hz.2
  have hk := Nat.eq_of_beq_eq_true hz.1.1
  subst hk
  split at hr
  · rename_i x hx
    exact zs_pure hp hn rfl (zt_iload hx hd) (ih _ _ _ _ _ _ hr)
  · cases hr
theorem zg_lload_n (hall : zc_All) {e : zm_K} (ih : zs_IH l b L xs e) {m i bp len a b0 c : Nat} {v : Int32} {w : Int64} {ts : List Nat} {ls : zm_L} {st : List Value} {h : zm_H} {r : zm_R} {k : Fin 4} (hc : (zm_cd m)[i]? = some (bp, .lload_n k, len, a, b0, c, v, w, ts)) (hr : zm_G (L, xs) e m i ls st h (.lload_n k) a b0 c v w ts = some r) : zs_S l b L xs m i ls st h r := by
  have hp : zm_pc m i = some bp := zm_pc_at hc
  obtain ⟨ps, hz⟩ := zc_at hall hc
  unfold zc_in at hz
  rw [Bool.and_eq_true, decide_eq_true_eq] at hz
  obtain ⟨hd, hz⟩ := hz
  unfold zm_G at hr
  dsimp only at hz hr
  simp only [Bool.and_eq_true] at hz
  have hd := zc_dec hd hz.1.2
  have hn := zc_next hz.2
  split at hr
  · rename_i x hx
    exact zs_pure hp hn rfl (zt_lload_n (Nat.eq_of_beq_eq_true hz.1.1) hx hd) (ih _ _ _ _ _ _ hr)
  · cases hr
theorem zg_lload (hall : zc_All) {e : zm_K} (ih : zs_IH l b L xs e) {m i bp len a b0 c : Nat} {v : Int32} {w : Int64} {ts : List Nat} {ls : zm_L} {st : List Value} {h : zm_H} {r : zm_R} {k : Nat} (hc : (zm_cd m)[i]? = some (bp, .lload k, len, a, b0, c, v, w, ts)) (hr : zm_G (L, xs) e m i ls st h (.lload k) a b0 c v w ts = some r) : zs_S l b L xs m i ls st h r := by
  have hp : zm_pc m i = some bp := zm_pc_at hc
  obtain ⟨ps, hz⟩ := zc_at hall hc
  unfold zc_in at hz
  rw [Bool.and_eq_true, decide_eq_true_eq] at hz
  obtain ⟨hd, hz⟩ := hz
  unfold zm_G at hr
  dsimp only at hz hr
  simp only [Bool.and_eq_true] at hz
  have hd := zc_dec hd hz.1.2
  have hn := zc_next hz.2
  have hk := Nat.eq_of_beq_eq_true hz.1.1
  subst hk
  split at hr
  · rename_i x hx
    exact zs_pure hp hn rfl (zt_lload hx hd) (ih _ _ _ _ _ _ hr)
  · cases hr
theorem zg_aload_n (hall : zc_All) {e : zm_K} (ih : zs_IH l b L xs e) {m i bp len a b0 c : Nat} {v : Int32} {w : Int64} {ts : List Nat} {ls : zm_L} {st : List Value} {h : zm_H} {r : zm_R} {k : Fin 4} (hc : (zm_cd m)[i]? = some (bp, .aload_n k, len, a, b0, c, v, w, ts)) (hr : zm_G (L, xs) e m i ls st h (.aload_n k) a b0 c v w ts = some r) : zs_S l b L xs m i ls st h r := by
  have hp : zm_pc m i = some bp := zm_pc_at hc
  obtain ⟨ps, hz⟩ := zc_at hall hc
  unfold zc_in at hz
  rw [Bool.and_eq_true, decide_eq_true_eq] at hz
  obtain ⟨hd, hz⟩ := hz
  unfold zm_G at hr
  dsimp only at hz hr
  simp only [Bool.and_eq_true] at hz
  have hd := zc_dec hd hz.1.2
  have hn := zc_next hz.2
  split at hr
  · rename_i x hx
    exact zs_pure hp hn rfl (zt_aload_n (Nat.eq_of_beq_eq_true hz.1.1) hx hd) (ih _ _ _ _ _ _ hr)
  · rename_i x hx
    exact zs_pure hp hn rfl (zt_aload_s (Nat.eq_of_beq_eq_true hz.1.1) hx hd) (ih _ _ _ _ _ _ hr)
  · cases hr
theorem zg_aload (hall : zc_All) {e : zm_K} (ih : zs_IH l b L xs e) {m i bp len a b0 c : Nat} {v : Int32} {w : Int64} {ts : List Nat} {ls : zm_L} {st : List Value} {h : zm_H} {r : zm_R} {k : Nat} (hc : (zm_cd m)[i]? = some (bp, .aload k, len, a, b0, c, v, w, ts)) (hr : zm_G (L, xs) e m i ls st h (.aload k) a b0 c v w ts = some r) : zs_S l b L xs m i ls st h r := by
  have hp : zm_pc m i = some bp := zm_pc_at hc
  obtain ⟨ps, hz⟩ := zc_at hall hc
  unfold zc_in at hz
  rw [Bool.and_eq_true, decide_eq_true_eq] at hz
  obtain ⟨hd, hz⟩ := hz
  unfold zm_G at hr
  dsimp only at hz hr
  simp only [Bool.and_eq_true] at hz
  have hd := zc_dec hd hz.1.2
  have hn := zc_next hz.2
  have hk := Nat.eq_of_beq_eq_true hz.1.1
  subst hk
  split at hr
  · rename_i x hx
    exact zs_pure hp hn rfl (zt_aload hx hd) (ih _ _ _ _ _ _ hr)
  · cases hr
theorem zg_istore_n (hall : zc_All) {e : zm_K} (ih : zs_IH l b L xs e) {m i bp len a b0 c : Nat} {v : Int32} {w : Int64} {ts : List Nat} {ls : zm_L} {st : List Value} {h : zm_H} {r : zm_R} {k : Fin 4} (hc : (zm_cd m)[i]? = some (bp, .istore_n k, len, a, b0, c, v, w, ts)) (hr : zm_G (L, xs) e m i ls st h (.istore_n k) a b0 c v w ts = some r) : zs_S l b L xs m i ls st h r := by
  have hp : zm_pc m i = some bp := zm_pc_at hc
  obtain ⟨ps, hz⟩ := zc_at hall hc
  unfold zc_in at hz
  rw [Bool.and_eq_true, decide_eq_true_eq] at hz
  obtain ⟨hd, hz⟩ := hz
  unfold zm_G at hr
  dsimp only at hz hr
  simp only [Bool.and_eq_true] at hz
  have hd := zc_dec hd hz.1.2
  have hn := zc_next hz.2
  split at hr
  · exact zs_pure hp hn (by simp only [zm_s1, List.length_set, zs_cut_len]) (zt_istore_n (Nat.eq_of_beq_eq_true hz.1.1.1) (Nat.le_of_ble_eq_true hz.1.1.2) hd) (ih _ _ _ _ _ _ hr)
  · cases hr
theorem zg_istore (hall : zc_All) {e : zm_K} (ih : zs_IH l b L xs e) {m i bp len a b0 c : Nat} {v : Int32} {w : Int64} {ts : List Nat} {ls : zm_L} {st : List Value} {h : zm_H} {r : zm_R} {k : Nat} (hc : (zm_cd m)[i]? = some (bp, .istore k, len, a, b0, c, v, w, ts)) (hr : zm_G (L, xs) e m i ls st h (.istore k) a b0 c v w ts = some r) : zs_S l b L xs m i ls st h r := by
  have hp : zm_pc m i = some bp := zm_pc_at hc
  obtain ⟨ps, hz⟩ := zc_at hall hc
  unfold zc_in at hz
  rw [Bool.and_eq_true, decide_eq_true_eq] at hz
  obtain ⟨hd, hz⟩ := hz
  unfold zm_G at hr
  dsimp only at hz hr
  simp only [Bool.and_eq_true] at hz
  have hd := zc_dec hd hz.1.2
  have hn := zc_next hz.2
  have hk := Nat.eq_of_beq_eq_true hz.1.1.1
  subst hk
  split at hr
  · exact zs_pure hp hn (by simp only [zm_s1, List.length_set, zs_cut_len]) (zt_istore (Nat.le_of_ble_eq_true hz.1.1.2) hd) (ih _ _ _ _ _ _ hr)
  · cases hr
theorem zg_lstore_n (hall : zc_All) {e : zm_K} (ih : zs_IH l b L xs e) {m i bp len a b0 c : Nat} {v : Int32} {w : Int64} {ts : List Nat} {ls : zm_L} {st : List Value} {h : zm_H} {r : zm_R} {k : Fin 4} (hc : (zm_cd m)[i]? = some (bp, .lstore_n k, len, a, b0, c, v, w, ts)) (hr : zm_G (L, xs) e m i ls st h (.lstore_n k) a b0 c v w ts = some r) : zs_S l b L xs m i ls st h r := by
  have hp : zm_pc m i = some bp := zm_pc_at hc
  obtain ⟨ps, hz⟩ := zc_at hall hc
  unfold zc_in at hz
  rw [Bool.and_eq_true, decide_eq_true_eq] at hz
  obtain ⟨hd, hz⟩ := hz
  unfold zm_G at hr
  dsimp only at hz hr
  simp only [Bool.and_eq_true] at hz
  have hd := zc_dec hd hz.1.2
  have hn := zc_next hz.2
  split at hr
  · exact zs_pure hp hn (by simp only [zm_s2, List.length_set, zs_cut_len]) (zt_lstore_n (Nat.eq_of_beq_eq_true hz.1.1.1) (Nat.le_of_ble_eq_true hz.1.1.2) hd) (ih _ _ _ _ _ _ hr)
  · cases hr
theorem zg_lstore (hall : zc_All) {e : zm_K} (ih : zs_IH l b L xs e) {m i bp len a b0 c : Nat} {v : Int32} {w : Int64} {ts : List Nat} {ls : zm_L} {st : List Value} {h : zm_H} {r : zm_R} {k : Nat} (hc : (zm_cd m)[i]? = some (bp, .lstore k, len, a, b0, c, v, w, ts)) (hr : zm_G (L, xs) e m i ls st h (.lstore k) a b0 c v w ts = some r) : zs_S l b L xs m i ls st h r := by
  have hp : zm_pc m i = some bp := zm_pc_at hc
  obtain ⟨ps, hz⟩ := zc_at hall hc
  unfold zc_in at hz
  rw [Bool.and_eq_true, decide_eq_true_eq] at hz
  obtain ⟨hd, hz⟩ := hz
  unfold zm_G at hr
  dsimp only at hz hr
  simp only [Bool.and_eq_true] at hz
  have hd := zc_dec hd hz.1.2
  have hn := zc_next hz.2
  have hk := Nat.eq_of_beq_eq_true hz.1.1.1
  subst hk
  split at hr
  · exact zs_pure hp hn (by simp only [zm_s2, List.length_set, zs_cut_len]) (zt_lstore (Nat.le_of_ble_eq_true hz.1.1.2) hd) (ih _ _ _ _ _ _ hr)
  · cases hr
theorem zg_astore_n (hall : zc_All) {e : zm_K} (ih : zs_IH l b L xs e) {m i bp len a b0 c : Nat} {v : Int32} {w : Int64} {ts : List Nat} {ls : zm_L} {st : List Value} {h : zm_H} {r : zm_R} {k : Fin 4} (hc : (zm_cd m)[i]? = some (bp, .astore_n k, len, a, b0, c, v, w, ts)) (hr : zm_G (L, xs) e m i ls st h (.astore_n k) a b0 c v w ts = some r) : zs_S l b L xs m i ls st h r := by
  have hp : zm_pc m i = some bp := zm_pc_at hc
  obtain ⟨ps, hz⟩ := zc_at hall hc
  unfold zc_in at hz
  rw [Bool.and_eq_true, decide_eq_true_eq] at hz
  obtain ⟨hd, hz⟩ := hz
  unfold zm_G at hr
  dsimp only at hz hr
  simp only [Bool.and_eq_true] at hz
  have hd := zc_dec hd hz.1.2
  have hn := zc_next hz.2
  split at hr
  · exact zs_pure hp hn (by simp only [zm_s1, List.length_set, zs_cut_len]) (zt_astore_n (Nat.eq_of_beq_eq_true hz.1.1.1) (Nat.le_of_ble_eq_true hz.1.1.2) hd) (ih _ _ _ _ _ _ hr)
  · cases hr
theorem zg_astore (hall : zc_All) {e : zm_K} (ih : zs_IH l b L xs e) {m i bp len a b0 c : Nat} {v : Int32} {w : Int64} {ts : List Nat} {ls : zm_L} {st : List Value} {h : zm_H} {r : zm_R} {k : Nat} (hc : (zm_cd m)[i]? = some (bp, .astore k, len, a, b0, c, v, w, ts)) (hr : zm_G (L, xs) e m i ls st h (.astore k) a b0 c v w ts = some r) : zs_S l b L xs m i ls st h r := by
  have hp : zm_pc m i = some bp := zm_pc_at hc
  obtain ⟨ps, hz⟩ := zc_at hall hc
  unfold zc_in at hz
  rw [Bool.and_eq_true, decide_eq_true_eq] at hz
  obtain ⟨hd, hz⟩ := hz
  unfold zm_G at hr
  dsimp only at hz hr
  simp only [Bool.and_eq_true] at hz
  have hd := zc_dec hd hz.1.2
  have hn := zc_next hz.2
  have hk := Nat.eq_of_beq_eq_true hz.1.1.1
  subst hk
  split at hr
  · exact zs_pure hp hn (by simp only [zm_s1, List.length_set, zs_cut_len]) (zt_astore (Nat.le_of_ble_eq_true hz.1.1.2) hd) (ih _ _ _ _ _ _ hr)
  · cases hr
theorem zg_iinc (hall : zc_All) {e : zm_K} (ih : zs_IH l b L xs e) {m i bp len a b0 c : Nat} {v : Int32} {w : Int64} {ts : List Nat} {ls : zm_L} {st : List Value} {h : zm_H} {r : zm_R} {k : Nat} {n : Int} (hc : (zm_cd m)[i]? = some (bp, .iinc k n, len, a, b0, c, v, w, ts)) (hr : zm_G (L, xs) e m i ls st h (.iinc k n) a b0 c v w ts = some r) : zs_S l b L xs m i ls st h r := by
  have hp : zm_pc m i = some bp := zm_pc_at hc
  obtain ⟨ps, hz⟩ := zc_at hall hc
  unfold zc_in at hz
  rw [Bool.and_eq_true, decide_eq_true_eq] at hz
  obtain ⟨hd, hz⟩ := hz
  unfold zm_G at hr
  dsimp only at hz hr
  simp only [Bool.and_eq_true, decide_eq_true_eq] at hz
  have hd := zc_dec hd hz.1.2
  have hn := zc_next hz.2
  have hk := Nat.eq_of_beq_eq_true hz.1.1.1.1
  subst hk
  split at hr
  · rename_i x hx
    exact zs_pure hp hn (by simp only [zm_s1, List.length_set, zs_cut_len]) (zt_iinc hx hz.1.1.2 (Nat.le_of_ble_eq_true hz.1.1.1.2) hd) (ih _ _ _ _ _ _ hr)
  · cases hr
theorem zg_goto (hall : zc_All) {e : zm_K} (ih : zs_IH l b L xs e) {m i bp len a b0 c : Nat} {v : Int32} {w : Int64} {ts : List Nat} {ls : zm_L} {st : List Value} {h : zm_H} {r : zm_R} {n : Int} (hc : (zm_cd m)[i]? = some (bp, .goto n, len, a, b0, c, v, w, ts)) (hr : zm_G (L, xs) e m i ls st h (.goto n) a b0 c v w ts = some r) : zs_S l b L xs m i ls st h r := by
  have hp : zm_pc m i = some bp := zm_pc_at hc
  obtain ⟨ps, hz⟩ := zc_at hall hc
  unfold zc_in at hz
  rw [Bool.and_eq_true, decide_eq_true_eq] at hz
  obtain ⟨hd, hz⟩ := hz
  unfold zm_G at hr
  dsimp only at hz hr
  simp only [Bool.and_eq_true] at hz
  have hd := zc_dec hd hz.1
  obtain ⟨pc, h1, h2⟩ := zc_tgt hz.2
  exact zs_pure hp h1 rfl (zt_goto h2 hd) (ih _ _ _ _ _ _ hr)
theorem zg_icmp_eq (hall : zc_All) {e : zm_K} (ih : zs_IH l b L xs e) {m i bp len a b0 c : Nat} {v : Int32} {w : Int64} {ts : List Nat} {ls : zm_L} {st : List Value} {h : zm_H} {r : zm_R} {n : Int} (hc : (zm_cd m)[i]? = some (bp, .if_icmp .eq n, len, a, b0, c, v, w, ts)) (hr : zm_G (L, xs) e m i ls st h (.if_icmp .eq n) a b0 c v w ts = some r) : zs_S l b L xs m i ls st h r := by
  have hp : zm_pc m i = some bp := zm_pc_at hc
  obtain ⟨ps, hz⟩ := zc_at hall hc
  unfold zc_in at hz
  rw [Bool.and_eq_true, decide_eq_true_eq] at hz
  obtain ⟨hd, hz⟩ := hz
  unfold zm_G at hr
  dsimp only at hz hr
  simp only [Bool.and_eq_true] at hz
  have hd := zc_dec hd hz.1.1
  have hn := zc_next hz.2
  obtain ⟨pc, h1, h2⟩ := zc_tgt hz.1.2
  split at hr
  · split at hr
    · exact zs_pure hp h1 rfl (zt_icmp_eq_t h2 ‹_› hd) (ih _ _ _ _ _ _ hr)
    · exact zs_pure hp hn rfl (zt_icmp_eq_f h2 ‹_› hd) (ih _ _ _ _ _ _ hr)
  · cases hr
theorem zg_if_eq (hall : zc_All) {e : zm_K} (ih : zs_IH l b L xs e) {m i bp len a b0 c : Nat} {v : Int32} {w : Int64} {ts : List Nat} {ls : zm_L} {st : List Value} {h : zm_H} {r : zm_R} {n : Int} (hc : (zm_cd m)[i]? = some (bp, .ifCond .eq n, len, a, b0, c, v, w, ts)) (hr : zm_G (L, xs) e m i ls st h (.ifCond .eq n) a b0 c v w ts = some r) : zs_S l b L xs m i ls st h r := by
  have hp : zm_pc m i = some bp := zm_pc_at hc
  obtain ⟨ps, hz⟩ := zc_at hall hc
  unfold zc_in at hz
  rw [Bool.and_eq_true, decide_eq_true_eq] at hz
  obtain ⟨hd, hz⟩ := hz
  unfold zm_G at hr
  dsimp only at hz hr
  simp only [Bool.and_eq_true] at hz
  have hd := zc_dec hd hz.1.1
  have hn := zc_next hz.2
  obtain ⟨pc, h1, h2⟩ := zc_tgt hz.1.2
  split at hr
  · split at hr
    · exact zs_pure hp h1 rfl (zt_if_eq_t h2 ‹_› hd) (ih _ _ _ _ _ _ hr)
    · exact zs_pure hp hn rfl (zt_if_eq_f h2 ‹_› hd) (ih _ _ _ _ _ _ hr)
  · cases hr
theorem zg_icmp_ne (hall : zc_All) {e : zm_K} (ih : zs_IH l b L xs e) {m i bp len a b0 c : Nat} {v : Int32} {w : Int64} {ts : List Nat} {ls : zm_L} {st : List Value} {h : zm_H} {r : zm_R} {n : Int} (hc : (zm_cd m)[i]? = some (bp, .if_icmp .ne n, len, a, b0, c, v, w, ts)) (hr : zm_G (L, xs) e m i ls st h (.if_icmp .ne n) a b0 c v w ts = some r) : zs_S l b L xs m i ls st h r := by
  have hp : zm_pc m i = some bp := zm_pc_at hc
  obtain ⟨ps, hz⟩ := zc_at hall hc
  unfold zc_in at hz
  rw [Bool.and_eq_true, decide_eq_true_eq] at hz
  obtain ⟨hd, hz⟩ := hz
  unfold zm_G at hr
  dsimp only at hz hr
  simp only [Bool.and_eq_true] at hz
  have hd := zc_dec hd hz.1.1
  have hn := zc_next hz.2
  obtain ⟨pc, h1, h2⟩ := zc_tgt hz.1.2
  split at hr
  · split at hr
    · exact zs_pure hp hn rfl (zt_icmp_ne_f h2 ‹_› hd) (ih _ _ _ _ _ _ hr)
    · exact zs_pure hp h1 rfl (zt_icmp_ne_t h2 ‹_› hd) (ih _ _ _ _ _ _ hr)
  · cases hr
theorem zg_if_ne (hall : zc_All) {e : zm_K} (ih : zs_IH l b L xs e) {m i bp len a b0 c : Nat} {v : Int32} {w : Int64} {ts : List Nat} {ls : zm_L} {st : List Value} {h : zm_H} {r : zm_R} {n : Int} (hc : (zm_cd m)[i]? = some (bp, .ifCond .ne n, len, a, b0, c, v, w, ts)) (hr : zm_G (L, xs) e m i ls st h (.ifCond .ne n) a b0 c v w ts = some r) : zs_S l b L xs m i ls st h r := by
  have hp : zm_pc m i = some bp := zm_pc_at hc
  obtain ⟨ps, hz⟩ := zc_at hall hc
  unfold zc_in at hz
  rw [Bool.and_eq_true, decide_eq_true_eq] at hz
  obtain ⟨hd, hz⟩ := hz
  unfold zm_G at hr
  dsimp only at hz hr
  simp only [Bool.and_eq_true] at hz
  have hd := zc_dec hd hz.1.1
  have hn := zc_next hz.2
  obtain ⟨pc, h1, h2⟩ := zc_tgt hz.1.2
  split at hr
  · split at hr
    · exact zs_pure hp hn rfl (zt_if_ne_f h2 ‹_› hd) (ih _ _ _ _ _ _ hr)
    · exact zs_pure hp h1 rfl (zt_if_ne_t h2 ‹_› hd) (ih _ _ _ _ _ _ hr)
  · cases hr
theorem zg_icmp_lt (hall : zc_All) {e : zm_K} (ih : zs_IH l b L xs e) {m i bp len a b0 c : Nat} {v : Int32} {w : Int64} {ts : List Nat} {ls : zm_L} {st : List Value} {h : zm_H} {r : zm_R} {n : Int} (hc : (zm_cd m)[i]? = some (bp, .if_icmp .lt n, len, a, b0, c, v, w, ts)) (hr : zm_G (L, xs) e m i ls st h (.if_icmp .lt n) a b0 c v w ts = some r) : zs_S l b L xs m i ls st h r := by
  have hp : zm_pc m i = some bp := zm_pc_at hc
  obtain ⟨ps, hz⟩ := zc_at hall hc
  unfold zc_in at hz
  rw [Bool.and_eq_true, decide_eq_true_eq] at hz
  obtain ⟨hd, hz⟩ := hz
  unfold zm_G at hr
  dsimp only at hz hr
  simp only [Bool.and_eq_true] at hz
  have hd := zc_dec hd hz.1.1
  have hn := zc_next hz.2
  obtain ⟨pc, h1, h2⟩ := zc_tgt hz.1.2
  split at hr
  · split at hr
    · exact zs_pure hp h1 rfl (zt_icmp_lt_t h2 ‹_› hd) (ih _ _ _ _ _ _ hr)
    · exact zs_pure hp hn rfl (zt_icmp_lt_f h2 ‹_› hd) (ih _ _ _ _ _ _ hr)
  · cases hr
theorem zg_if_lt (hall : zc_All) {e : zm_K} (ih : zs_IH l b L xs e) {m i bp len a b0 c : Nat} {v : Int32} {w : Int64} {ts : List Nat} {ls : zm_L} {st : List Value} {h : zm_H} {r : zm_R} {n : Int} (hc : (zm_cd m)[i]? = some (bp, .ifCond .lt n, len, a, b0, c, v, w, ts)) (hr : zm_G (L, xs) e m i ls st h (.ifCond .lt n) a b0 c v w ts = some r) : zs_S l b L xs m i ls st h r := by
  have hp : zm_pc m i = some bp := zm_pc_at hc
  obtain ⟨ps, hz⟩ := zc_at hall hc
  unfold zc_in at hz
  rw [Bool.and_eq_true, decide_eq_true_eq] at hz
  obtain ⟨hd, hz⟩ := hz
  unfold zm_G at hr
  dsimp only at hz hr
  simp only [Bool.and_eq_true] at hz
  have hd := zc_dec hd hz.1.1
  have hn := zc_next hz.2
  obtain ⟨pc, h1, h2⟩ := zc_tgt hz.1.2
  split at hr
  · split at hr
    · exact zs_pure hp h1 rfl (zt_if_lt_t h2 ‹_› hd) (ih _ _ _ _ _ _ hr)
    · exact zs_pure hp hn rfl (zt_if_lt_f h2 ‹_› hd) (ih _ _ _ _ _ _ hr)
  · cases hr
theorem zg_icmp_ge (hall : zc_All) {e : zm_K} (ih : zs_IH l b L xs e) {m i bp len a b0 c : Nat} {v : Int32} {w : Int64} {ts : List Nat} {ls : zm_L} {st : List Value} {h : zm_H} {r : zm_R} {n : Int} (hc : (zm_cd m)[i]? = some (bp, .if_icmp .ge n, len, a, b0, c, v, w, ts)) (hr : zm_G (L, xs) e m i ls st h (.if_icmp .ge n) a b0 c v w ts = some r) : zs_S l b L xs m i ls st h r := by
  have hp : zm_pc m i = some bp := zm_pc_at hc
  obtain ⟨ps, hz⟩ := zc_at hall hc
  unfold zc_in at hz
  rw [Bool.and_eq_true, decide_eq_true_eq] at hz
  obtain ⟨hd, hz⟩ := hz
  unfold zm_G at hr
  dsimp only at hz hr
  simp only [Bool.and_eq_true] at hz
  have hd := zc_dec hd hz.1.1
  have hn := zc_next hz.2
  obtain ⟨pc, h1, h2⟩ := zc_tgt hz.1.2
  split at hr
  · split at hr
    · exact zs_pure hp h1 rfl (zt_icmp_ge_t h2 ‹_› hd) (ih _ _ _ _ _ _ hr)
    · exact zs_pure hp hn rfl (zt_icmp_ge_f h2 ‹_› hd) (ih _ _ _ _ _ _ hr)
  · cases hr
theorem zg_if_ge (hall : zc_All) {e : zm_K} (ih : zs_IH l b L xs e) {m i bp len a b0 c : Nat} {v : Int32} {w : Int64} {ts : List Nat} {ls : zm_L} {st : List Value} {h : zm_H} {r : zm_R} {n : Int} (hc : (zm_cd m)[i]? = some (bp, .ifCond .ge n, len, a, b0, c, v, w, ts)) (hr : zm_G (L, xs) e m i ls st h (.ifCond .ge n) a b0 c v w ts = some r) : zs_S l b L xs m i ls st h r := by
  have hp : zm_pc m i = some bp := zm_pc_at hc
  obtain ⟨ps, hz⟩ := zc_at hall hc
  unfold zc_in at hz
  rw [Bool.and_eq_true, decide_eq_true_eq] at hz
  obtain ⟨hd, hz⟩ := hz
  unfold zm_G at hr
  dsimp only at hz hr
  simp only [Bool.and_eq_true] at hz
  have hd := zc_dec hd hz.1.1
  have hn := zc_next hz.2
  obtain ⟨pc, h1, h2⟩ := zc_tgt hz.1.2
  split at hr
  · split at hr
    · exact zs_pure hp h1 rfl (zt_if_ge_t h2 ‹_› hd) (ih _ _ _ _ _ _ hr)
    · exact zs_pure hp hn rfl (zt_if_ge_f h2 ‹_› hd) (ih _ _ _ _ _ _ hr)
  · cases hr
theorem zg_icmp_gt (hall : zc_All) {e : zm_K} (ih : zs_IH l b L xs e) {m i bp len a b0 c : Nat} {v : Int32} {w : Int64} {ts : List Nat} {ls : zm_L} {st : List Value} {h : zm_H} {r : zm_R} {n : Int} (hc : (zm_cd m)[i]? = some (bp, .if_icmp .gt n, len, a, b0, c, v, w, ts)) (hr : zm_G (L, xs) e m i ls st h (.if_icmp .gt n) a b0 c v w ts = some r) : zs_S l b L xs m i ls st h r := by
  have hp : zm_pc m i = some bp := zm_pc_at hc
  obtain ⟨ps, hz⟩ := zc_at hall hc
  unfold zc_in at hz
  rw [Bool.and_eq_true, decide_eq_true_eq] at hz
  obtain ⟨hd, hz⟩ := hz
  unfold zm_G at hr
  dsimp only at hz hr
  simp only [Bool.and_eq_true] at hz
  have hd := zc_dec hd hz.1.1
  have hn := zc_next hz.2
  obtain ⟨pc, h1, h2⟩ := zc_tgt hz.1.2
  split at hr
  · split at hr
    · exact zs_pure hp h1 rfl (zt_icmp_gt_t h2 ‹_› hd) (ih _ _ _ _ _ _ hr)
    · exact zs_pure hp hn rfl (zt_icmp_gt_f h2 ‹_› hd) (ih _ _ _ _ _ _ hr)
  · cases hr
theorem zg_if_gt (hall : zc_All) {e : zm_K} (ih : zs_IH l b L xs e) {m i bp len a b0 c : Nat} {v : Int32} {w : Int64} {ts : List Nat} {ls : zm_L} {st : List Value} {h : zm_H} {r : zm_R} {n : Int} (hc : (zm_cd m)[i]? = some (bp, .ifCond .gt n, len, a, b0, c, v, w, ts)) (hr : zm_G (L, xs) e m i ls st h (.ifCond .gt n) a b0 c v w ts = some r) : zs_S l b L xs m i ls st h r := by
  have hp : zm_pc m i = some bp := zm_pc_at hc
  obtain ⟨ps, hz⟩ := zc_at hall hc
  unfold zc_in at hz
  rw [Bool.and_eq_true, decide_eq_true_eq] at hz
  obtain ⟨hd, hz⟩ := hz
  unfold zm_G at hr
  dsimp only at hz hr
  simp only [Bool.and_eq_true] at hz
  have hd := zc_dec hd hz.1.1
  have hn := zc_next hz.2
  obtain ⟨pc, h1, h2⟩ := zc_tgt hz.1.2
  split at hr
  · split at hr
    · exact zs_pure hp h1 rfl (zt_if_gt_t h2 ‹_› hd) (ih _ _ _ _ _ _ hr)
    · exact zs_pure hp hn rfl (zt_if_gt_f h2 ‹_› hd) (ih _ _ _ _ _ _ hr)
  · cases hr
theorem zg_icmp_le (hall : zc_All) {e : zm_K} (ih : zs_IH l b L xs e) {m i bp len a b0 c : Nat} {v : Int32} {w : Int64} {ts : List Nat} {ls : zm_L} {st : List Value} {h : zm_H} {r : zm_R} {n : Int} (hc : (zm_cd m)[i]? = some (bp, .if_icmp .le n, len, a, b0, c, v, w, ts)) (hr : zm_G (L, xs) e m i ls st h (.if_icmp .le n) a b0 c v w ts = some r) : zs_S l b L xs m i ls st h r := by
  have hp : zm_pc m i = some bp := zm_pc_at hc
  obtain ⟨ps, hz⟩ := zc_at hall hc
  unfold zc_in at hz
  rw [Bool.and_eq_true, decide_eq_true_eq] at hz
  obtain ⟨hd, hz⟩ := hz
  unfold zm_G at hr
  dsimp only at hz hr
  simp only [Bool.and_eq_true] at hz
  have hd := zc_dec hd hz.1.1
  have hn := zc_next hz.2
  obtain ⟨pc, h1, h2⟩ := zc_tgt hz.1.2
  split at hr
  · split at hr
    · exact zs_pure hp h1 rfl (zt_icmp_le_t h2 ‹_› hd) (ih _ _ _ _ _ _ hr)
    · exact zs_pure hp hn rfl (zt_icmp_le_f h2 ‹_› hd) (ih _ _ _ _ _ _ hr)
  · cases hr
theorem zg_if_le (hall : zc_All) {e : zm_K} (ih : zs_IH l b L xs e) {m i bp len a b0 c : Nat} {v : Int32} {w : Int64} {ts : List Nat} {ls : zm_L} {st : List Value} {h : zm_H} {r : zm_R} {n : Int} (hc : (zm_cd m)[i]? = some (bp, .ifCond .le n, len, a, b0, c, v, w, ts)) (hr : zm_G (L, xs) e m i ls st h (.ifCond .le n) a b0 c v w ts = some r) : zs_S l b L xs m i ls st h r := by
  have hp : zm_pc m i = some bp := zm_pc_at hc
  obtain ⟨ps, hz⟩ := zc_at hall hc
  unfold zc_in at hz
  rw [Bool.and_eq_true, decide_eq_true_eq] at hz
  obtain ⟨hd, hz⟩ := hz
  unfold zm_G at hr
  dsimp only at hz hr
  simp only [Bool.and_eq_true] at hz
  have hd := zc_dec hd hz.1.1
  have hn := zc_next hz.2
  obtain ⟨pc, h1, h2⟩ := zc_tgt hz.1.2
  split at hr
  · split at hr
    · exact zs_pure hp h1 rfl (zt_if_le_t h2 ‹_› hd) (ih _ _ _ _ _ _ hr)
    · exact zs_pure hp hn rfl (zt_if_le_f h2 ‹_› hd) (ih _ _ _ _ _ _ hr)
  · cases hr
theorem zg_tableswitch (hall : zc_All) {e : zm_K} (ih : zs_IH l b L xs e) {m i bp len a b0 c : Nat} {v : Int32} {w : Int64} {ts : List Nat} {ls : zm_L} {st : List Value} {h : zm_H} {r : zm_R} {d lo hi : Int} {os : Array Int} (hc : (zm_cd m)[i]? = some (bp, .tableswitch d lo hi os, len, a, b0, c, v, w, ts)) (hr : zm_G (L, xs) e m i ls st h (.tableswitch d lo hi os) a b0 c v w ts = some r) : zs_S l b L xs m i ls st h r := by
  have hp : zm_pc m i = some bp := zm_pc_at hc
  obtain ⟨ps, hz⟩ := zc_at hall hc
  unfold zc_in at hz
  rw [Bool.and_eq_true, decide_eq_true_eq] at hz
  obtain ⟨hd, hz⟩ := hz
  unfold zm_G at hr
  dsimp only at hz hr
  simp only [Bool.and_eq_true, decide_eq_true_eq] at hz
  split at hr
  · rename_i x rr
    obtain ⟨pc, h1, h2⟩ := zt_sw (l := l) (b := b) (L := L) (xs := xs) (ls := ls) (r := rr) (x := x) hz.1.1.1.1 hz.1.1.1.2 hz.1.1.2 hz.1.2 hd
    exact zs_pure hp h1 rfl h2 (ih _ _ _ _ _ _ hr)
  · cases hr
theorem zg_dup (hall : zc_All) {e : zm_K} (ih : zs_IH l b L xs e) {m i bp len a b0 c : Nat} {v : Int32} {w : Int64} {ts : List Nat} {ls : zm_L} {st : List Value} {h : zm_H} {r : zm_R} (hc : (zm_cd m)[i]? = some (bp, .dup, len, a, b0, c, v, w, ts)) (hr : zm_G (L, xs) e m i ls st h (.dup) a b0 c v w ts = some r) : zs_S l b L xs m i ls st h r := by
  have hp : zm_pc m i = some bp := zm_pc_at hc
  obtain ⟨ps, hz⟩ := zc_at hall hc
  unfold zc_in at hz
  rw [Bool.and_eq_true, decide_eq_true_eq] at hz
  obtain ⟨hd, hz⟩ := hz
  unfold zm_G at hr
  dsimp only at hz hr
  rw [Bool.and_eq_true] at hz
  have hd := zc_dec hd hz.1
  have hn := zc_next hz.2
  split at hr
  · exact zs_pure hp hn rfl (zt_dup rfl hd) (ih _ _ _ _ _ _ hr)
  · exact zs_pure hp hn rfl (zt_dup rfl hd) (ih _ _ _ _ _ _ hr)
  · cases hr
theorem zg_dup2 (hall : zc_All) {e : zm_K} (ih : zs_IH l b L xs e) {m i bp len a b0 c : Nat} {v : Int32} {w : Int64} {ts : List Nat} {ls : zm_L} {st : List Value} {h : zm_H} {r : zm_R} (hc : (zm_cd m)[i]? = some (bp, .dup2, len, a, b0, c, v, w, ts)) (hr : zm_G (L, xs) e m i ls st h (.dup2) a b0 c v w ts = some r) : zs_S l b L xs m i ls st h r := by
  have hp : zm_pc m i = some bp := zm_pc_at hc
  obtain ⟨ps, hz⟩ := zc_at hall hc
  unfold zc_in at hz
  rw [Bool.and_eq_true, decide_eq_true_eq] at hz
  obtain ⟨hd, hz⟩ := hz
  unfold zm_G at hr
  dsimp only at hz hr
  rw [Bool.and_eq_true] at hz
  have hd := zc_dec hd hz.1
  have hn := zc_next hz.2
  split at hr
  · exact zs_pure hp hn rfl (zt_dup2 rfl rfl hd) (ih _ _ _ _ _ _ hr)
  · cases hr
theorem zg_ifnull (hall : zc_All) {e : zm_K} (ih : zs_IH l b L xs e) {m i bp len a b0 c : Nat} {v : Int32} {w : Int64} {ts : List Nat} {ls : zm_L} {st : List Value} {h : zm_H} {r : zm_R} {n : Int} (hc : (zm_cd m)[i]? = some (bp, .ifnull n, len, a, b0, c, v, w, ts)) (hr : zm_G (L, xs) e m i ls st h (.ifnull n) a b0 c v w ts = some r) : zs_S l b L xs m i ls st h r := by
  have hp : zm_pc m i = some bp := zm_pc_at hc
  obtain ⟨ps, hz⟩ := zc_at hall hc
  unfold zc_in at hz
  rw [Bool.and_eq_true, decide_eq_true_eq] at hz
  obtain ⟨hd, hz⟩ := hz
  unfold zm_G at hr
  dsimp only at hz hr
  rw [Bool.and_eq_true] at hz
  have hd := zc_dec hd hz.1
  have hn := zc_next hz.2
  split at hr
  · exact zs_pure hp hn rfl (zt_ifnull hd) (ih _ _ _ _ _ _ hr)
  · cases hr
theorem zg_pop (hall : zc_All) {e : zm_K} (ih : zs_IH l b L xs e) {m i bp len a b0 c : Nat} {v : Int32} {w : Int64} {ts : List Nat} {ls : zm_L} {st : List Value} {h : zm_H} {r : zm_R} (hc : (zm_cd m)[i]? = some (bp, .pop, len, a, b0, c, v, w, ts)) (hr : zm_G (L, xs) e m i ls st h (.pop) a b0 c v w ts = some r) : zs_S l b L xs m i ls st h r := by
  have hp : zm_pc m i = some bp := zm_pc_at hc
  obtain ⟨ps, hz⟩ := zc_at hall hc
  unfold zc_in at hz
  rw [Bool.and_eq_true, decide_eq_true_eq] at hz
  obtain ⟨hd, hz⟩ := hz
  unfold zm_G at hr
  dsimp only at hz hr
  rw [Bool.and_eq_true] at hz
  have hd := zc_dec hd hz.1
  have hn := zc_next hz.2
  split at hr
  · exact zs_pure hp hn rfl (zt_pop rfl hd) (ih _ _ _ _ _ _ hr)
  · exact zs_pure hp hn rfl (zt_pop rfl hd) (ih _ _ _ _ _ _ hr)
  · cases hr
theorem zg_getfield (hall : zc_All) {e : zm_K} (ih : zs_IH l b L xs e) {m i bp len a b0 c : Nat} {v : Int32} {w : Int64} {ts : List Nat} {ls : zm_L} {st : List Value} {h : zm_H} {r : zm_R} {k : Nat} (hc : (zm_cd m)[i]? = some (bp, .getfield k, len, a, b0, c, v, w, ts)) (hr : zm_G (L, xs) e m i ls st h (.getfield k) a b0 c v w ts = some r) : zs_S l b L xs m i ls st h r := by
  have hp : zm_pc m i = some bp := zm_pc_at hc
  obtain ⟨ps, hz⟩ := zc_at hall hc
  unfold zc_in at hz
  rw [Bool.and_eq_true, decide_eq_true_eq] at hz
  obtain ⟨hd, hz⟩ := hz
  unfold zm_G at hr
  dsimp only at hz hr
  split at hz
  · rename_i pp
    simp only [Bool.and_eq_true] at hz
    obtain ⟨⟨hf, hlen⟩, hnx⟩ := hz
    have hd := zc_dec hd hlen
    have hn := zc_next hnx
    unfold zc_fd at hf
    split at hf
    · rename_i q hq
      have hcl : zm_cl a = q := by unfold zm_cl; rw [hq]
      simp only [Bool.and_eq_true] at hf
      have hb : b0 < q.2.2 := Nat.le_of_ble_eq_true hf.1.1
      have hw := zc_okw hf.1.2
      split at hr
      · split at hr
        · obtain ⟨x, hx, hr⟩ := Option.bind_eq_some_iff.mp hr
          exact zs_heap hp hn (zh_gI hq hb hw hx hd) (ih _ _ _ _ _ _ hr)
        · obtain ⟨x, hx, hr⟩ := Option.bind_eq_some_iff.mp hr
          exact zs_heap hp hn (zh_gI hq hb hw hx hd) (ih _ _ _ _ _ _ hr)
        · obtain ⟨x, hx, hr⟩ := Option.bind_eq_some_iff.mp hr
          exact zs_heap hp hn (zh_gR hq hb hw hx hd) (ih _ _ _ _ _ _ hr)
      · cases hr
    · cases hf
  · cases hz
theorem zg_putfield (hall : zc_All) {e : zm_K} (ih : zs_IH l b L xs e) {m i bp len a b0 c : Nat} {v : Int32} {w : Int64} {ts : List Nat} {ls : zm_L} {st : List Value} {h : zm_H} {r : zm_R} {k : Nat} (hc : (zm_cd m)[i]? = some (bp, .putfield k, len, a, b0, c, v, w, ts)) (hr : zm_G (L, xs) e m i ls st h (.putfield k) a b0 c v w ts = some r) : zs_S l b L xs m i ls st h r := by
  have hp : zm_pc m i = some bp := zm_pc_at hc
  obtain ⟨ps, hz⟩ := zc_at hall hc
  unfold zc_in at hz
  rw [Bool.and_eq_true, decide_eq_true_eq] at hz
  obtain ⟨hd, hz⟩ := hz
  unfold zm_G at hr
  dsimp only at hz hr
  split at hz
  · rename_i pp
    rw [Bool.and_eq_true, Bool.and_eq_true, Bool.and_eq_true] at hz
    obtain ⟨⟨⟨hf, hlen⟩, hnx⟩, hfin⟩ := hz
    have hd := zc_dec hd hlen
    have hn := zc_next hnx
    unfold zc_fd at hf
    split at hf
    · rename_i q hq
      have hcl : zm_cl a = q := by unfold zm_cl; rw [hq]
      rw [hcl] at hfin
      rw [Bool.and_eq_true, Bool.and_eq_true] at hf
      have hb : b0 < q.2.2 := Nat.le_of_ble_eq_true hf.1.1
      have hw := zc_okw hf.1.2
      have hfi : (q.2.1 b0).2.2.2 = false ∨ ((zm_nm m).name = "<init>" ∧ (q.2.1 b0).1 = zm_ow m) := by
        rw [Bool.or_eq_true] at hfin
        rcases hfin with h9 | h9
        · exact Or.inl (eq_of_beq h9)
        · rw [Bool.and_eq_true, decide_eq_true_eq, decide_eq_true_eq] at h9
          exact Or.inr h9
      split at hr
      · split at hr
        · obtain ⟨h', hx, hr⟩ := Option.bind_eq_some_iff.mp hr
          have hty := of_decide_eq_true hf.2
          refine zs_heap hp hn (zh_put hq hb hw hfi ?_ hx hd) (ih _ _ _ _ _ _ hr)
          intro as w0 hv0
          rw [show w0 = .int _ from hv0, hty]
          exact ⟨rfl, rfl⟩
        · cases hr
      · have hty : zm_ty a b0 = .boolean := of_decide_eq_true hf.2
        split at hr
        · split at hr
          · rename_i e0
            subst e0
            obtain ⟨h', hx, hr⟩ := Option.bind_eq_some_iff.mp hr
            refine zs_heap hp hn (zh_put hq hb hw hfi ?_ hx hd) (ih _ _ _ _ _ _ hr)
            intro as w0 hv0
            rw [show w0 = .int _ from hv0, hty]
            exact ⟨rfl, rfl⟩
          · split at hr
            · rename_i e0
              subst e0
              obtain ⟨h', hx, hr⟩ := Option.bind_eq_some_iff.mp hr
              refine zs_heap hp hn (zh_put hq hb hw hfi ?_ hx hd) (ih _ _ _ _ _ _ hr)
              intro as w0 hv0
              rw [show w0 = .int _ from hv0, hty]
              exact ⟨rfl, rfl⟩
            · cases hr
        · cases hr
      · split at hr
        · obtain ⟨h', hx, hr⟩ := Option.bind_eq_some_iff.mp hr
          refine zs_heap hp hn (zh_put hq hb hw hfi ?_ hx hd) (ih _ _ _ _ _ _ hr)
          intro as w0 hv0
          obtain ⟨ad, -, e1⟩ := hv0
          subst e1
          have h9 := hf.2
          split at h9
          · first | exact absurd rfl ‹_› | simp_all
          · first | exact absurd rfl ‹_› | simp_all
          · unfold zc_rf at h9
            split at h9
            · rename_i e9
              rw [e9]
              exact ⟨rfl, rfl⟩
            · rename_i e9
              rw [e9]
              exact ⟨rfl, rfl⟩
            · cases h9
        · cases hr
    · cases hf
  · cases hz
theorem zg_laload (hall : zc_All) {e : zm_K} (ih : zs_IH l b L xs e) {m i bp len a b0 c : Nat} {v : Int32} {w : Int64} {ts : List Nat} {ls : zm_L} {st : List Value} {h : zm_H} {r : zm_R} (hc : (zm_cd m)[i]? = some (bp, .laload, len, a, b0, c, v, w, ts)) (hr : zm_G (L, xs) e m i ls st h (.laload) a b0 c v w ts = some r) : zs_S l b L xs m i ls st h r := by
  have hp : zm_pc m i = some bp := zm_pc_at hc
  obtain ⟨ps, hz⟩ := zc_at hall hc
  unfold zc_in at hz
  rw [Bool.and_eq_true, decide_eq_true_eq] at hz
  obtain ⟨hd, hz⟩ := hz
  unfold zm_G at hr
  dsimp only at hz hr
  rw [Bool.and_eq_true] at hz
  have hd := zc_dec hd hz.1
  have hn := zc_next hz.2
  split at hr
  · obtain ⟨y, hx, hr⟩ := Option.bind_eq_some_iff.mp hr
    exact zs_heap hp hn (zh_lald hx hd) (ih _ _ _ _ _ _ hr)
  · cases hr
theorem zg_baload (hall : zc_All) {e : zm_K} (ih : zs_IH l b L xs e) {m i bp len a b0 c : Nat} {v : Int32} {w : Int64} {ts : List Nat} {ls : zm_L} {st : List Value} {h : zm_H} {r : zm_R} (hc : (zm_cd m)[i]? = some (bp, .baload, len, a, b0, c, v, w, ts)) (hr : zm_G (L, xs) e m i ls st h (.baload) a b0 c v w ts = some r) : zs_S l b L xs m i ls st h r := by
  have hp : zm_pc m i = some bp := zm_pc_at hc
  obtain ⟨ps, hz⟩ := zc_at hall hc
  unfold zc_in at hz
  rw [Bool.and_eq_true, decide_eq_true_eq] at hz
  obtain ⟨hd, hz⟩ := hz
  unfold zm_G at hr
  dsimp only at hz hr
  rw [Bool.and_eq_true] at hz
  have hd := zc_dec hd hz.1
  have hn := zc_next hz.2
  split at hr
  · obtain ⟨y, hx, hr⟩ := Option.bind_eq_some_iff.mp hr
    exact zs_heap hp hn (zh_zald hx hd) (ih _ _ _ _ _ _ hr)
  · cases hr
theorem zg_aaload (hall : zc_All) {e : zm_K} (ih : zs_IH l b L xs e) {m i bp len a b0 c : Nat} {v : Int32} {w : Int64} {ts : List Nat} {ls : zm_L} {st : List Value} {h : zm_H} {r : zm_R} (hc : (zm_cd m)[i]? = some (bp, .aaload, len, a, b0, c, v, w, ts)) (hr : zm_G (L, xs) e m i ls st h (.aaload) a b0 c v w ts = some r) : zs_S l b L xs m i ls st h r := by
  have hp : zm_pc m i = some bp := zm_pc_at hc
  obtain ⟨ps, hz⟩ := zc_at hall hc
  unfold zc_in at hz
  rw [Bool.and_eq_true, decide_eq_true_eq] at hz
  obtain ⟨hd, hz⟩ := hz
  unfold zm_G at hr
  dsimp only at hz hr
  rw [Bool.and_eq_true] at hz
  have hd := zc_dec hd hz.1
  have hn := zc_next hz.2
  split at hr
  · obtain ⟨y, hx, hr⟩ := Option.bind_eq_some_iff.mp hr
    exact zs_heap hp hn (zh_aald hx hd) (ih _ _ _ _ _ _ hr)
  · cases hr
theorem zg_iastore (hall : zc_All) {e : zm_K} (ih : zs_IH l b L xs e) {m i bp len a b0 c : Nat} {v : Int32} {w : Int64} {ts : List Nat} {ls : zm_L} {st : List Value} {h : zm_H} {r : zm_R} (hc : (zm_cd m)[i]? = some (bp, .iastore, len, a, b0, c, v, w, ts)) (hr : zm_G (L, xs) e m i ls st h (.iastore) a b0 c v w ts = some r) : zs_S l b L xs m i ls st h r := by
  have hp : zm_pc m i = some bp := zm_pc_at hc
  obtain ⟨ps, hz⟩ := zc_at hall hc
  unfold zc_in at hz
  rw [Bool.and_eq_true, decide_eq_true_eq] at hz
  obtain ⟨hd, hz⟩ := hz
  unfold zm_G at hr
  dsimp only at hz hr
  rw [Bool.and_eq_true] at hz
  have hd := zc_dec hd hz.1
  have hn := zc_next hz.2
  split at hr
  · obtain ⟨y, hx, hr⟩ := Option.bind_eq_some_iff.mp hr
    exact zs_heap hp hn (zh_iast hx hd) (ih _ _ _ _ _ _ hr)
  · cases hr
theorem zg_lastore (hall : zc_All) {e : zm_K} (ih : zs_IH l b L xs e) {m i bp len a b0 c : Nat} {v : Int32} {w : Int64} {ts : List Nat} {ls : zm_L} {st : List Value} {h : zm_H} {r : zm_R} (hc : (zm_cd m)[i]? = some (bp, .lastore, len, a, b0, c, v, w, ts)) (hr : zm_G (L, xs) e m i ls st h (.lastore) a b0 c v w ts = some r) : zs_S l b L xs m i ls st h r := by
  have hp : zm_pc m i = some bp := zm_pc_at hc
  obtain ⟨ps, hz⟩ := zc_at hall hc
  unfold zc_in at hz
  rw [Bool.and_eq_true, decide_eq_true_eq] at hz
  obtain ⟨hd, hz⟩ := hz
  unfold zm_G at hr
  dsimp only at hz hr
  rw [Bool.and_eq_true] at hz
  have hd := zc_dec hd hz.1
  have hn := zc_next hz.2
  split at hr
  · obtain ⟨y, hx, hr⟩ := Option.bind_eq_some_iff.mp hr
    exact zs_heap hp hn (zh_last hx hd) (ih _ _ _ _ _ _ hr)
  · cases hr
theorem zg_bastore (hall : zc_All) {e : zm_K} (ih : zs_IH l b L xs e) {m i bp len a b0 c : Nat} {v : Int32} {w : Int64} {ts : List Nat} {ls : zm_L} {st : List Value} {h : zm_H} {r : zm_R} (hc : (zm_cd m)[i]? = some (bp, .bastore, len, a, b0, c, v, w, ts)) (hr : zm_G (L, xs) e m i ls st h (.bastore) a b0 c v w ts = some r) : zs_S l b L xs m i ls st h r := by
  have hp : zm_pc m i = some bp := zm_pc_at hc
  obtain ⟨ps, hz⟩ := zc_at hall hc
  unfold zc_in at hz
  rw [Bool.and_eq_true, decide_eq_true_eq] at hz
  obtain ⟨hd, hz⟩ := hz
  unfold zm_G at hr
  dsimp only at hz hr
  rw [Bool.and_eq_true] at hz
  have hd := zc_dec hd hz.1
  have hn := zc_next hz.2
  split at hr
  · obtain ⟨y, hx, hr⟩ := Option.bind_eq_some_iff.mp hr
    exact zs_heap hp hn (zh_zast hx hd) (ih _ _ _ _ _ _ hr)
  · cases hr
theorem zg_aastore (hall : zc_All) {e : zm_K} (ih : zs_IH l b L xs e) {m i bp len a b0 c : Nat} {v : Int32} {w : Int64} {ts : List Nat} {ls : zm_L} {st : List Value} {h : zm_H} {r : zm_R} (hc : (zm_cd m)[i]? = some (bp, .aastore, len, a, b0, c, v, w, ts)) (hr : zm_G (L, xs) e m i ls st h (.aastore) a b0 c v w ts = some r) : zs_S l b L xs m i ls st h r := by
  have hp : zm_pc m i = some bp := zm_pc_at hc
  obtain ⟨ps, hz⟩ := zc_at hall hc
  unfold zc_in at hz
  rw [Bool.and_eq_true, decide_eq_true_eq] at hz
  obtain ⟨hd, hz⟩ := hz
  unfold zm_G at hr
  dsimp only at hz hr
  rw [Bool.and_eq_true] at hz
  have hd := zc_dec hd hz.1
  have hn := zc_next hz.2
  split at hr
  · obtain ⟨y, hx, hr⟩ := Option.bind_eq_some_iff.mp hr
    exact zs_heap hp hn (zh_aast hx hd) (ih _ _ _ _ _ _ hr)
  · cases hr
theorem zg_iaload (hall : zc_All) {e : zm_K} (ih : zs_IH l b L xs e) {m i bp len a b0 c : Nat} {v : Int32} {w : Int64} {ts : List Nat} {ls : zm_L} {st : List Value} {h : zm_H} {r : zm_R} (hc : (zm_cd m)[i]? = some (bp, .iaload, len, a, b0, c, v, w, ts)) (hr : zm_G (L, xs) e m i ls st h (.iaload) a b0 c v w ts = some r) : zs_S l b L xs m i ls st h r := by
  have hp : zm_pc m i = some bp := zm_pc_at hc
  obtain ⟨ps, hz⟩ := zc_at hall hc
  unfold zc_in at hz
  rw [Bool.and_eq_true, decide_eq_true_eq] at hz
  obtain ⟨hd, hz⟩ := hz
  unfold zm_G at hr
  dsimp only at hz hr
  rw [Bool.and_eq_true] at hz
  have hd := zc_dec hd hz.1
  have hn := zc_next hz.2
  split at hr
  · obtain ⟨y, hx, hr⟩ := Option.bind_eq_some_iff.mp hr
    exact zs_heap hp hn (zh_iald hx hd) (ih _ _ _ _ _ _ hr)
  · obtain ⟨y, hx, hr⟩ := Option.bind_eq_some_iff.mp hr
    exact zs_heap hp hn (zh_sld hx hd) (ih _ _ _ _ _ _ hr)
  · cases hr
theorem zg_arraylength (hall : zc_All) {e : zm_K} (ih : zs_IH l b L xs e) {m i bp len a b0 c : Nat} {v : Int32} {w : Int64} {ts : List Nat} {ls : zm_L} {st : List Value} {h : zm_H} {r : zm_R} (hc : (zm_cd m)[i]? = some (bp, .arraylength, len, a, b0, c, v, w, ts)) (hr : zm_G (L, xs) e m i ls st h (.arraylength) a b0 c v w ts = some r) : zs_S l b L xs m i ls st h r := by
  have hp : zm_pc m i = some bp := zm_pc_at hc
  obtain ⟨ps, hz⟩ := zc_at hall hc
  unfold zc_in at hz
  rw [Bool.and_eq_true, decide_eq_true_eq] at hz
  obtain ⟨hd, hz⟩ := hz
  unfold zm_G at hr
  dsimp only at hz hr
  rw [Bool.and_eq_true] at hz
  have hd := zc_dec hd hz.1
  have hn := zc_next hz.2
  split at hr
  · obtain ⟨y, hx, hr⟩ := Option.bind_eq_some_iff.mp hr
    exact zs_heap hp hn (zh_alen hx hd) (ih _ _ _ _ _ _ hr)
  · exact zs_heap hp hn (zh_slen hd) (ih _ _ _ _ _ _ hr)
  · cases hr
theorem zg_new (hall : zc_All) {e : zm_K} (ih : zs_IH l b L xs e) {m i bp len a b0 c : Nat} {v : Int32} {w : Int64} {ts : List Nat} {ls : zm_L} {st : List Value} {h : zm_H} {r : zm_R} {k : Nat} (hc : (zm_cd m)[i]? = some (bp, .new k, len, a, b0, c, v, w, ts)) (hr : zm_G (L, xs) e m i ls st h (.new k) a b0 c v w ts = some r) : zs_S l b L xs m i ls st h r := by
  have hp : zm_pc m i = some bp := zm_pc_at hc
  obtain ⟨ps, hz⟩ := zc_at hall hc
  unfold zc_in at hz
  rw [Bool.and_eq_true, decide_eq_true_eq] at hz
  obtain ⟨hd, hz⟩ := hz
  unfold zm_G at hr
  dsimp only at hz hr
  split at hz
  · split at hr
    · split at hz
      · simp only [Bool.and_eq_true] at hz
        obtain ⟨⟨⟨⟨⟨h0, h1⟩, h2⟩, h3⟩, h4⟩, h5⟩ := hz
        have hd := zc_dec hd h4
        have hn := zc_next h5
        have ha : a < 9 := Nat.le_of_ble_eq_true h3
        have hci : vwCl[a]? = some (zm_cl a) := by
          unfold zm_cl
          have h9 : a < vwCl.length := by
            rw [show vwCl.length = 9 by decide +kernel]
            exact ha
          rw [List.getElem?_eq_getElem h9]
        exact zs_heap hp hn (zh_new ha hci (zc_okw h0) (zc_okw h1) (zc_okw h2) hd) (ih _ _ _ _ _ _ hr)
      · cases hz
    · exact absurd rfl ‹_›
  · rename_i hne
    split at hr
    · exact absurd rfl hne
    · split at hr
      · cases Option.some.inj hr
        simp only [Bool.and_eq_true] at hz
        have hd := zc_dec hd hz.2
        have hz := hz.1
        unfold zc_th at hz
        split at hz
        · rename_i is ic wd si p0 p1 p2
          rw [Bool.and_eq_true, Bool.and_eq_true] at hz
          obtain ⟨⟨hz, hrf⟩, hrl⟩ := hz
          rw [Bool.and_eq_true] at hz
          obtain ⟨hz, hdd⟩ := hz
          simp only [Bool.and_eq_true, decide_eq_true_eq] at hz
          obtain ⟨⟨⟨⟨⟨⟨⟨h0, h1⟩, h2⟩, how⟩, h3⟩, htx⟩, hhh⟩, hd3⟩ := hz
          refine zr_throw hp h3 how hhh htx (zc_okw h0) (zc_okw h1) (zc_okw h2) (Nat.le_of_ble_eq_true hrf) (Nat.le_of_ble_eq_true hrl) hd hd3 (wd := wd) ?_
          split at hdd
          · simp only [Bool.and_eq_true, decide_eq_true_eq] at hdd
            exact Or.inl ⟨hdd.1.1, hdd.1.2, hdd.2⟩
          · simp only [Bool.and_eq_true, decide_eq_true_eq] at hdd
            exact Or.inr ⟨hdd.1.1, hdd.1.2, hdd.2⟩
        · cases hz
      · cases hr
theorem zg_newarray (hall : zc_All) {e : zm_K} (ih : zs_IH l b L xs e) {m i bp len a b0 c : Nat} {v : Int32} {w : Int64} {ts : List Nat} {ls : zm_L} {st : List Value} {h : zm_H} {r : zm_R} {t : ArrayType} (hc : (zm_cd m)[i]? = some (bp, .newarray t, len, a, b0, c, v, w, ts)) (hr : zm_G (L, xs) e m i ls st h (.newarray t) a b0 c v w ts = some r) : zs_S l b L xs m i ls st h r := by
  have hp : zm_pc m i = some bp := zm_pc_at hc
  obtain ⟨ps, hz⟩ := zc_at hall hc
  unfold zc_in at hz
  rw [Bool.and_eq_true, decide_eq_true_eq] at hz
  obtain ⟨hd, hz⟩ := hz
  unfold zm_G at hr
  dsimp only at hz hr
  split at hz
  · simp only [Bool.and_eq_true] at hz
    obtain ⟨⟨⟨h0, h1⟩, h2⟩, h3⟩ := hz
    have hd := zc_dec hd h1
    have hn := zc_next h2
    split at hr
    · obtain ⟨y, hx, hr⟩ := Option.bind_eq_some_iff.mp hr
      split at hr
      · exact zs_heap hp hn (zh_newI (of_decide_eq_true h3) hx (zc_okw h0) hd) (ih _ _ _ _ _ _ hr)
      · exact zs_heap hp hn (zh_newL (of_decide_eq_true h3) hx (zc_okw h0) hd) (ih _ _ _ _ _ _ hr)
      · rename_i n0 n1
        refine zs_heap hp hn (zh_newZ ?_ hx (zc_okw h0) hd) (ih _ _ _ _ _ _ hr)
        split at h3
        · exact absurd rfl n0
        · exact absurd rfl n1
        · exact of_decide_eq_true h3
    · cases hr
  · cases hz
theorem zg_anewarray (hall : zc_All) {e : zm_K} (ih : zs_IH l b L xs e) {m i bp len a b0 c : Nat} {v : Int32} {w : Int64} {ts : List Nat} {ls : zm_L} {st : List Value} {h : zm_H} {r : zm_R} {k : Nat} (hc : (zm_cd m)[i]? = some (bp, .anewarray k, len, a, b0, c, v, w, ts)) (hr : zm_G (L, xs) e m i ls st h (.anewarray k) a b0 c v w ts = some r) : zs_S l b L xs m i ls st h r := by
  have hp : zm_pc m i = some bp := zm_pc_at hc
  obtain ⟨ps, hz⟩ := zc_at hall hc
  unfold zc_in at hz
  rw [Bool.and_eq_true, decide_eq_true_eq] at hz
  obtain ⟨hd, hz⟩ := hz
  unfold zm_G at hr
  dsimp only at hz hr
  split at hz
  · simp only [Bool.and_eq_true] at hz
    obtain ⟨⟨h0, h1⟩, h2⟩ := hz
    have hd := zc_dec hd h1
    have hn := zc_next h2
    split at hr
    · obtain ⟨y, hx, hr⟩ := Option.bind_eq_some_iff.mp hr
      exact zs_heap hp hn (zh_newq hx (zc_okw h0) hd) (ih _ _ _ _ _ _ hr)
    · cases hr
  · cases hz
theorem zg_invokevirtual (hall : zc_All) {e : zm_K} (ih : zs_IH l b L xs e) {m i bp len a b0 c : Nat} {v : Int32} {w : Int64} {ts : List Nat} {ls : zm_L} {st : List Value} {h : zm_H} {r : zm_R} {k : Nat} (hc : (zm_cd m)[i]? = some (bp, .invokevirtual k, len, a, b0, c, v, w, ts)) (hr : zm_G (L, xs) e m i ls st h (.invokevirtual k) a b0 c v w ts = some r) : zs_S l b L xs m i ls st h r := by
  have hp : zm_pc m i = some bp := zm_pc_at hc
  obtain ⟨ps, hz⟩ := zc_at hall hc
  unfold zc_in at hz
  rw [Bool.and_eq_true, decide_eq_true_eq] at hz
  obtain ⟨hd, hz⟩ := hz
  unfold zm_G at hr
  dsimp only at hz hr
  split at hz
  · rename_i ci p0 p1 p2 p3 p4
    simp only [Bool.and_eq_true, decide_eq_true_eq] at hz
    obtain ⟨⟨⟨⟨⟨⟨⟨⟨h0, h1⟩, h2⟩, h3⟩, h4⟩, h5⟩, h6⟩, h7⟩, h8⟩ := hz
    have hd := zc_dec hd h7
    have hn := zc_next h8
    have ha : ci < 9 := Nat.le_of_ble_eq_true h4
    have hci : vwCl[ci]? = some (zm_cl ci) := by
      unfold zm_cl
      have h9 : ci < vwCl.length := by
        rw [show vwCl.length = 9 by decide +kernel]
        exact ha
      rw [List.getElem?_eq_getElem h9]
    obtain ⟨q, hq, hr⟩ := Option.bind_eq_some_iff.mp hr
    try dsimp only at hr
    split at hr
    · rename_i o rest hq2
      split at hr
      · rename_i hoc
        rw [Bool.and_eq_true] at hoc
        refine zs_rt hall ih hp hn hr ?_
        intro r1 hS1 hin p e R s mid args below meth c' dC dI A H locs cells slots ws tys rls rst mc1 ms1 X hW hrl hv hm1 hm2 hf
        obtain ⟨pops, rr0, e1, e2, e3, e4⟩ := zs_pa b0 [] st [] rst q hq trivial hv
        rw [hq2] at e3
        obtain ⟨ad, rr, e5, e6, e7⟩ := zs_ref e3
        subst e5
        subst e1
        rw [List.append_nil] at e2
        exact ⟨rr, _, e7, zs_runV hall X hW hS1 hin h5 h0 (zc_okw h1) hci (zc_okw h2) (zc_okw h3) h6 hoc.1 e2 e4 e6 hrl (by rw [← e7.cat]; exact Nat.le_of_ble_eq_true hoc.2) hd hm1 hm2 hf⟩
      · cases hr
    · cases hr
  · cases hz
theorem zg_invokespecial (hall : zc_All) {e : zm_K} (ih : zs_IH l b L xs e) {m i bp len a b0 c : Nat} {v : Int32} {w : Int64} {ts : List Nat} {ls : zm_L} {st : List Value} {h : zm_H} {r : zm_R} {k : Nat} (hc : (zm_cd m)[i]? = some (bp, .invokespecial k, len, a, b0, c, v, w, ts)) (hr : zm_G (L, xs) e m i ls st h (.invokespecial k) a b0 c v w ts = some r) : zs_S l b L xs m i ls st h r := by
  have hp : zm_pc m i = some bp := zm_pc_at hc
  obtain ⟨ps, hz⟩ := zc_at hall hc
  unfold zc_in at hz
  rw [Bool.and_eq_true, decide_eq_true_eq] at hz
  obtain ⟨hd, hz⟩ := hz
  unfold zm_G at hr
  dsimp only at hz hr
  split at hr
  · split at hz
    · split at hz
      · simp only [Bool.and_eq_true] at hz
        obtain ⟨⟨⟨⟨⟨⟨h0, h1⟩, h2⟩, h3⟩, h4⟩, h5⟩, h6⟩ := hz
        have hd := zc_dec hd h3
        have hn := zc_next h4
        split at hr
        · split at hr
          · exact zs_pure hp hn rfl (zt_obj (Nat.le_of_ble_eq_true ‹_›) (zc_okw h0) (zc_okw h1) (zc_okw h2) (Nat.le_of_ble_eq_true h5) (Nat.le_of_ble_eq_true h6) hd) (ih _ _ _ _ _ _ hr)
          · cases hr
        · cases hr
      · cases hz
    · rename_i n9
      exfalso
      omega
    · rename_i n8 n9
      exact (n8 rfl).elim
  · cases hr
  · rename_i n1 n2
    split at hz
    · exact absurd rfl n1
    · exact absurd rfl n2
    · split at hz
      · rename_i p0 p1 p2 p3
        simp only [Bool.and_eq_true, decide_eq_true_eq] at hz
        obtain ⟨⟨⟨⟨⟨⟨⟨⟨h0, h1⟩, h2⟩, h3⟩, h4⟩, h5⟩, h6⟩, h7⟩, h8⟩ := hz
        have hd := zc_dec hd h7
        have hn := zc_next h8
        obtain ⟨q, hq, hr⟩ := Option.bind_eq_some_iff.mp hr
        try dsimp only at hr
        split at hr
        · rename_i o rest hq2
          split at hr
          · rename_i hoc
            refine zs_rt hall ih hp hn hr ?_
            intro r1 hS1 hin p e R s mid args below meth c' dC dI A H locs cells slots ws tys rls rst mc1 ms1 X hW hrl hv hm1 hm2 hf
            obtain ⟨pops, rr0, e1, e2, e3, e4⟩ := zs_pa b0 [] st [] rst q hq trivial hv
            rw [hq2] at e3
            obtain ⟨ad, rr, e5, e6, e7⟩ := zs_ref e3
            subst e5
            subst e1
            rw [List.append_nil] at e2
            exact ⟨rr, _, e7, zs_runI hall X hW hS1 hin h3 h0 (zc_okw h1) (zc_okw h2) h5 h4 h6 e2 e4 e6 hrl (by rw [← e7.cat]; exact Nat.le_of_ble_eq_true hoc) hd hm1 hm2 hf⟩
          · cases hr
        · cases hr
      · cases hz
theorem zg_invokestatic (hall : zc_All) {e : zm_K} (ih : zs_IH l b L xs e) {m i bp len a b0 c : Nat} {v : Int32} {w : Int64} {ts : List Nat} {ls : zm_L} {st : List Value} {h : zm_H} {r : zm_R} {k : Nat} (hc : (zm_cd m)[i]? = some (bp, .invokestatic k, len, a, b0, c, v, w, ts)) (hr : zm_G (L, xs) e m i ls st h (.invokestatic k) a b0 c v w ts = some r) : zs_S l b L xs m i ls st h r := by
  have hp : zm_pc m i = some bp := zm_pc_at hc
  obtain ⟨ps, hz⟩ := zc_at hall hc
  unfold zc_in at hz
  rw [Bool.and_eq_true, decide_eq_true_eq] at hz
  obtain ⟨hd, hz⟩ := hz
  unfold zm_G at hr
  dsimp only at hz hr
  split at hr
  · split at hz
    · split at hz
      · simp only [Bool.and_eq_true] at hz
        obtain ⟨⟨⟨⟨⟨⟨⟨h0, h1⟩, h2⟩, h3⟩, h4⟩, h5⟩, h6⟩, h7⟩ := hz
        have hd := zc_dec hd h4
        have hn := zc_next h5
        split at hr
        · split at hr
          · obtain ⟨h', hx, hr⟩ := Option.bind_eq_some_iff.mp hr
            exact zs_heap hp hn (zh_copy hx (Nat.le_of_ble_eq_true ‹_›) (zc_okw h0) (zc_okw h1) (zc_okw h2) (zc_okw h3) (Nat.le_of_ble_eq_true h6) (Nat.le_of_ble_eq_true h7) hd) (ih _ _ _ _ _ _ hr)
          · cases hr
        · cases hr
      · cases hz
    · rename_i n9
      exfalso
      omega
    · rename_i n8 n9
      exact (n8 rfl).elim
  · split at hz
    · rename_i n9
      exfalso
      omega
    · split at hz
      · simp only [Bool.and_eq_true] at hz
        obtain ⟨⟨⟨⟨⟨⟨⟨h0, h1⟩, h2⟩, h3⟩, h4⟩, h5⟩, h6⟩, h7⟩ := hz
        have hd := zc_dec hd h4
        have hn := zc_next h5
        split at hr
        · split at hr
          · exact zs_heap hp hn (zh_min (Nat.le_of_ble_eq_true ‹_›) (zc_okw h0) (zc_okw h1) (zc_okw h2) (zc_okw h3) (Nat.le_of_ble_eq_true h6) (Nat.le_of_ble_eq_true h7) hd) (ih _ _ _ _ _ _ hr)
          · cases hr
        · cases hr
      · cases hz
    · rename_i n8 n9
      exact (n9 rfl).elim
  · rename_i n1 n2
    split at hz
    · exact absurd rfl n1
    · exact absurd rfl n2
    · split at hz
      · rename_i p0 p1 p2 p3
        simp only [Bool.and_eq_true, Bool.or_eq_true, decide_eq_true_eq] at hz
        obtain ⟨⟨⟨⟨⟨⟨h0, h1⟩, h2⟩, h3⟩, h4⟩, h7⟩, h8⟩ := hz
        have hd := zc_dec hd h7
        have hn := zc_next h8
        obtain ⟨q, hq, hr⟩ := Option.bind_eq_some_iff.mp hr
        try dsimp only at hr
        split at hr
        · rename_i hoc
          refine zs_rt hall ih hp hn hr ?_
          intro r1 hS1 hin p e R s mid args below meth c' dC dI A H locs cells slots ws tys rls rst mc1 ms1 X hW hrl hv hm1 hm2 hf
          obtain ⟨pops, rr, e1, e2, e3, e4⟩ := zs_pa b0 [] st [] rst q hq trivial hv
          subst e1
          rw [List.append_nil] at e2
          exact ⟨rr, _, e3, zs_runS hall X hW hS1 hin h3 h0 (zc_okw h1) (zc_okw h2) h4 e2 e4 hrl (by rw [← e3.cat]; exact Nat.le_of_ble_eq_true hoc) hd hm1 hm2 hf⟩
        · cases hr
      · cases hz
theorem zg_ireturn (hall : zc_All) {e : zm_K} (ih : zs_IH l b L xs e) {m i bp len a b0 c : Nat} {v : Int32} {w : Int64} {ts : List Nat} {ls : zm_L} {st : List Value} {h : zm_H} {r : zm_R} (hc : (zm_cd m)[i]? = some (bp, .ireturn, len, a, b0, c, v, w, ts)) (hr : zm_G (L, xs) e m i ls st h (.ireturn) a b0 c v w ts = some r) : zs_S l b L xs m i ls st h r := by
  have hp : zm_pc m i = some bp := zm_pc_at hc
  obtain ⟨ps, hz⟩ := zc_at hall hc
  unfold zc_in at hz
  rw [Bool.and_eq_true, decide_eq_true_eq] at hz
  obtain ⟨hd, hz⟩ := hz
  unfold zm_G at hr
  dsimp only at hz hr
  rw [Bool.and_eq_true] at hz
  have hd := zc_dec hd hz.1
  split at hr
  · split at hr
    · cases Option.some.inj hr
      exact zr_i hp (of_decide_eq_true hz.2) rfl hd
    · rename_i n0
      have hre : zm_re m = some .boolean := by
        have h9 := hz.2
        split at h9
        · exact absurd rfl n0
        · exact of_decide_eq_true h9
      unfold zm_bo at hr
      split at hr
      · rename_i e0
        cases Option.some.inj hr
        subst e0
        exact zr_i hp hre rfl hd
      · split at hr
        · rename_i e0
          cases Option.some.inj hr
          subst e0
          exact zr_i hp hre rfl hd
        · cases hr
  · cases hr
theorem zg_areturn (hall : zc_All) {e : zm_K} (ih : zs_IH l b L xs e) {m i bp len a b0 c : Nat} {v : Int32} {w : Int64} {ts : List Nat} {ls : zm_L} {st : List Value} {h : zm_H} {r : zm_R} (hc : (zm_cd m)[i]? = some (bp, .areturn, len, a, b0, c, v, w, ts)) (hr : zm_G (L, xs) e m i ls st h (.areturn) a b0 c v w ts = some r) : zs_S l b L xs m i ls st h r := by
  have hp : zm_pc m i = some bp := zm_pc_at hc
  obtain ⟨ps, hz⟩ := zc_at hall hc
  unfold zc_in at hz
  rw [Bool.and_eq_true, decide_eq_true_eq] at hz
  obtain ⟨hd, hz⟩ := hz
  unfold zm_G at hr
  dsimp only at hz hr
  rw [Bool.and_eq_true] at hz
  have hd := zc_dec hd hz.1
  have h9 := hz.2
  split at h9
  · rename_i n e9
    split at hr
    · cases Option.some.inj hr
      exact zr_a hp e9 hd
    · cases hr
  · cases h9
theorem zg_return_ (hall : zc_All) {e : zm_K} (ih : zs_IH l b L xs e) {m i bp len a b0 c : Nat} {v : Int32} {w : Int64} {ts : List Nat} {ls : zm_L} {st : List Value} {h : zm_H} {r : zm_R} (hc : (zm_cd m)[i]? = some (bp, .return_, len, a, b0, c, v, w, ts)) (hr : zm_G (L, xs) e m i ls st h (.return_) a b0 c v w ts = some r) : zs_S l b L xs m i ls st h r := by
  have hp : zm_pc m i = some bp := zm_pc_at hc
  obtain ⟨ps, hz⟩ := zc_at hall hc
  unfold zc_in at hz
  rw [Bool.and_eq_true, decide_eq_true_eq] at hz
  obtain ⟨hd, hz⟩ := hz
  unfold zm_G at hr
  dsimp only at hz hr
  rw [Bool.and_eq_true, decide_eq_true_eq] at hz
  have hd := zc_dec hd hz.1
  split at hr
  · cases Option.some.inj hr
    exact zr_v hp hz.2 hd
  · cases hr
end ZG
section ZJ
variable {l : Launch} {b L : Nat} {xs : Nat → Int32}
theorem zs_G (hall : zc_All) {e : zm_K} (ih : zs_IH l b L xs e) {m i bp len a b0 c : Nat} {ins : Instr} {v : Int32} {w : Int64} {ts : List Nat} {ls : zm_L} {st : List Value} {h : zm_H} {r : zm_R} (hc : (zm_cd m)[i]? = some (bp, ins, len, a, b0, c, v, w, ts)) (hr : zm_G (L, xs) e m i ls st h ins a b0 c v w ts = some r) : zs_S l b L xs m i ls st h r := by
  cases ins with
  | iadd => exact zg_iadd hall ih hc hr
  | isub => exact zg_isub hall ih hc hr
  | imul => exact zg_imul hall ih hc hr
  | iand => exact zg_iand hall ih hc hr
  | ior => exact zg_ior hall ih hc hr
  | ixor => exact zg_ixor hall ih hc hr
  | ishl => exact zg_ishl hall ih hc hr
  | ishr => exact zg_ishr hall ih hc hr
  | iushr => exact zg_iushr hall ih hc hr
  | ladd => exact zg_ladd hall ih hc hr
  | lmul => exact zg_lmul hall ih hc hr
  | land => exact zg_land hall ih hc hr
  | lor => exact zg_lor hall ih hc hr
  | lshl => exact zg_lshl hall ih hc hr
  | lushr => exact zg_lushr hall ih hc hr
  | lcmp => exact zg_lcmp hall ih hc hr
  | i2l => exact zg_i2l hall ih hc hr
  | l2i => exact zg_l2i hall ih hc hr
  | idiv => exact zg_idiv hall ih hc hr
  | irem => exact zg_irem hall ih hc hr
  | ldiv => exact zg_ldiv hall ih hc hr
  | lrem => exact zg_lrem hall ih hc hr
  | iconst n => exact zg_iconst hall ih hc hr
  | bipush n => exact zg_bipush hall ih hc hr
  | sipush n => exact zg_sipush hall ih hc hr
  | lconst n => exact zg_lconst hall ih hc hr
  | ldc n => exact zg_ldc hall ih hc hr
  | ldc_w n => exact zg_ldc_w hall ih hc hr
  | ldc2_w n => exact zg_ldc2_w hall ih hc hr
  | iload_n k => exact zg_iload_n hall ih hc hr
  | iload k => exact zg_iload hall ih hc hr
  | lload_n k => exact zg_lload_n hall ih hc hr
  | lload k => exact zg_lload hall ih hc hr
  | aload_n k => exact zg_aload_n hall ih hc hr
  | aload k => exact zg_aload hall ih hc hr
  | istore_n k => exact zg_istore_n hall ih hc hr
  | istore k => exact zg_istore hall ih hc hr
  | lstore_n k => exact zg_lstore_n hall ih hc hr
  | lstore k => exact zg_lstore hall ih hc hr
  | astore_n k => exact zg_astore_n hall ih hc hr
  | astore k => exact zg_astore hall ih hc hr
  | iinc k n => exact zg_iinc hall ih hc hr
  | goto n => exact zg_goto hall ih hc hr
  | if_icmp cm n =>
    cases cm with
    | eq => exact zg_icmp_eq hall ih hc hr
    | ne => exact zg_icmp_ne hall ih hc hr
    | lt => exact zg_icmp_lt hall ih hc hr
    | ge => exact zg_icmp_ge hall ih hc hr
    | gt => exact zg_icmp_gt hall ih hc hr
    | le => exact zg_icmp_le hall ih hc hr
  | ifCond cm n =>
    cases cm with
    | eq => exact zg_if_eq hall ih hc hr
    | ne => exact zg_if_ne hall ih hc hr
    | lt => exact zg_if_lt hall ih hc hr
    | ge => exact zg_if_ge hall ih hc hr
    | gt => exact zg_if_gt hall ih hc hr
    | le => exact zg_if_le hall ih hc hr
  | ifnull n => exact zg_ifnull hall ih hc hr
  | tableswitch d lo hi os => exact zg_tableswitch hall ih hc hr
  | dup => exact zg_dup hall ih hc hr
  | dup2 => exact zg_dup2 hall ih hc hr
  | pop => exact zg_pop hall ih hc hr
  | getfield k => exact zg_getfield hall ih hc hr
  | putfield k => exact zg_putfield hall ih hc hr
  | laload => exact zg_laload hall ih hc hr
  | baload => exact zg_baload hall ih hc hr
  | aaload => exact zg_aaload hall ih hc hr
  | iastore => exact zg_iastore hall ih hc hr
  | lastore => exact zg_lastore hall ih hc hr
  | bastore => exact zg_bastore hall ih hc hr
  | aastore => exact zg_aastore hall ih hc hr
  | iaload => exact zg_iaload hall ih hc hr
  | arraylength => exact zg_arraylength hall ih hc hr
  | new k => exact zg_new hall ih hc hr
  | newarray t => exact zg_newarray hall ih hc hr
  | anewarray k => exact zg_anewarray hall ih hc hr
  | invokevirtual k => exact zg_invokevirtual hall ih hc hr
  | invokespecial k => exact zg_invokespecial hall ih hc hr
  | invokestatic k => exact zg_invokestatic hall ih hc hr
  | ireturn => exact zg_ireturn hall ih hc hr
  | areturn => exact zg_areturn hall ih hc hr
  | return_ => exact zg_return_ hall ih hc hr
  | _ =>
    exfalso
    unfold zm_G at hr
    cases hr
theorem zs_all_run (hall : zc_All) : ∀ (n : Nat), zs_IH l b L xs (zm_run (L, xs) n)
  | 0 => fun m i ls st h r hr => by cases hr
  | n + 1 => fun m i ls st h r hr => by
    have hr : zm_F (L, xs) (zm_run (L, xs) n) (m, i, ls, st, h) = some r := hr
    unfold zm_F at hr
    try dsimp only at hr
    split at hr
    · cases hr
    · rename_i bp ins len a b0 c v w ts hc
      exact zs_G hall (zs_all_run hall n) hc hr
end ZJ
