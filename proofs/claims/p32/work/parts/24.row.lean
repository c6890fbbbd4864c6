/-! ROWS: a place is looked at before it is read or written; a boolean field; a reference that is there -/
theorem zl_aIln {o n : Nat} (h : zl_aI o = some n) : zl_ln o = some n := by
  unfold zl_aI at h
  unfold zl_ln
  split at h
  · rename_i n1 rs e
    rw [e]
    exact h
  · cases h
theorem zl_aI5 {o n : Nat} (h : zl_aI o = some n) : n ≤ 5040 := by
  unfold zl_aI at h
  split at h
  · rename_i n1 rs e
    cases h
    exact zl_sz e
  · cases h
section ROW
variable {sc : Nat × (Nat → Int32)} {s : zv_S} {m i bp len a b o n : Nat} {v : Int32} {w : Int64} {ts : List Nat} {ls : zm_L} {st : List Value} {x : Int32} {Q : zm_O → zv_S → Prop}
theorem v_ifn {q : Int} {c : Nat} (hc : (zm_cd m)[i]? = some (bp, .ifnull q, len, a, b, c, v, w, ts)) (k : VV sc m (i + 1) ls st s Q) : VV sc m i ls (.ref o :: st) s Q := vv_p hc (fun E h hr => rfl) k
theorem v_gZ {q : Nat} (hc : (zm_cd m)[i]? = some (bp, .getfield q, len, a, b, 2, v, w, ts)) (hk : zl_fI o a b = true) (hv : s.1 o b = x) (k : VV sc m (i + 1) ls (.int x :: st) s Q) : VV sc m i ls (.ref o :: st) s Q := vv_p hc (fun E h hr => by show (zm_gI h o a b).bind _ = _; rw [zr_gI hr hk, hv]; rfl) k
theorem v_pZ {q : Nat} {B : Bool} (hc : (zm_cd m)[i]? = some (bp, .putfield q, len, a, b, 2, v, w, ts)) (hk : zl_fI o a b = true) (hb : x = bI B) (k : VV sc m (i + 1) ls st (sI s o b (bI B)) Q) : VV sc m i ls (.int x :: .ref o :: st) s Q := by
  subst hb
  refine vv_w hc (fun h hr => ?_) k
  obtain ⟨h1, e1, e2⟩ := zw_pt (v := bI B) hr hk
  refine ⟨h1, e2, fun E => ?_⟩
  cases B
  · show (zm_pt h o a b (.int 0)).bind _ = _
    rw [show zm_pt h o a b (.int 0) = some h1 from e1]
    rfl
  · show (zm_pt h o a b (.int 1)).bind _ = _
    rw [show zm_pt h o a b (.int 1) = some h1 from e1]
    rfl
theorem k_aat {k0 : Nat} (ho : zl_aI o = some n) (hk : k0 < n) (hv : s.1 o k0 = x) : RI sc 209 [.ref o, .int (nI k0)] s x s := by
  refine cc_of ml_209 rfl rfl ?_
  have := zl_aI5 ho
  refine v_il1 c_209_0 ?_
  refine v_if_lt_F c_209_1 (by omega) ?_
  refine v_il1 c_209_2 ?_
  refine v_al0 c_209_3 ?_
  refine v_len c_209_4 (zl_aIln ho) ?_
  refine v_icmp_ge_F c_209_5 (by omega) (by omega) (by omega) ?_
  refine v_al0 c_209_6 ?_
  refine v_il1 c_209_7 ?_
  refine v_aI c_209_8 ho (hk) (hv) ?_
  refine v_goto c_209_9 ?_
  exact v_ri c_209_11 ⟨_, rfl, rfl, rfl⟩
theorem k_aput {k0 : Nat} (ho : zl_aI o = some n) (hk : k0 < n) : RV sc 210 [.ref o, .int (nI k0), .int x] s (sI s o k0 x) := by
  refine cc_of ml_210 rfl rfl ?_
  have := zl_aI5 ho
  refine v_il1 c_210_0 ?_
  refine v_if_lt_F c_210_1 (by omega) ?_
  refine v_il1 c_210_2 ?_
  refine v_al0 c_210_3 ?_
  refine v_len c_210_4 (zl_aIln ho) ?_
  refine v_icmp_ge_F c_210_5 (by omega) (by omega) (by omega) ?_
  refine v_al0 c_210_6 ?_
  refine v_il1 c_210_7 ?_
  refine v_il2 c_210_8 ?_
  refine v_sI c_210_9 ho (hk) ?_
  exact v_rv c_210_10 ⟨rfl, rfl⟩
theorem k_cpr {o1 : Nat} (h1 : zl_aI o1 = some n) (h2 : zl_aI o = some n) : RV sc 211 [.ref o1, .ref o] s (sF s o (va_cpy (s.1 o1) (s.1 o) 0 0 n)) := by
  refine cc_of ml_211 rfl rfl ?_
  have := zl_aI5 h1
  refine v_al0 c_211_0 ?_
  refine v_icN (n := 0) c_211_1 rfl ?_
  refine v_al1 c_211_2 ?_
  refine v_icN (n := 0) c_211_3 rfl ?_
  refine v_al0 c_211_4 ?_
  refine v_len c_211_5 (zl_aIln h1) ?_
  refine v_al1 c_211_6 ?_
  refine v_len c_211_7 (zl_aIln h2) ?_
  refine v_min c_211_8 rfl ?_
  rw [ite_self]
  refine v_cp c_211_9 h1 h2 (by omega) (by omega) (by omega) (by omega) rfl ?_
  exact v_rv c_211_10 ⟨rfl, rfl⟩
theorem v_at {q k0 : Nat} (hc : (zm_cd m)[i]? = some (bp, .invokestatic q, len, 209, 2, 1, v, w, ts)) (ho : zl_aI o = some n) (hk : k0 < n) (hv : s.1 o k0 = x) (hcs : Nat.ble (zm_cs st) 8 = true) (k : VV sc m (i + 1) ls (.int x :: st) s Q) : VV sc m i ls (.int (nI k0) :: .ref o :: st) s Q := v_cSi hc rfl rfl hcs (k_aat ho hk hv) k
theorem v_put {q k0 : Nat} (hc : (zm_cd m)[i]? = some (bp, .invokestatic q, len, 210, 3, 0, v, w, ts)) (ho : zl_aI o = some n) (hk : k0 < n) (hcs : Nat.ble (zm_cs st) 8 = true) (k : VV sc m (i + 1) ls st (sI s o k0 x) Q) : VV sc m i ls (.int x :: .int (nI k0) :: .ref o :: st) s Q := v_cSv hc rfl rfl hcs (k_aput ho hk) k
theorem v_cpr {q o1 : Nat} (hc : (zm_cd m)[i]? = some (bp, .invokestatic q, len, 211, 2, 0, v, w, ts)) (h1 : zl_aI o1 = some n) (h2 : zl_aI o = some n) (hcs : Nat.ble (zm_cs st) 8 = true) (k : VV sc m (i + 1) ls st (sF s o (va_cpy (s.1 o1) (s.1 o) 0 0 n)) Q) : VV sc m i ls (.ref o :: .ref o1 :: st) s Q := v_cSv hc rfl rfl hcs (k_cpr h1 h2) k
end ROW
