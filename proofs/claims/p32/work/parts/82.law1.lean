/-! THE LAW'S OWN METHODS: ones, cell, traders -/
section MORE
variable {sc : Nat × (Nat → Int32)} {m i bp len a b c : Nat} {v : Int32} {w : Int64} {ts : List Nat} {ls : zm_L} {st : List Value} {s : zv_S} {Q : zm_O → zv_S → Prop} {x : Int32} {n : Nat}
theorem v_il11 {l0 l1 l2 l3 l4 l5 l6 l7 l8 l9 l10 : Option Value} (hc : (zm_cd m)[i]? = some (bp, .iload 11, len, 11, b, c, v, w, ts)) (k : VV sc m (i + 1) (l0 :: l1 :: l2 :: l3 :: l4 :: l5 :: l6 :: l7 :: l8 :: l9 :: l10 :: some (.int x) :: ls) (.int x :: st) s Q) : VV sc m i (l0 :: l1 :: l2 :: l3 :: l4 :: l5 :: l6 :: l7 :: l8 :: l9 :: l10 :: some (.int x) :: ls) st s Q := vv_p hc (fun E h hr => rfl) k
theorem v_is11 {l0 l1 l2 l3 l4 l5 l6 l7 l8 l9 l10 l11 : Option Value} (hc : (zm_cd m)[i]? = some (bp, .istore 11, len, 11, b, c, v, w, ts)) (hq : zm_cut (l0 :: l1 :: l2 :: l3 :: l4 :: l5 :: l6 :: l7 :: l8 :: l9 :: l10 :: l11 :: ls) 11 = (l0 :: l1 :: l2 :: l3 :: l4 :: l5 :: l6 :: l7 :: l8 :: l9 :: l10 :: l11 :: ls)) (k : VV sc m (i + 1) (l0 :: l1 :: l2 :: l3 :: l4 :: l5 :: l6 :: l7 :: l8 :: l9 :: l10 :: some (.int x) :: ls) st s Q) : VV sc m i (l0 :: l1 :: l2 :: l3 :: l4 :: l5 :: l6 :: l7 :: l8 :: l9 :: l10 :: l11 :: ls) (.int x :: st) s Q := vv_p hc (fun E h hr => by show E (m, i + 1, (zm_cut (l0 :: l1 :: l2 :: l3 :: l4 :: l5 :: l6 :: l7 :: l8 :: l9 :: l10 :: l11 :: ls) 11).set 11 (some (.int x)), st, h) = _; rw [hq]; rfl) k
theorem v_inc11 {q : Int} {l0 l1 l2 l3 l4 l5 l6 l7 l8 l9 l10 : Option Value} (hc : (zm_cd m)[i]? = some (bp, .iinc 11 q, len, 11, b, c, v, w, ts)) (hq : zm_cut (l0 :: l1 :: l2 :: l3 :: l4 :: l5 :: l6 :: l7 :: l8 :: l9 :: l10 :: some (.int x) :: ls) 11 = (l0 :: l1 :: l2 :: l3 :: l4 :: l5 :: l6 :: l7 :: l8 :: l9 :: l10 :: some (.int x) :: ls)) (k : VV sc m (i + 1) (l0 :: l1 :: l2 :: l3 :: l4 :: l5 :: l6 :: l7 :: l8 :: l9 :: l10 :: some (.int (x + v)) :: ls) st s Q) : VV sc m i (l0 :: l1 :: l2 :: l3 :: l4 :: l5 :: l6 :: l7 :: l8 :: l9 :: l10 :: some (.int x) :: ls) st s Q := vv_p hc (fun E h hr => by show E (m, i + 1, (zm_cut (l0 :: l1 :: l2 :: l3 :: l4 :: l5 :: l6 :: l7 :: l8 :: l9 :: l10 :: some (.int x) :: ls) 11).set 11 (some (.int (x + v))), st, h) = _; rw [hq]; rfl) k
theorem v_incN11 {q : Int} {l0 l1 l2 l3 l4 l5 l6 l7 l8 l9 l10 : Option Value} (hc : (zm_cd m)[i]? = some (bp, .iinc 11 q, len, 11, b, c, v, w, ts)) (hq : zm_cut (l0 :: l1 :: l2 :: l3 :: l4 :: l5 :: l6 :: l7 :: l8 :: l9 :: l10 :: some (.int (nI n)) :: ls) 11 = (l0 :: l1 :: l2 :: l3 :: l4 :: l5 :: l6 :: l7 :: l8 :: l9 :: l10 :: some (.int (nI n)) :: ls)) (hv : v = 1) (k : VV sc m (i + 1) (l0 :: l1 :: l2 :: l3 :: l4 :: l5 :: l6 :: l7 :: l8 :: l9 :: l10 :: some (.int (nI (n + 1))) :: ls) st s Q) : VV sc m i (l0 :: l1 :: l2 :: l3 :: l4 :: l5 :: l6 :: l7 :: l8 :: l9 :: l10 :: some (.int (nI n)) :: ls) st s Q := v_inc11 hc hq (by rw [hv, ← nI_succ]; exact k)
theorem v_il12 {l0 l1 l2 l3 l4 l5 l6 l7 l8 l9 l10 l11 : Option Value} (hc : (zm_cd m)[i]? = some (bp, .iload 12, len, 12, b, c, v, w, ts)) (k : VV sc m (i + 1) (l0 :: l1 :: l2 :: l3 :: l4 :: l5 :: l6 :: l7 :: l8 :: l9 :: l10 :: l11 :: some (.int x) :: ls) (.int x :: st) s Q) : VV sc m i (l0 :: l1 :: l2 :: l3 :: l4 :: l5 :: l6 :: l7 :: l8 :: l9 :: l10 :: l11 :: some (.int x) :: ls) st s Q := vv_p hc (fun E h hr => rfl) k
theorem v_is12 {l0 l1 l2 l3 l4 l5 l6 l7 l8 l9 l10 l11 l12 : Option Value} (hc : (zm_cd m)[i]? = some (bp, .istore 12, len, 12, b, c, v, w, ts)) (hq : zm_cut (l0 :: l1 :: l2 :: l3 :: l4 :: l5 :: l6 :: l7 :: l8 :: l9 :: l10 :: l11 :: l12 :: ls) 12 = (l0 :: l1 :: l2 :: l3 :: l4 :: l5 :: l6 :: l7 :: l8 :: l9 :: l10 :: l11 :: l12 :: ls)) (k : VV sc m (i + 1) (l0 :: l1 :: l2 :: l3 :: l4 :: l5 :: l6 :: l7 :: l8 :: l9 :: l10 :: l11 :: some (.int x) :: ls) st s Q) : VV sc m i (l0 :: l1 :: l2 :: l3 :: l4 :: l5 :: l6 :: l7 :: l8 :: l9 :: l10 :: l11 :: l12 :: ls) (.int x :: st) s Q := vv_p hc (fun E h hr => by show E (m, i + 1, (zm_cut (l0 :: l1 :: l2 :: l3 :: l4 :: l5 :: l6 :: l7 :: l8 :: l9 :: l10 :: l11 :: l12 :: ls) 12).set 12 (some (.int x)), st, h) = _; rw [hq]; rfl) k
theorem v_inc12 {q : Int} {l0 l1 l2 l3 l4 l5 l6 l7 l8 l9 l10 l11 : Option Value} (hc : (zm_cd m)[i]? = some (bp, .iinc 12 q, len, 12, b, c, v, w, ts)) (hq : zm_cut (l0 :: l1 :: l2 :: l3 :: l4 :: l5 :: l6 :: l7 :: l8 :: l9 :: l10 :: l11 :: some (.int x) :: ls) 12 = (l0 :: l1 :: l2 :: l3 :: l4 :: l5 :: l6 :: l7 :: l8 :: l9 :: l10 :: l11 :: some (.int x) :: ls)) (k : VV sc m (i + 1) (l0 :: l1 :: l2 :: l3 :: l4 :: l5 :: l6 :: l7 :: l8 :: l9 :: l10 :: l11 :: some (.int (x + v)) :: ls) st s Q) : VV sc m i (l0 :: l1 :: l2 :: l3 :: l4 :: l5 :: l6 :: l7 :: l8 :: l9 :: l10 :: l11 :: some (.int x) :: ls) st s Q := vv_p hc (fun E h hr => by show E (m, i + 1, (zm_cut (l0 :: l1 :: l2 :: l3 :: l4 :: l5 :: l6 :: l7 :: l8 :: l9 :: l10 :: l11 :: some (.int x) :: ls) 12).set 12 (some (.int (x + v))), st, h) = _; rw [hq]; rfl) k
theorem v_incN12 {q : Int} {l0 l1 l2 l3 l4 l5 l6 l7 l8 l9 l10 l11 : Option Value} (hc : (zm_cd m)[i]? = some (bp, .iinc 12 q, len, 12, b, c, v, w, ts)) (hq : zm_cut (l0 :: l1 :: l2 :: l3 :: l4 :: l5 :: l6 :: l7 :: l8 :: l9 :: l10 :: l11 :: some (.int (nI n)) :: ls) 12 = (l0 :: l1 :: l2 :: l3 :: l4 :: l5 :: l6 :: l7 :: l8 :: l9 :: l10 :: l11 :: some (.int (nI n)) :: ls)) (hv : v = 1) (k : VV sc m (i + 1) (l0 :: l1 :: l2 :: l3 :: l4 :: l5 :: l6 :: l7 :: l8 :: l9 :: l10 :: l11 :: some (.int (nI (n + 1))) :: ls) st s Q) : VV sc m i (l0 :: l1 :: l2 :: l3 :: l4 :: l5 :: l6 :: l7 :: l8 :: l9 :: l10 :: l11 :: some (.int (nI n)) :: ls) st s Q := v_inc12 hc hq (by rw [hv, ← nI_succ]; exact k)
theorem v_il13 {l0 l1 l2 l3 l4 l5 l6 l7 l8 l9 l10 l11 l12 : Option Value} (hc : (zm_cd m)[i]? = some (bp, .iload 13, len, 13, b, c, v, w, ts)) (k : VV sc m (i + 1) (l0 :: l1 :: l2 :: l3 :: l4 :: l5 :: l6 :: l7 :: l8 :: l9 :: l10 :: l11 :: l12 :: some (.int x) :: ls) (.int x :: st) s Q) : VV sc m i (l0 :: l1 :: l2 :: l3 :: l4 :: l5 :: l6 :: l7 :: l8 :: l9 :: l10 :: l11 :: l12 :: some (.int x) :: ls) st s Q := vv_p hc (fun E h hr => rfl) k
theorem v_is13 {l0 l1 l2 l3 l4 l5 l6 l7 l8 l9 l10 l11 l12 l13 : Option Value} (hc : (zm_cd m)[i]? = some (bp, .istore 13, len, 13, b, c, v, w, ts)) (hq : zm_cut (l0 :: l1 :: l2 :: l3 :: l4 :: l5 :: l6 :: l7 :: l8 :: l9 :: l10 :: l11 :: l12 :: l13 :: ls) 13 = (l0 :: l1 :: l2 :: l3 :: l4 :: l5 :: l6 :: l7 :: l8 :: l9 :: l10 :: l11 :: l12 :: l13 :: ls)) (k : VV sc m (i + 1) (l0 :: l1 :: l2 :: l3 :: l4 :: l5 :: l6 :: l7 :: l8 :: l9 :: l10 :: l11 :: l12 :: some (.int x) :: ls) st s Q) : VV sc m i (l0 :: l1 :: l2 :: l3 :: l4 :: l5 :: l6 :: l7 :: l8 :: l9 :: l10 :: l11 :: l12 :: l13 :: ls) (.int x :: st) s Q := vv_p hc (fun E h hr => by show E (m, i + 1, (zm_cut (l0 :: l1 :: l2 :: l3 :: l4 :: l5 :: l6 :: l7 :: l8 :: l9 :: l10 :: l11 :: l12 :: l13 :: ls) 13).set 13 (some (.int x)), st, h) = _; rw [hq]; rfl) k
theorem v_inc13 {q : Int} {l0 l1 l2 l3 l4 l5 l6 l7 l8 l9 l10 l11 l12 : Option Value} (hc : (zm_cd m)[i]? = some (bp, .iinc 13 q, len, 13, b, c, v, w, ts)) (hq : zm_cut (l0 :: l1 :: l2 :: l3 :: l4 :: l5 :: l6 :: l7 :: l8 :: l9 :: l10 :: l11 :: l12 :: some (.int x) :: ls) 13 = (l0 :: l1 :: l2 :: l3 :: l4 :: l5 :: l6 :: l7 :: l8 :: l9 :: l10 :: l11 :: l12 :: some (.int x) :: ls)) (k : VV sc m (i + 1) (l0 :: l1 :: l2 :: l3 :: l4 :: l5 :: l6 :: l7 :: l8 :: l9 :: l10 :: l11 :: l12 :: some (.int (x + v)) :: ls) st s Q) : VV sc m i (l0 :: l1 :: l2 :: l3 :: l4 :: l5 :: l6 :: l7 :: l8 :: l9 :: l10 :: l11 :: l12 :: some (.int x) :: ls) st s Q := vv_p hc (fun E h hr => by show E (m, i + 1, (zm_cut (l0 :: l1 :: l2 :: l3 :: l4 :: l5 :: l6 :: l7 :: l8 :: l9 :: l10 :: l11 :: l12 :: some (.int x) :: ls) 13).set 13 (some (.int (x + v))), st, h) = _; rw [hq]; rfl) k
theorem v_incN13 {q : Int} {l0 l1 l2 l3 l4 l5 l6 l7 l8 l9 l10 l11 l12 : Option Value} (hc : (zm_cd m)[i]? = some (bp, .iinc 13 q, len, 13, b, c, v, w, ts)) (hq : zm_cut (l0 :: l1 :: l2 :: l3 :: l4 :: l5 :: l6 :: l7 :: l8 :: l9 :: l10 :: l11 :: l12 :: some (.int (nI n)) :: ls) 13 = (l0 :: l1 :: l2 :: l3 :: l4 :: l5 :: l6 :: l7 :: l8 :: l9 :: l10 :: l11 :: l12 :: some (.int (nI n)) :: ls)) (hv : v = 1) (k : VV sc m (i + 1) (l0 :: l1 :: l2 :: l3 :: l4 :: l5 :: l6 :: l7 :: l8 :: l9 :: l10 :: l11 :: l12 :: some (.int (nI (n + 1))) :: ls) st s Q) : VV sc m i (l0 :: l1 :: l2 :: l3 :: l4 :: l5 :: l6 :: l7 :: l8 :: l9 :: l10 :: l11 :: l12 :: some (.int (nI n)) :: ls) st s Q := v_inc13 hc hq (by rw [hv, ← nI_succ]; exact k)
theorem v_il14 {l0 l1 l2 l3 l4 l5 l6 l7 l8 l9 l10 l11 l12 l13 : Option Value} (hc : (zm_cd m)[i]? = some (bp, .iload 14, len, 14, b, c, v, w, ts)) (k : VV sc m (i + 1) (l0 :: l1 :: l2 :: l3 :: l4 :: l5 :: l6 :: l7 :: l8 :: l9 :: l10 :: l11 :: l12 :: l13 :: some (.int x) :: ls) (.int x :: st) s Q) : VV sc m i (l0 :: l1 :: l2 :: l3 :: l4 :: l5 :: l6 :: l7 :: l8 :: l9 :: l10 :: l11 :: l12 :: l13 :: some (.int x) :: ls) st s Q := vv_p hc (fun E h hr => rfl) k
theorem v_is14 {l0 l1 l2 l3 l4 l5 l6 l7 l8 l9 l10 l11 l12 l13 l14 : Option Value} (hc : (zm_cd m)[i]? = some (bp, .istore 14, len, 14, b, c, v, w, ts)) (hq : zm_cut (l0 :: l1 :: l2 :: l3 :: l4 :: l5 :: l6 :: l7 :: l8 :: l9 :: l10 :: l11 :: l12 :: l13 :: l14 :: ls) 14 = (l0 :: l1 :: l2 :: l3 :: l4 :: l5 :: l6 :: l7 :: l8 :: l9 :: l10 :: l11 :: l12 :: l13 :: l14 :: ls)) (k : VV sc m (i + 1) (l0 :: l1 :: l2 :: l3 :: l4 :: l5 :: l6 :: l7 :: l8 :: l9 :: l10 :: l11 :: l12 :: l13 :: some (.int x) :: ls) st s Q) : VV sc m i (l0 :: l1 :: l2 :: l3 :: l4 :: l5 :: l6 :: l7 :: l8 :: l9 :: l10 :: l11 :: l12 :: l13 :: l14 :: ls) (.int x :: st) s Q := vv_p hc (fun E h hr => by show E (m, i + 1, (zm_cut (l0 :: l1 :: l2 :: l3 :: l4 :: l5 :: l6 :: l7 :: l8 :: l9 :: l10 :: l11 :: l12 :: l13 :: l14 :: ls) 14).set 14 (some (.int x)), st, h) = _; rw [hq]; rfl) k
theorem v_inc14 {q : Int} {l0 l1 l2 l3 l4 l5 l6 l7 l8 l9 l10 l11 l12 l13 : Option Value} (hc : (zm_cd m)[i]? = some (bp, .iinc 14 q, len, 14, b, c, v, w, ts)) (hq : zm_cut (l0 :: l1 :: l2 :: l3 :: l4 :: l5 :: l6 :: l7 :: l8 :: l9 :: l10 :: l11 :: l12 :: l13 :: some (.int x) :: ls) 14 = (l0 :: l1 :: l2 :: l3 :: l4 :: l5 :: l6 :: l7 :: l8 :: l9 :: l10 :: l11 :: l12 :: l13 :: some (.int x) :: ls)) (k : VV sc m (i + 1) (l0 :: l1 :: l2 :: l3 :: l4 :: l5 :: l6 :: l7 :: l8 :: l9 :: l10 :: l11 :: l12 :: l13 :: some (.int (x + v)) :: ls) st s Q) : VV sc m i (l0 :: l1 :: l2 :: l3 :: l4 :: l5 :: l6 :: l7 :: l8 :: l9 :: l10 :: l11 :: l12 :: l13 :: some (.int x) :: ls) st s Q := vv_p hc (fun E h hr => by show E (m, i + 1, (zm_cut (l0 :: l1 :: l2 :: l3 :: l4 :: l5 :: l6 :: l7 :: l8 :: l9 :: l10 :: l11 :: l12 :: l13 :: some (.int x) :: ls) 14).set 14 (some (.int (x + v))), st, h) = _; rw [hq]; rfl) k
theorem v_incN14 {q : Int} {l0 l1 l2 l3 l4 l5 l6 l7 l8 l9 l10 l11 l12 l13 : Option Value} (hc : (zm_cd m)[i]? = some (bp, .iinc 14 q, len, 14, b, c, v, w, ts)) (hq : zm_cut (l0 :: l1 :: l2 :: l3 :: l4 :: l5 :: l6 :: l7 :: l8 :: l9 :: l10 :: l11 :: l12 :: l13 :: some (.int (nI n)) :: ls) 14 = (l0 :: l1 :: l2 :: l3 :: l4 :: l5 :: l6 :: l7 :: l8 :: l9 :: l10 :: l11 :: l12 :: l13 :: some (.int (nI n)) :: ls)) (hv : v = 1) (k : VV sc m (i + 1) (l0 :: l1 :: l2 :: l3 :: l4 :: l5 :: l6 :: l7 :: l8 :: l9 :: l10 :: l11 :: l12 :: l13 :: some (.int (nI (n + 1))) :: ls) st s Q) : VV sc m i (l0 :: l1 :: l2 :: l3 :: l4 :: l5 :: l6 :: l7 :: l8 :: l9 :: l10 :: l11 :: l12 :: l13 :: some (.int (nI n)) :: ls) st s Q := v_inc14 hc hq (by rw [hv, ← nI_succ]; exact k)
end MORE
section LAW0
variable {sc : Nat × (Nat → Int32)} {s : zv_S}
/-- a comparison's 1 or 0 -/
theorem v_tne {m i bp len a b c bp1 len1 a1 b1 c1 bp2 len2 e b2 c2 bp3 len3 a3 b3 c3 n1 n2 : Nat} {q q2 : Int} {k1 k3 : Int} {v v2 : Int32} {w w1 w2 w3 : Int64} {ts ts1 ts2 ts3 : List Nat} {ls : zm_L} {st : List Value} {Q : zm_O → zv_S → Prop}
    (h0 : (zm_cd m)[i]? = some (bp, .if_icmp .ne q, len, a, b, c, v, w, ts)) (h1 : (zm_cd m)[i + 1]? = some (bp1, .iconst k1, len1, a1, b1, c1, 1, w1, ts1)) (h2 : (zm_cd m)[i + 1 + 1]? = some (bp2, .goto q2, len2, e, b2, c2, v2, w2, ts2)) (h3 : (zm_cd m)[a]? = some (bp3, .iconst k3, len3, a3, b3, c3, 0, w3, ts3)) (he : e = a + 1) (hn1 : n1 < 2147483648) (hn2 : n2 < 2147483648)
    (k : VV sc m e ls (.int (nI (decide (n1 = n2)).toNat) :: st) s Q) : VV sc m i ls (.int (nI n2) :: .int (nI n1) :: st) s Q := by
  subst he
  by_cases d : n1 = n2
  · rw [decide_eq_true d] at k
    refine v_icmp_ne_F h0 d hn1 hn2 ?_
    refine v_icN (n := 1) h1 rfl ?_
    exact v_goto h2 k
  · rw [decide_eq_false d] at k
    refine v_icmp_ne_T h0 d hn1 hn2 ?_
    exact v_icN (n := 0) h3 rfl k
theorem tb0 {x k : Nat} (h : x.testBit k = false) : x / 2 ^ k &&& 1 = 0 := by rw [tb_and, h]; rfl
theorem tb1 {x k : Nat} (h : x.testBit k = true) : x / 2 ^ k &&& 1 = 1 := by rw [tb_and, h]; rfl
theorem l_one {x : Nat} (hx : x < 128) : RI sc 186 [.int (nI x)] s (nI (pc x)) s := by
  refine cc_of ml_186 rfl rfl ?_
  refine v_icN (n := 0) c_186_0 rfl ?_
  refine v_is1 c_186_1 rfl ?_
  refine v_icN (n := 0) c_186_2 rfl ?_
  refine v_is2 c_186_3 rfl ?_
  refine vv_for 7 (fun i => [some (.int (nI x)), some (.int (nI (bS x i))), some (.int (nI i))]) ?_ ?_
  · intro i hi hk
    rw [bS_s] at hk
    refine v_il2 c_186_4 ?_
    refine v_bpN (n := 7) c_186_5 rfl ?_
    refine v_icmp_ge_F c_186_6 (by omega) (by omega) (by omega) ?_
    refine v_il1 c_186_7 ?_
    refine v_il0 c_186_8 ?_
    refine v_il2 c_186_9 ?_
    refine v_ishrN c_186_10 (by omega) (by omega) ?_
    refine v_icN (n := 1) c_186_11 rfl ?_
    refine v_iandN c_186_12 ?_
    rw [tb_and]
    refine v_iaddN c_186_13 ?_
    refine v_is1 c_186_14 rfl ?_
    refine v_incN2 c_186_15 rfl rfl ?_
    refine v_goto c_186_16 ?_
    exact hk
  · refine v_il2 c_186_4 ?_
    refine v_bpN (n := 7) c_186_5 rfl ?_
    refine v_icmp_ge_T c_186_6 (by omega) (by omega) (by omega) ?_
    refine v_il1 c_186_17 ?_
    exact v_ri c_186_18 ⟨_, rfl, by rw [bS_pc hx], rfl⟩
theorem nI_any (x : Int32) : ∃ n : Nat, x = nI n := ⟨x.toBitVec.toNat, by
  apply Int32.toBitVec_inj.mp
  simp only [nI, nI_bv]
  rw [BitVec.ofNat_toNat, BitVec.setWidth_eq]⟩
theorem nI_msk (x : Int32) : ∃ y, y < 2147483648 ∧ x &&& 2147483647 = nI y := by
  obtain ⟨n, rfl⟩ := nI_any x
  refine ⟨n &&& 2147483647, ?_, ?_⟩
  · exact Nat.lt_of_le_of_lt Nat.and_le_right (by omega)
  · rw [show (2147483647 : Int32) = nI 2147483647 from rfl, nI_and]
end LAW0
section LAW1
variable {L0 : Nat} {xs : Nat → Int32} {s : zv_S}
theorem l_cell (hL : L0 ≤ 260) {z : UInt32} {k : Nat} (hk : k < 1000) : CC (L0, xs) 185 [.float z, .int (nI k)] s (QI fun x t => (∃ y, y < 2147483648 ∧ x = nI y) ∧ t = s) := by
  refine cc_of ml_185 rfl rfl ?_
  by_cases c : k < L0
  · refine v_il1 c_185_0 ?_
    refine v_aS0 c_185_1 ?_
    refine v_slen c_185_2 ?_
    refine v_icmp_ge_F c_185_3 (by omega) (by omega) (by omega) ?_
    refine v_aS0 c_185_4 ?_
    refine v_il1 c_185_5 ?_
    refine v_sld c_185_6 (by omega) (by omega) ?_
    refine v_goto c_185_7 ?_
    refine v_ld c_185_13 ?_
    refine v_iand c_185_14 ?_
    obtain ⟨y, y1, y2⟩ := nI_msk (xs k)
    rw [y2]
    refine v_ri c_185_15 ?_
    exact ⟨_, rfl, ⟨y, y1, rfl⟩, rfl⟩
  · refine v_il1 c_185_0 ?_
    refine v_aS0 c_185_1 ?_
    refine v_slen c_185_2 ?_
    refine v_icmp_ge_T c_185_3 (by omega) (by omega) (by omega) ?_
    refine v_ld c_185_8 ?_
    refine v_il1 c_185_9 ?_
    refine v_imul c_185_10 ?_
    refine v_spN (n := 1307) c_185_11 rfl ?_
    refine v_iadd c_185_12 ?_
    refine v_ld c_185_13 ?_
    refine v_iand c_185_14 ?_
    obtain ⟨y, y1, y2⟩ := nI_msk ((15558901 : Int32) * nI k + nI 1307)
    rw [y2]
    refine v_ri c_185_15 ?_
    exact ⟨_, rfl, ⟨y, y1, rfl⟩, rfl⟩
end LAW1
section LAW2
variable {sc : Nat × (Nat → Int32)} {s : zv_S} {M : zM} {L : List zM} {S : Nat → Option zM} {tx : Nat → Nat} {len : Nat}
theorem f_fi (hw : MW M) {i : Nat} (hi : i < mN M) : tFi (mT M (mP M)) i = if (mP M).testBit i then nI (chs (mN M) (mR M) (mH M) (mP M) i) else -9 := by
  obtain ⟨q, r, k, rr, h1, h2, h3, h4, h5, h6⟩ := mXX hw
  exact h6 i hi
theorem f_no (hw : MW M) {i : Nat} (hi : i < mN M) (ho : (mP M).testBit i = false) : tGe (mT M (mP M)) i = -9 ∧ tRf (mT M (mP M)) i = -9 ∧ tGf (mT M (mP M)) i = -9 := by
  obtain ⟨q, r, k, R, rr, ⟨h1, -⟩, -⟩ := mTX hw (mP_n (M := M))
  exact h1 i hi ho
theorem f_yes {i : Nat} (hi : i < mN M) (hl : (mL M).testBit i = false) : (mP M).testBit i = true := by
  rw [mP_tb, hl, decide_eq_true hi]; rfl
theorem f_nay {i : Nat} (hl : (mL M).testBit i = true) : (mP M).testBit i = false := by
  rw [mP_tb, hl, Bool.not_true, Bool.and_false]

theorem a_tr2y (hw : MW M) (h : RZ s (M, L, S, tx, len)) {i : Nat} (hi : i < mN M) (hl : (mL M).testBit i = false) : CC sc 6 [.ref 0, .int (nI i), .int (nI 2)] s (AP (nI 1) (M, L, S, tx, len)) := by
  have e := a_tr2 (sc := sc) hw h hi
  have e2 : pI M i = nI 1 := by unfold pI; rw [hl]; rfl
  rw [e2] at e
  exact e
theorem a_tr2n (hw : MW M) (h : RZ s (M, L, S, tx, len)) {i : Nat} (hi : i < mN M) (hl : (mL M).testBit i = true) : CC sc 6 [.ref 0, .int (nI i), .int (nI 2)] s (AP (nI 0) (M, L, S, tx, len)) := by
  have e := a_tr2 (sc := sc) hw h hi
  have e2 : pI M i = nI 0 := by unfold pI; rw [hl]; rfl
  rw [e2] at e
  exact e
theorem a_tr3y (hw : MW M) (h : RZ s (M, L, S, tx, len)) {i : Nat} (hi : i < mN M) (hl : (mL M).testBit i = false) : CC sc 6 [.ref 0, .int (nI i), .int (nI 3)] s (AP (nI (gT M (mP M) i)) (M, L, S, tx, len)) := by
  have e := a_tr3 (sc := sc) hw h hi
  rw [(gT_ok hw mP_n (f_yes hi hl)).1] at e
  exact e
theorem a_tr6y (hw : MW M) (h : RZ s (M, L, S, tx, len)) {i : Nat} (hi : i < mN M) (hl : (mL M).testBit i = false) : CC sc 6 [.ref 0, .int (nI i), .int (nI 6)] s (AP (nI (chs (mN M) (mR M) (mH M) (mP M) i)) (M, L, S, tx, len)) := by
  have e := a_tr6 (sc := sc) hw h hi
  rw [f_fi hw hi, f_yes hi hl, if_pos rfl] at e
  exact e
theorem a_tr3n (hw : MW M) (h : RZ s (M, L, S, tx, len)) {i : Nat} (hi : i < mN M) (hl : (mL M).testBit i = true) : CC sc 6 [.ref 0, .int (nI i), .int (nI 3)] s (AP (-9) (M, L, S, tx, len)) := by
  have e := a_tr3 (sc := sc) hw h hi
  rw [(f_no hw hi (f_nay hl)).1] at e
  exact e
theorem a_tr4n (hw : MW M) (h : RZ s (M, L, S, tx, len)) {i : Nat} (hi : i < mN M) (hl : (mL M).testBit i = true) : CC sc 6 [.ref 0, .int (nI i), .int (nI 4)] s (AP (-9) (M, L, S, tx, len)) := by
  have e := a_tr4 (sc := sc) hw h hi
  rw [(f_no hw hi (f_nay hl)).2.1] at e
  exact e
theorem a_tr5n (hw : MW M) (h : RZ s (M, L, S, tx, len)) {i : Nat} (hi : i < mN M) (hl : (mL M).testBit i = true) : CC sc 6 [.ref 0, .int (nI i), .int (nI 5)] s (AP (-9) (M, L, S, tx, len)) := by
  have e := a_tr5 (sc := sc) hw h hi
  rw [(f_no hw hi (f_nay hl)).2.2] at e
  exact e
theorem a_tr6n (hw : MW M) (h : RZ s (M, L, S, tx, len)) {i : Nat} (hi : i < mN M) (hl : (mL M).testBit i = true) : CC sc 6 [.ref 0, .int (nI i), .int (nI 6)] s (AP (-9) (M, L, S, tx, len)) := by
  have e := a_tr6 (sc := sc) hw h hi
  rw [f_fi hw hi, f_nay hl, if_neg (by decide)] at e
  exact e
theorem l_tra (hw : MW M) (h : RZ s (M, L, S, tx, len)) : CC sc 187 [.ref 0] s (AP (bI true) (M, L, S, tx, len)) := by
  refine cc_of ml_187 rfl rfl ?_
  have h7 := hw.1
  refine v_icN (n := 0) c_187_0 rfl ?_
  refine v_is1 c_187_1 rfl ?_
  refine v_icN (n := 0) c_187_2 rfl ?_
  refine v_is2 c_187_3 rfl ?_
  refine v_icN (n := 0) c_187_4 rfl ?_
  refine v_is3 c_187_5 rfl ?_
  refine v_icN (n := 0) c_187_6 rfl ?_
  refine v_is4 c_187_7 rfl ?_
  refine v_icN (n := 0) c_187_8 rfl ?_
  refine v_is5 c_187_9 rfl ?_
  refine v_icN (n := 0) c_187_10 rfl ?_
  refine v_is6 c_187_11 rfl ?_
  refine v_icN (n := 1) c_187_12 rfl ?_
  refine v_is7 c_187_13 rfl ?_
  refine v_icN (n := 0) c_187_14 rfl ?_
  refine v_is8 c_187_15 rfl ?_
  refine vv_forS (mN M) (fun i ls u => (∃ y9 y10 y11 y12, ls = [some (.ref 0), some (.int (nI (orS (fun i => 1 * 2 ^ mH M i) i))), some (.int (nI (orS (fun i => if (mP M).testBit i then 1 * 2 ^ gT M (mP M) i else 0) i))), some (.int (nI (orS (fun i => if (mP M).testBit i then 1 * 2 ^ mH M i else 0) i))), some (.int (nI (smm (fun i => mR M i (mH M i)) i))), some (.int (nI (cnt (fun i => decide (mH M i = i)) i))), some (.int (nI (smm (fun i => cnt (fun j => mEn M i j) (mN M)) i))), some (.int (nI 1)), some (.int (nI i)), y9, y10, y11, y12]) ∧ RZ u (M, L, S, tx, len)) ?_ ?_ _ _ ⟨⟨none, none, none, none, rfl⟩, h⟩
  · rintro i ls u hi ⟨⟨y9, y10, y11, y12, rfl⟩, h⟩ hk
    have bi := hw.2.2.2.1 i hi
    have r0 := hw.2.2.1 i _ hi bi
    rw [orS_s, orS_s, orS_s, smm_s, cnt_s, smm_s] at hk
    cases hl : (mL M).testBit i
    · have ho := f_yes hi hl
      rw [ho, if_pos rfl, if_pos rfl] at hk
      have g2 := (gT_ok hw mP_n ho).2
      obtain ⟨f1, f2, f3⟩ := f_get hw ho
      have r1 := hw.2.2.1 i _ hi g2
      have bf := hw.2.2.2.1 _ f2
      refine v_il8 c_187_16 ?_
      refine v_al0 c_187_17 ?_
      refine v_icN (n := 0) c_187_18 rfl ?_
      refine v_cVI c_187_19 rfl (by decide) rfl rfl (a_ab0 hw h) ?_
      rintro _ u ⟨rfl, h⟩
      refine v_icmp_ge_F c_187_20 (by omega) (by omega) (by omega) ?_
      refine v_il7 c_187_21 ?_
      refine v_if_eq_F c_187_22 (by omega) (by omega) ?_
      refine v_al0 c_187_23 ?_
      refine v_il8 c_187_24 ?_
      refine v_icN (n := 0) c_187_25 rfl ?_
      refine v_cVI c_187_26 rfl (by decide) rfl rfl (a_tr0 hw h hi) ?_
      rintro _ u ⟨rfl, h⟩
      refine v_is9 c_187_27 rfl ?_
      refine v_il1 c_187_28 ?_
      refine v_icN (n := 1) c_187_29 rfl ?_
      refine v_il9 c_187_30 ?_
      refine v_ishlN c_187_31 (by omega) ?_
      refine v_iorN c_187_32 ?_
      refine v_is1 c_187_33 rfl ?_
      refine v_il4 c_187_34 ?_
      refine v_al0 c_187_35 ?_
      refine v_il8 c_187_36 ?_
      refine v_il9 c_187_37 ?_
      refine v_cVI c_187_38 rfl (by decide) rfl rfl (a_rnk hw h hi bi) ?_
      rintro _ u ⟨rfl, h⟩
      refine v_iaddN c_187_39 ?_
      refine v_is4 c_187_40 rfl ?_
      refine v_il5 c_187_41 ?_
      refine v_il9 c_187_42 ?_
      refine v_il8 c_187_43 ?_
      refine v_tne c_187_44 c_187_45 c_187_46 c_187_47 rfl (by omega) (by omega) ?_
      refine v_iaddN c_187_48 ?_
      refine v_is5 c_187_49 rfl ?_
      refine v_al0 c_187_50 ?_
      refine v_il9 c_187_51 ?_
      refine v_cVI c_187_52 rfl (by decide) rfl rfl (a_hld hw h hi) ?_
      rintro _ u ⟨rfl, h⟩
      refine v_il8 c_187_53 ?_
      refine v_icmp_ne_F c_187_54 (by omega) (by omega) (by omega) ?_
      refine v_al0 c_187_55 ?_
      refine v_il8 c_187_56 ?_
      refine v_icN (n := 1) c_187_57 rfl ?_
      refine v_cVI c_187_58 rfl (by decide) rfl rfl (a_tr1 hw h hi) ?_
      rintro _ u ⟨rfl, h⟩
      refine v_al0 c_187_59 ?_
      refine v_il8 c_187_60 ?_
      refine v_il9 c_187_61 ?_
      refine v_cVI c_187_62 rfl (by decide) rfl rfl (a_rnk hw h hi bi) ?_
      rintro _ u ⟨rfl, h⟩
      refine v_icmp_ne_F c_187_63 (by omega) (by omega) (by omega) ?_
      refine v_icN (n := 1) c_187_64 rfl ?_
      refine v_goto c_187_65 ?_
      refine v_is7 c_187_67 rfl ?_
      refine v_al0 c_187_68 ?_
      refine v_il8 c_187_69 ?_
      refine v_icN (n := 2) c_187_70 rfl ?_
      refine v_cVI c_187_71 rfl (by decide) rfl rfl (a_tr2y hw h hi hl) ?_
      rintro _ u ⟨rfl, h⟩
      refine v_icN (n := 1) c_187_72 rfl ?_
      refine v_icmp_ne_F c_187_73 (by omega) (by omega) (by omega) ?_
      refine v_icN (n := 1) c_187_74 rfl ?_
      refine v_goto c_187_75 ?_
      refine v_is10 c_187_77 rfl ?_
      refine v_al0 c_187_78 ?_
      refine v_il8 c_187_79 ?_
      refine v_icN (n := 3) c_187_80 rfl ?_
      refine v_cVI c_187_81 rfl (by decide) rfl rfl (a_tr3y hw h hi hl) ?_
      rintro _ u ⟨rfl, h⟩
      refine v_is11 c_187_82 rfl ?_
      refine v_il3 c_187_83 ?_
      refine v_il10 c_187_84 ?_
      refine v_if_eq_F c_187_85 (by omega) (by omega) ?_
      refine v_icN (n := 1) c_187_86 rfl ?_
      refine v_il9 c_187_87 ?_
      refine v_ishlN c_187_88 (by omega) ?_
      refine v_goto c_187_89 ?_
      refine v_iorN c_187_91 ?_
      refine v_is3 c_187_92 rfl ?_
      refine v_il2 c_187_93 ?_
      refine v_il10 c_187_94 ?_
      refine v_if_eq_F c_187_95 (by omega) (by omega) ?_
      refine v_icN (n := 1) c_187_96 rfl ?_
      refine v_il11 c_187_97 ?_
      refine v_ishlN c_187_98 (by omega) ?_
      refine v_goto c_187_99 ?_
      refine v_iorN c_187_101 ?_
      refine v_is2 c_187_102 rfl ?_
      refine v_il7 c_187_103 ?_
      refine v_if_eq_F c_187_104 (by omega) (by omega) ?_
      refine v_il10 c_187_105 ?_
      refine v_if_eq_F c_187_106 (by omega) (by omega) ?_
      refine v_al0 c_187_107 ?_
      refine v_il8 c_187_108 ?_
      refine v_il11 c_187_109 ?_
      refine v_cVI c_187_110 rfl (by decide) rfl rfl (a_rnk hw h hi g2) ?_
      rintro _ u ⟨rfl, h⟩
      refine v_al0 c_187_111 ?_
      refine v_il8 c_187_112 ?_
      refine v_il9 c_187_113 ?_
      refine v_cVI c_187_114 rfl (by decide) rfl rfl (a_rnk hw h hi bi) ?_
      rintro _ u ⟨rfl, h⟩
      refine v_icmp_gt_F c_187_115 (by omega) (by omega) (by omega) ?_
      refine v_al0 c_187_116 ?_
      refine v_il8 c_187_117 ?_
      refine v_al0 c_187_118 ?_
      refine v_al0 c_187_119 ?_
      refine v_il8 c_187_120 ?_
      refine v_bpN (n := 6) c_187_121 rfl ?_
      refine v_cVI c_187_122 rfl (by decide) rfl rfl (a_tr6y hw h hi hl) ?_
      rintro _ u ⟨rfl, h⟩
      refine v_icN (n := 0) c_187_123 rfl ?_
      refine v_cVI c_187_124 rfl (by decide) rfl rfl (a_tr0 hw h f2) ?_
      rintro _ u ⟨rfl, h⟩
      refine v_cVI c_187_125 rfl (by decide) rfl rfl (a_rnk hw h hi bf) ?_
      rintro _ u ⟨rfl, h⟩
      refine v_al0 c_187_126 ?_
      refine v_il8 c_187_127 ?_
      refine v_il11 c_187_128 ?_
      refine v_cVI c_187_129 rfl (by decide) rfl rfl (a_rnk hw h hi g2) ?_
      rintro _ u ⟨rfl, h⟩
      refine v_icmp_gt_F c_187_130 (by omega) (by omega) (by omega) ?_
      refine v_goto c_187_131 ?_
      refine v_icN (n := 1) c_187_153 rfl ?_
      refine v_goto c_187_154 ?_
      refine v_is7 c_187_156 rfl ?_
      refine v_icN (n := 0) c_187_157 rfl ?_
      refine v_is12 c_187_158 rfl ?_
      refine vv_forS (mN M) (fun j ls v => ls = [some (.ref 0), some (.int (nI (orS (fun i => 1 * 2 ^ mH M i) i ||| 1 * 2 ^ mH M i))), some (.int (nI (orS (fun i => if (mP M).testBit i then 1 * 2 ^ gT M (mP M) i else 0) i ||| 1 * 2 ^ gT M (mP M) i))), some (.int (nI (orS (fun i => if (mP M).testBit i then 1 * 2 ^ mH M i else 0) i ||| 1 * 2 ^ mH M i))), some (.int (nI (smm (fun i => mR M i (mH M i)) i + mR M i (mH M i)))), some (.int (nI (cnt (fun i => decide (mH M i = i)) i + (decide (mH M i = i)).toNat))), some (.int (nI (smm (fun i => cnt (fun j => mEn M i j) (mN M)) i + cnt (fun j => mEn M i j) j))), some (.int (nI 1)), some (.int (nI i)), some (.int (nI (mH M i))), some (.int (nI 1)), some (.int (nI (gT M (mP M) i))), some (.int (nI j))] ∧ RZ v (M, L, S, tx, len)) ?_ ?_ _ _ ⟨rfl, h⟩
      · rintro j ls u hj ⟨rfl, h⟩ hkk
        have bj := hw.2.2.2.1 j hj
        have r2 := hw.2.2.1 i _ hi bj
        cases hl2 : (mL M).testBit j
        · by_cases d : mR M i (mH M j) < mR M i (mH M i)
          · rw [cnt_t (p := fun j => mEn M i j) (by simp [mEn, hl, hl2, d])] at hkk
            refine v_il12 c_187_159 ?_
            refine v_al0 c_187_160 ?_
            refine v_icN (n := 0) c_187_161 rfl ?_
            refine v_cVI c_187_162 rfl (by decide) rfl rfl (a_ab0 hw h) ?_
            rintro _ u ⟨rfl, h⟩
            refine v_icmp_ge_F c_187_163 (by omega) (by omega) (by omega) ?_
            refine v_il6 c_187_164 ?_
            refine v_il10 c_187_165 ?_
            refine v_if_eq_F c_187_166 (by omega) (by omega) ?_
            refine v_al0 c_187_167 ?_
            refine v_il12 c_187_168 ?_
            refine v_icN (n := 2) c_187_169 rfl ?_
            refine v_cVI c_187_170 rfl (by decide) rfl rfl (a_tr2y hw h hj hl2) ?_
            rintro _ u ⟨rfl, h⟩
            refine v_icN (n := 1) c_187_171 rfl ?_
            refine v_icmp_ne_F c_187_172 (by omega) (by omega) (by omega) ?_
            refine v_al0 c_187_173 ?_
            refine v_il8 c_187_174 ?_
            refine v_al0 c_187_175 ?_
            refine v_il12 c_187_176 ?_
            refine v_icN (n := 0) c_187_177 rfl ?_
            refine v_cVI c_187_178 rfl (by decide) rfl rfl (a_tr0 hw h hj) ?_
            rintro _ u ⟨rfl, h⟩
            refine v_cVI c_187_179 rfl (by decide) rfl rfl (a_rnk hw h hi bj) ?_
            rintro _ u ⟨rfl, h⟩
            refine v_al0 c_187_180 ?_
            refine v_il8 c_187_181 ?_
            refine v_il9 c_187_182 ?_
            refine v_cVI c_187_183 rfl (by decide) rfl rfl (a_rnk hw h hi bi) ?_
            rintro _ u ⟨rfl, h⟩
            refine v_icmp_ge_F c_187_184 (by omega) (by omega) (by omega) ?_
            refine v_icN (n := 1) c_187_185 rfl ?_
            refine v_goto c_187_186 ?_
            refine v_iaddN c_187_188 ?_
            refine v_is6 c_187_189 rfl ?_
            refine v_incN12 c_187_190 rfl rfl ?_
            refine v_goto c_187_191 ?_
            exact hkk _ _ ⟨rfl, h⟩
          · rw [cnt_f (p := fun j => mEn M i j) (by simp [mEn, hl, hl2, d])] at hkk
            refine v_il12 c_187_159 ?_
            refine v_al0 c_187_160 ?_
            refine v_icN (n := 0) c_187_161 rfl ?_
            refine v_cVI c_187_162 rfl (by decide) rfl rfl (a_ab0 hw h) ?_
            rintro _ u ⟨rfl, h⟩
            refine v_icmp_ge_F c_187_163 (by omega) (by omega) (by omega) ?_
            refine v_il6 c_187_164 ?_
            refine v_il10 c_187_165 ?_
            refine v_if_eq_F c_187_166 (by omega) (by omega) ?_
            refine v_al0 c_187_167 ?_
            refine v_il12 c_187_168 ?_
            refine v_icN (n := 2) c_187_169 rfl ?_
            refine v_cVI c_187_170 rfl (by decide) rfl rfl (a_tr2y hw h hj hl2) ?_
            rintro _ u ⟨rfl, h⟩
            refine v_icN (n := 1) c_187_171 rfl ?_
            refine v_icmp_ne_F c_187_172 (by omega) (by omega) (by omega) ?_
            refine v_al0 c_187_173 ?_
            refine v_il8 c_187_174 ?_
            refine v_al0 c_187_175 ?_
            refine v_il12 c_187_176 ?_
            refine v_icN (n := 0) c_187_177 rfl ?_
            refine v_cVI c_187_178 rfl (by decide) rfl rfl (a_tr0 hw h hj) ?_
            rintro _ u ⟨rfl, h⟩
            refine v_cVI c_187_179 rfl (by decide) rfl rfl (a_rnk hw h hi bj) ?_
            rintro _ u ⟨rfl, h⟩
            refine v_al0 c_187_180 ?_
            refine v_il8 c_187_181 ?_
            refine v_il9 c_187_182 ?_
            refine v_cVI c_187_183 rfl (by decide) rfl rfl (a_rnk hw h hi bi) ?_
            rintro _ u ⟨rfl, h⟩
            refine v_icmp_ge_T c_187_184 (by omega) (by omega) (by omega) ?_
            refine v_icN (n := 0) c_187_187 rfl ?_
            refine v_iaddN c_187_188 ?_
            refine v_is6 c_187_189 rfl ?_
            refine v_incN12 c_187_190 rfl rfl ?_
            refine v_goto c_187_191 ?_
            exact hkk _ _ ⟨rfl, h⟩
        · rw [cnt_f (p := fun j => mEn M i j) (by simp [mEn, hl, hl2])] at hkk
          refine v_il12 c_187_159 ?_
          refine v_al0 c_187_160 ?_
          refine v_icN (n := 0) c_187_161 rfl ?_
          refine v_cVI c_187_162 rfl (by decide) rfl rfl (a_ab0 hw h) ?_
          rintro _ u ⟨rfl, h⟩
          refine v_icmp_ge_F c_187_163 (by omega) (by omega) (by omega) ?_
          refine v_il6 c_187_164 ?_
          refine v_il10 c_187_165 ?_
          refine v_if_eq_F c_187_166 (by omega) (by omega) ?_
          refine v_al0 c_187_167 ?_
          refine v_il12 c_187_168 ?_
          refine v_icN (n := 2) c_187_169 rfl ?_
          refine v_cVI c_187_170 rfl (by decide) rfl rfl (a_tr2n hw h hj hl2) ?_
          rintro _ u ⟨rfl, h⟩
          refine v_icN (n := 1) c_187_171 rfl ?_
          refine v_icmp_ne_T c_187_172 (by omega) (by omega) (by omega) ?_
          refine v_icN (n := 0) c_187_187 rfl ?_
          refine v_iaddN c_187_188 ?_
          refine v_is6 c_187_189 rfl ?_
          refine v_incN12 c_187_190 rfl rfl ?_
          refine v_goto c_187_191 ?_
          exact hkk _ _ ⟨rfl, h⟩
      · rintro ls u ⟨rfl, h⟩
        refine v_il12 c_187_159 ?_
        refine v_al0 c_187_160 ?_
        refine v_icN (n := 0) c_187_161 rfl ?_
        refine v_cVI c_187_162 rfl (by decide) rfl rfl (a_ab0 hw h) ?_
        rintro _ u ⟨rfl, h⟩
        refine v_icmp_ge_T c_187_163 (by omega) (by omega) (by omega) ?_
        refine v_incN8 c_187_192 rfl rfl ?_
        refine v_goto c_187_193 ?_
        exact hk _ _ ⟨⟨_, _, _, _, rfl⟩, h⟩
    · have ho := f_nay hl
      rw [ho, if_neg (by decide), if_neg (by decide)] at hk
      refine v_il8 c_187_16 ?_
      refine v_al0 c_187_17 ?_
      refine v_icN (n := 0) c_187_18 rfl ?_
      refine v_cVI c_187_19 rfl (by decide) rfl rfl (a_ab0 hw h) ?_
      rintro _ u ⟨rfl, h⟩
      refine v_icmp_ge_F c_187_20 (by omega) (by omega) (by omega) ?_
      refine v_il7 c_187_21 ?_
      refine v_if_eq_F c_187_22 (by omega) (by omega) ?_
      refine v_al0 c_187_23 ?_
      refine v_il8 c_187_24 ?_
      refine v_icN (n := 0) c_187_25 rfl ?_
      refine v_cVI c_187_26 rfl (by decide) rfl rfl (a_tr0 hw h hi) ?_
      rintro _ u ⟨rfl, h⟩
      refine v_is9 c_187_27 rfl ?_
      refine v_il1 c_187_28 ?_
      refine v_icN (n := 1) c_187_29 rfl ?_
      refine v_il9 c_187_30 ?_
      refine v_ishlN c_187_31 (by omega) ?_
      refine v_iorN c_187_32 ?_
      refine v_is1 c_187_33 rfl ?_
      refine v_il4 c_187_34 ?_
      refine v_al0 c_187_35 ?_
      refine v_il8 c_187_36 ?_
      refine v_il9 c_187_37 ?_
      refine v_cVI c_187_38 rfl (by decide) rfl rfl (a_rnk hw h hi bi) ?_
      rintro _ u ⟨rfl, h⟩
      refine v_iaddN c_187_39 ?_
      refine v_is4 c_187_40 rfl ?_
      refine v_il5 c_187_41 ?_
      refine v_il9 c_187_42 ?_
      refine v_il8 c_187_43 ?_
      refine v_tne c_187_44 c_187_45 c_187_46 c_187_47 rfl (by omega) (by omega) ?_
      refine v_iaddN c_187_48 ?_
      refine v_is5 c_187_49 rfl ?_
      refine v_al0 c_187_50 ?_
      refine v_il9 c_187_51 ?_
      refine v_cVI c_187_52 rfl (by decide) rfl rfl (a_hld hw h hi) ?_
      rintro _ u ⟨rfl, h⟩
      refine v_il8 c_187_53 ?_
      refine v_icmp_ne_F c_187_54 (by omega) (by omega) (by omega) ?_
      refine v_al0 c_187_55 ?_
      refine v_il8 c_187_56 ?_
      refine v_icN (n := 1) c_187_57 rfl ?_
      refine v_cVI c_187_58 rfl (by decide) rfl rfl (a_tr1 hw h hi) ?_
      rintro _ u ⟨rfl, h⟩
      refine v_al0 c_187_59 ?_
      refine v_il8 c_187_60 ?_
      refine v_il9 c_187_61 ?_
      refine v_cVI c_187_62 rfl (by decide) rfl rfl (a_rnk hw h hi bi) ?_
      rintro _ u ⟨rfl, h⟩
      refine v_icmp_ne_F c_187_63 (by omega) (by omega) (by omega) ?_
      refine v_icN (n := 1) c_187_64 rfl ?_
      refine v_goto c_187_65 ?_
      refine v_is7 c_187_67 rfl ?_
      refine v_al0 c_187_68 ?_
      refine v_il8 c_187_69 ?_
      refine v_icN (n := 2) c_187_70 rfl ?_
      refine v_cVI c_187_71 rfl (by decide) rfl rfl (a_tr2n hw h hi hl) ?_
      rintro _ u ⟨rfl, h⟩
      refine v_icN (n := 1) c_187_72 rfl ?_
      refine v_icmp_ne_T c_187_73 (by omega) (by omega) (by omega) ?_
      refine v_icN (n := 0) c_187_76 rfl ?_
      refine v_is10 c_187_77 rfl ?_
      refine v_al0 c_187_78 ?_
      refine v_il8 c_187_79 ?_
      refine v_icN (n := 3) c_187_80 rfl ?_
      refine v_cVI c_187_81 rfl (by decide) rfl rfl (a_tr3n hw h hi hl) ?_
      rintro _ u ⟨rfl, h⟩
      refine v_is11 c_187_82 rfl ?_
      refine v_il3 c_187_83 ?_
      refine v_il10 c_187_84 ?_
      refine v_if_eq_T c_187_85 (by omega) (by omega) ?_
      refine v_icN (n := 0) c_187_90 rfl ?_
      refine v_iorN c_187_91 ?_
      refine v_is3 c_187_92 rfl ?_
      refine v_il2 c_187_93 ?_
      refine v_il10 c_187_94 ?_
      refine v_if_eq_T c_187_95 (by omega) (by omega) ?_
      refine v_icN (n := 0) c_187_100 rfl ?_
      refine v_iorN c_187_101 ?_
      refine v_is2 c_187_102 rfl ?_
      refine v_il7 c_187_103 ?_
      refine v_if_eq_F c_187_104 (by omega) (by omega) ?_
      refine v_il10 c_187_105 ?_
      refine v_if_eq_T c_187_106 (by omega) (by omega) ?_
      refine v_il11 c_187_132 ?_
      refine v_bp c_187_133 ?_
      refine v_icmp_ne_f c_187_134 (rfl) ?_
      refine v_al0 c_187_135 ?_
      refine v_il8 c_187_136 ?_
      refine v_icN (n := 4) c_187_137 rfl ?_
      refine v_cVI c_187_138 rfl (by decide) rfl rfl (a_tr4n hw h hi hl) ?_
      rintro _ u ⟨rfl, h⟩
      refine v_bp c_187_139 ?_
      refine v_icmp_ne_f c_187_140 (rfl) ?_
      refine v_al0 c_187_141 ?_
      refine v_il8 c_187_142 ?_
      refine v_icN (n := 5) c_187_143 rfl ?_
      refine v_cVI c_187_144 rfl (by decide) rfl rfl (a_tr5n hw h hi hl) ?_
      rintro _ u ⟨rfl, h⟩
      refine v_bp c_187_145 ?_
      refine v_icmp_ne_f c_187_146 (rfl) ?_
      refine v_al0 c_187_147 ?_
      refine v_il8 c_187_148 ?_
      refine v_bpN (n := 6) c_187_149 rfl ?_
      refine v_cVI c_187_150 rfl (by decide) rfl rfl (a_tr6n hw h hi hl) ?_
      rintro _ u ⟨rfl, h⟩
      refine v_bp c_187_151 ?_
      refine v_icmp_ne_f c_187_152 (rfl) ?_
      refine v_icN (n := 1) c_187_153 rfl ?_
      refine v_goto c_187_154 ?_
      refine v_is7 c_187_156 rfl ?_
      refine v_icN (n := 0) c_187_157 rfl ?_
      refine v_is12 c_187_158 rfl ?_
      refine vv_forS (mN M) (fun j ls v => ls = [some (.ref 0), some (.int (nI (orS (fun i => 1 * 2 ^ mH M i) i ||| 1 * 2 ^ mH M i))), some (.int (nI (orS (fun i => if (mP M).testBit i then 1 * 2 ^ gT M (mP M) i else 0) i ||| 0))), some (.int (nI (orS (fun i => if (mP M).testBit i then 1 * 2 ^ mH M i else 0) i ||| 0))), some (.int (nI (smm (fun i => mR M i (mH M i)) i + mR M i (mH M i)))), some (.int (nI (cnt (fun i => decide (mH M i = i)) i + (decide (mH M i = i)).toNat))), some (.int (nI (smm (fun i => cnt (fun j => mEn M i j) (mN M)) i + cnt (fun j => mEn M i j) j))), some (.int (nI 1)), some (.int (nI i)), some (.int (nI (mH M i))), some (.int (nI 0)), some (.int (-9)), some (.int (nI j))] ∧ RZ v (M, L, S, tx, len)) ?_ ?_ _ _ ⟨rfl, h⟩
      · rintro j ls u hj ⟨rfl, h⟩ hkk
        rw [cnt_f (p := fun j => mEn M i j) (by simp [mEn, hl])] at hkk
        refine v_il12 c_187_159 ?_
        refine v_al0 c_187_160 ?_
        refine v_icN (n := 0) c_187_161 rfl ?_
        refine v_cVI c_187_162 rfl (by decide) rfl rfl (a_ab0 hw h) ?_
        rintro _ u ⟨rfl, h⟩
        refine v_icmp_ge_F c_187_163 (by omega) (by omega) (by omega) ?_
        refine v_il6 c_187_164 ?_
        refine v_il10 c_187_165 ?_
        refine v_if_eq_T c_187_166 (by omega) (by omega) ?_
        refine v_icN (n := 0) c_187_187 rfl ?_
        refine v_iaddN c_187_188 ?_
        refine v_is6 c_187_189 rfl ?_
        refine v_incN12 c_187_190 rfl rfl ?_
        refine v_goto c_187_191 ?_
        exact hkk _ _ ⟨rfl, h⟩
      · rintro ls u ⟨rfl, h⟩
        refine v_il12 c_187_159 ?_
        refine v_al0 c_187_160 ?_
        refine v_icN (n := 0) c_187_161 rfl ?_
        refine v_cVI c_187_162 rfl (by decide) rfl rfl (a_ab0 hw h) ?_
        rintro _ u ⟨rfl, h⟩
        refine v_icmp_ge_T c_187_163 (by omega) (by omega) (by omega) ?_
        refine v_incN8 c_187_192 rfl rfl ?_
        refine v_goto c_187_193 ?_
        exact hk _ _ ⟨⟨_, _, _, _, rfl⟩, h⟩
  · rintro ls u ⟨⟨y9, y10, y11, y12, rfl⟩, h⟩
    have p2 := Nat.two_pow_pos (mN M)
    have p3 := hw.p128
    have s1 : mSum M ≤ 63 := f_sum hw
    have s2 : smm (fun i => mR M i (mH M i)) (mN M) ≤ 63 := f_sum hw
    have o1 : mOwn M ≤ mN M := cnt_le _ _
    have o2 : cnt (fun i => decide (mH M i = i)) (mN M) ≤ mN M := cnt_le _ _
    have v2 : smm (fun i => cnt (fun j => mEn M i j) (mN M)) (mN M) ≤ mN M * 7 := smm_lb _ fun i _ => Nat.le_trans (cnt_le _ _) h7
    have v1 : mEnv M ≤ mN M * 7 := v2
    have hX := f_held128 hw (c := fun i => (mP M).testBit i)
    have hpc := pc_le (mP M)
    have hpx := f_ones hw
    rw [f_all hw, f_got hw]
    obtain ⟨X, eX⟩ : ∃ X, X = orS (fun i => if (mP M).testBit i then 1 * 2 ^ mH M i else 0) (mN M) := ⟨_, rfl⟩
    have hX : X < 128 := by rw [eX]; exact hX
    rw [← eX] at hpx ⊢
    refine v_il8 c_187_16 ?_
    refine v_al0 c_187_17 ?_
    refine v_icN (n := 0) c_187_18 rfl ?_
    refine v_cVI c_187_19 rfl (by decide) rfl rfl (a_ab0 hw h) ?_
    rintro _ u ⟨rfl, h⟩
    refine v_icmp_ge_T c_187_20 (by omega) (by omega) (by omega) ?_
    refine v_il7 c_187_194 ?_
    refine v_if_eq_F c_187_195 (by omega) (by omega) ?_
    refine v_il1 c_187_196 ?_
    refine v_icN (n := 1) c_187_197 rfl ?_
    refine v_al0 c_187_198 ?_
    refine v_icN (n := 0) c_187_199 rfl ?_
    refine v_cVI c_187_200 rfl (by decide) rfl rfl (a_ab0 hw h) ?_
    rintro _ u ⟨rfl, h⟩
    refine v_ishlN c_187_201 (by omega) ?_
    refine v_icN (n := 1) c_187_202 rfl ?_
    refine v_isubN c_187_203 (by omega) ?_
    refine v_icmp_ne_F c_187_204 ((by rw [Nat.one_mul])) (by omega) (by omega) ?_
    refine v_il3 c_187_205 ?_
    refine v_il2 c_187_206 ?_
    refine v_icmp_ne_F c_187_207 (by omega) (by omega) (by omega) ?_
    refine v_al0 c_187_208 ?_
    refine v_icN (n := 3) c_187_209 rfl ?_
    refine v_cVI c_187_210 rfl (by decide) rfl rfl (a_ab3 hw h) ?_
    rintro _ u ⟨rfl, h⟩
    refine v_il4 c_187_211 ?_
    refine v_icmp_ne_F c_187_212 (rfl) (by omega) (by omega) ?_
    refine v_al0 c_187_213 ?_
    refine v_icN (n := 2) c_187_214 rfl ?_
    refine v_cVI c_187_215 rfl (by decide) rfl rfl (a_ab2 hw h) ?_
    rintro _ u ⟨rfl, h⟩
    refine v_il5 c_187_216 ?_
    refine v_icmp_ne_F c_187_217 (rfl) (by omega) (by omega) ?_
    refine v_al0 c_187_218 ?_
    refine v_bpN (n := 7) c_187_219 rfl ?_
    refine v_cVI c_187_220 rfl (by decide) rfl rfl (a_ab7 hw h) ?_
    rintro _ u ⟨rfl, h⟩
    refine v_il6 c_187_221 ?_
    refine v_icmp_ne_F c_187_222 (rfl) (by omega) (by omega) ?_
    refine v_al0 c_187_223 ?_
    refine v_icN (n := 1) c_187_224 rfl ?_
    refine v_cVI c_187_225 rfl (by decide) rfl rfl (a_ab1 hw h) ?_
    rintro _ u ⟨rfl, h⟩
    refine v_il3 c_187_226 ?_
    refine v_cSi c_187_227 rfl rfl rfl (l_one hX) ?_
    refine v_icmp_ne_F c_187_228 (hpx.symm) (by omega) (by omega) ?_
    refine v_icN (n := 1) c_187_229 rfl ?_
    refine v_goto c_187_230 ?_
    refine v_rb (B := true) c_187_232 rfl ?_
    exact ⟨_, rfl, rfl, h⟩
end LAW2
