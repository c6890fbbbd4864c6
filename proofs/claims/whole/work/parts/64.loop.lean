/-! THE LAW: its loop -/
def LQ : zm_O → zv_S → Prop := fun o t => o = .inl (some (.int 1)) ∧ t.2.2 ≤ 512
theorem law_sw {L j c : Nat} {xs : Nat → Int32} {s : zv_S} {Q : zm_O → zv_S → Prop} {y5 y6 : Option Value} {M : zM} {H : List zM} {S : Nat → Option zM} {tx : Nat → Nat} {len : Nat} (hL : L ≤ 2048) (hj : 4 * j + 4 ≤ L) (hW : WA M H S) (hC : RCw s (M, H, S, tx, len)) (hR : RMw s (M, H, S, tx, len)) (hn : LNX L xs j s Q) (hc : c < 32) : VV (L, xs) 206 24 [some (.float 0), some (.ref 0), some (.ref 88), some (.ref 109), some (.int (nI (4 * j))), y5, y6] [.int (nI c)] s Q := by
  rcases (show c = 0 ∨ c = 1 ∨ c = 2 ∨ c = 3 ∨ c = 4 ∨ c = 5 ∨ c = 6 ∨ c = 7 ∨ c = 8 ∨ c = 9 ∨ c = 10 ∨ c = 11 ∨ c = 12 ∨ c = 13 ∨ c = 14 ∨ c = 15 ∨ c = 16 ∨ c = 17 ∨ c = 18 ∨ c = 19 ∨ c = 20 ∨ c = 21 ∨ c = 22 ∨ c = 23 ∨ c = 24 ∨ c = 25 ∨ c = 26 ∨ c = 27 ∨ c = 28 ∨ c = 29 ∨ c = 30 ∨ c = 31 by omega) with rfl | rfl | rfl | rfl | rfl | rfl | rfl | rfl | rfl | rfl | rfl | rfl | rfl | rfl | rfl | rfl | rfl | rfl | rfl | rfl | rfl | rfl | rfl | rfl | rfl | rfl | rfl | rfl | rfl | rfl | rfl | rfl
  · refine v_sw (n := 25) c_206_24 (by decide +kernel) ?_
    exact lc_0 hL hj hW hC hR hn
  · refine v_sw (n := 60) c_206_24 (by decide +kernel) ?_
    exact lc_1 hL hj hW hC hR hn
  · refine v_sw (n := 67) c_206_24 (by decide +kernel) ?_
    exact lc_2 hL hj hW hC hR hn
  · refine v_sw (n := 74) c_206_24 (by decide +kernel) ?_
    exact lc_3 hL hj hW hC hR hn
  · refine v_sw (n := 99) c_206_24 (by decide +kernel) ?_
    exact lc_4 hL hj hW hC hR hn
  · refine v_sw (n := 134) c_206_24 (by decide +kernel) ?_
    exact lc_5 hL hj hW hC hR hn
  · refine v_sw (n := 179) c_206_24 (by decide +kernel) ?_
    exact lc_6 hL hj hW hC hR hn
  · refine v_sw (n := 224) c_206_24 (by decide +kernel) ?_
    exact lc_7 hL hj hW hC hR hn
  · refine v_sw (n := 259) c_206_24 (by decide +kernel) ?_
    exact lc_8 hL hj hW hC hR hn
  · refine v_sw (n := 304) c_206_24 (by decide +kernel) ?_
    exact lc_9 hL hj hW hC hR hn
  · refine v_sw (n := 349) c_206_24 (by decide +kernel) ?_
    exact lc_10 hL hj hW hC hR hn
  · refine v_sw (n := 374) c_206_24 (by decide +kernel) ?_
    exact lc_11 hL hj hW hC hR hn
  · refine v_sw (n := 429) c_206_24 (by decide +kernel) ?_
    exact lc_12 hL hj hW hC hR hn
  · refine v_sw (n := 474) c_206_24 (by decide +kernel) ?_
    exact lc_13 hL hj hW hC hR hn
  · refine v_sw (n := 509) c_206_24 (by decide +kernel) ?_
    exact lc_14 hL hj hW hC hR hn
  · refine v_sw (n := 516) c_206_24 (by decide +kernel) ?_
    exact lc_15 hL hj hW hC hR hn
  · refine v_sw (n := 551) c_206_24 (by decide +kernel) ?_
    exact lc_16 hL hj hW hC hR hn
  · refine v_sw (n := 558) c_206_24 (by decide +kernel) ?_
    exact lc_17 hL hj hW hC hR hn
  · refine v_sw (n := 583) c_206_24 (by decide +kernel) ?_
    exact lc_18 hL hj hW hC hR hn
  · refine v_sw (n := 608) c_206_24 (by decide +kernel) ?_
    exact lc_19 hL hj hW hC hR hn
  · refine v_sw (n := 633) c_206_24 (by decide +kernel) ?_
    exact lc_20 hL hj hW hC hR hn
  · refine v_sw (n := 640) c_206_24 (by decide +kernel) ?_
    exact lc_21 hL hj hW hC hR hn
  · refine v_sw (n := 675) c_206_24 (by decide +kernel) ?_
    exact lc_22 hL hj hW hC hR hn
  · refine v_sw (n := 682) c_206_24 (by decide +kernel) ?_
    exact lc_23 hL hj hW hC hR hn
  · refine v_sw (n := 717) c_206_24 (by decide +kernel) ?_
    exact lc_24 hL hj hW hC hR hn
  · refine v_sw (n := 762) c_206_24 (by decide +kernel) ?_
    exact lc_25 hL hj hW hC hR hn
  · refine v_sw (n := 831) c_206_24 (by decide +kernel) ?_
    exact lc_26 hL hj hW hC hR hn
  · refine v_sw (n := 900) c_206_24 (by decide +kernel) ?_
    exact lc_27 hL hj hW hC hR hn
  · refine v_sw (n := 935) c_206_24 (by decide +kernel) ?_
    exact lc_28 hL hj hW hC hR hn
  · refine v_sw (n := 970) c_206_24 (by decide +kernel) ?_
    exact hn s (M, H, S, tx, len) _ _ hW hC hR (by omega)
  · refine v_sw (n := 970) c_206_24 (by decide +kernel) ?_
    exact hn s (M, H, S, tx, len) _ _ hW hC hR (by omega)
  · refine v_sw (n := 970) c_206_24 (by decide +kernel) ?_
    exact hn s (M, H, S, tx, len) _ _ hW hC hR (by omega)
theorem law_lp {L : Nat} {xs : Nat → Int32} {s : zv_S} (hL : L ≤ 2048) (hI : ∃ W, WAw W ∧ RCw s W ∧ RMw s W) (h0 : s.2.2 = 0) : VV (L, xs) 206 13 [some (.float 0), some (.ref 0), some (.ref 88), some (.ref 109), some (.int (nI 0)), none, none] [] s LQ := by
  refine vv_forS (L / 4) (fun j ls u => (∃ y5 y6, ls = [some (.float 0), some (.ref 0), some (.ref 88), some (.ref 109), some (.int (nI (4 * j))), y5, y6]) ∧ (∃ W, WAw W ∧ RCw u W ∧ RMw u W) ∧ u.2.2 ≤ j) ?_ ?_ _ _ ⟨⟨none, none, rfl⟩, hI, by omega⟩
  · rintro j ls u hj ⟨⟨y5, y6, rfl⟩, ⟨⟨M, H, S, tx, len⟩, hW, hC, hR⟩, he⟩ hk
    have hj4 : 4 * j + 4 ≤ L := by omega
    have hn : LNX L xs j u LQ := by
      intro v W' y5 y6 a b c d
      have e : nI (4 * j) + 4 = nI (4 * (j + 1)) := (nI_add (4 * j) 4).trans rfl
      refine v_inc4 c_206_970 rfl ?_
      refine v_goto c_206_971 ?_
      rw [e]
      exact hk _ _ ⟨⟨_, _, rfl⟩, ⟨W', a, b, c⟩, by omega⟩
    refine v_il4 c_206_13 ?_
    refine v_aS0 c_206_14 ?_
    refine v_slen c_206_15 ?_
    refine v_icN (n := 4) c_206_16 rfl ?_
    refine v_isub c_206_17 ?_
    rw [pk_sub (show 4 ≤ L by omega)]
    refine v_icmp_gt_F c_206_18 (by omega) (by omega) (by omega) ?_
    refine v_aS0 c_206_19 ?_
    refine v_il4 c_206_20 ?_
    refine v_sld c_206_21 (hL) (by omega) ?_
    refine v_bpN (n := 31) c_206_22 rfl ?_
    refine v_iand c_206_23 ?_
    obtain ⟨c, hc, e⟩ := pk_andE (xs (4 * j)) (m := nI 31) 5 (by decide +kernel)
    rw [e]
    exact law_sw hL hj4 hW hC hR hn hc
  · rintro ls u ⟨⟨y5, y6, rfl⟩, -, he⟩
    refine v_il4 c_206_13 ?_
    refine v_aS0 c_206_14 ?_
    refine v_slen c_206_15 ?_
    refine v_icN (n := 4) c_206_16 rfl ?_
    refine v_isub c_206_17 ?_
    by_cases h4 : 4 ≤ L
    · rw [pk_sub h4]
      refine v_icmp_gt_T c_206_18 (by omega) (by omega) (by omega) ?_
      refine v_icN (n := 1) c_206_972 rfl ?_
      refine v_rb (B := true) c_206_973 rfl ?_
      exact ⟨rfl, by omega⟩
    · rw [show 4 * (L / 4) = 0 by omega]
      refine v_icmp_gt_t c_206_18 ((pk_sneg (by omega) (by omega))) ?_
      refine v_icN (n := 1) c_206_972 rfl ?_
      refine v_rb (B := true) c_206_973 rfl ?_
      exact ⟨rfl, by omega⟩
