/-! THE TEXT: its reading -/
def xAt (tx : Nat → Nat) (len p : Nat) : Int32 := if p < len then nI (tx p) else (-1)
def okD (tx : Nat → Nat) (len lo hi p : Nat) : Bool := decide (p < len) && (decide (48 + lo ≤ tx p) && decide (tx p ≤ 48 + hi))
/-- the first place below n where p fails; n if none -/
def lf (p : Nat → Bool) : Nat → Nat
  | 0 => 0
  | n + 1 => if lf p n = n then (if p n then n + 1 else n) else lf p n
theorem lf_all {p : Nat → Bool} : ∀ n, (∀ j, j < n → p j = true) → lf p n = n
  | 0, _ => rfl
  | n + 1, h => by
    show (if lf p n = n then (if p n then n + 1 else n) else lf p n) = n + 1
    rw [if_pos (lf_all n fun j hj => h j (by omega)), if_pos (h n (by omega))]
theorem lf_at {p : Nat → Bool} {k : Nat} (h1 : ∀ j, j < k → p j = true) (h2 : p k = false) : ∀ n, k < n → lf p n = k
  | 0, h => by omega
  | n + 1, h => by
    show (if lf p n = n then (if p n then n + 1 else n) else lf p n) = k
    rcases Nat.lt_or_eq_of_le (Nat.le_of_lt_succ h) with h3 | h3
    · rw [lf_at h1 h2 n h3, if_neg (by omega)]
    · subst h3
      rw [if_pos (lf_all k h1), h2]
      rfl
theorem lf_lt {p : Nat → Bool} : ∀ n, (∀ j, j < lf p n → p j = true) ∧ lf p n ≤ n ∧ (lf p n < n → p (lf p n) = false)
  | 0 => ⟨fun j hj => absurd hj (Nat.not_lt_zero _), Nat.le_refl _, fun h => absurd h (Nat.lt_irrefl _)⟩
  | n + 1 => by
    obtain ⟨h1, h2, h3⟩ := lf_lt (p := p) n
    have e : lf p (n + 1) = (if lf p n = n then (if p n then n + 1 else n) else lf p n) := rfl
    rw [e]
    by_cases c : lf p n = n
    · rw [if_pos c]
      rw [c] at h1
      cases hp : p n
      · rw [if_neg (by decide)]
        exact ⟨h1, by omega, fun _ => hp⟩
      · rw [if_pos rfl]
        refine ⟨fun j hj => ?_, Nat.le_refl _, fun h => absurd h (Nat.lt_irrefl _)⟩
        rcases Nat.lt_or_eq_of_le (Nat.le_of_lt_succ hj) with h | h
        · exact h1 j h
        · rw [h]; exact hp
    · rw [if_neg c]
      exact ⟨h1, by omega, fun _ => h3 (by omega)⟩
/-- holders: place, taken, left, holds behind i of them -/
def hSt (tx : Nat → Nat) (len b : Nat) : Nat → Nat × Nat × Nat × (Nat → Nat)
  | 0 => (b, 0, 0, fun k => k)
  | i + 1 => (if xAt tx len ((hSt tx len b i).1 + 1) = nI 33 then (hSt tx len b i).1 + 2 else (hSt tx len b i).1 + 1,
      (hSt tx len b i).2.1 ||| 2 ^ (tx (hSt tx len b i).1 - 48),
      if xAt tx len ((hSt tx len b i).1 + 1) = nI 33 then (hSt tx len b i).2.2.1 ||| 2 ^ i else (hSt tx len b i).2.2.1,
      fun k => if k = i then tx (hSt tx len b i).1 - 48 else (hSt tx len b i).2.2.2 k)
def hOk (tx : Nat → Nat) (len b n i : Nat) : Bool := okD tx len 0 (n - 1) (hSt tx len b i).1 && !(hSt tx len b i).2.1.testBit (tx (hSt tx len b i).1 - 48)
/-- the error position of a text; none: a market -/
def pE (tx : Nat → Nat) (len : Nat) : Option Nat :=
  if xAt tx len 0 = nI 77 then
    if okD tx len 1 7 1 then
      if lf (fun k => okD tx len 0 9 (2 + k)) ((tx 1 - 48) * (tx 1 - 48)) = (tx 1 - 48) * (tx 1 - 48) then
        if 2 + (tx 1 - 48) * (tx 1 - 48) < len then
          if tx (2 + (tx 1 - 48) * (tx 1 - 48)) = 47 then
            if lf (hOk tx len (2 + (tx 1 - 48) * (tx 1 - 48) + 1) (tx 1 - 48)) (tx 1 - 48) = tx 1 - 48 then
              if (hSt tx len (2 + (tx 1 - 48) * (tx 1 - 48) + 1) (tx 1 - 48)).1 < len then some (hSt tx len (2 + (tx 1 - 48) * (tx 1 - 48) + 1) (tx 1 - 48)).1 else none
            else some (hSt tx len (2 + (tx 1 - 48) * (tx 1 - 48) + 1) (lf (hOk tx len (2 + (tx 1 - 48) * (tx 1 - 48) + 1) (tx 1 - 48)) (tx 1 - 48))).1
          else some (2 + (tx 1 - 48) * (tx 1 - 48))
        else none
      else some (2 + lf (fun k => okD tx len 0 9 (2 + k)) ((tx 1 - 48) * (tx 1 - 48)))
    else some 1
  else some 0
def pM (tx : Nat → Nat) (len : Nat) : zM := (tx 1 - 48,
  if 2 + (tx 1 - 48) * (tx 1 - 48) < len then (hSt tx len (2 + (tx 1 - 48) * (tx 1 - 48) + 1) (tx 1 - 48)).2.2.1 else 0,
  fun i t => tx (2 + (i * (tx 1 - 48) + t)) - 48,
  if 2 + (tx 1 - 48) * (tx 1 - 48) < len then (hSt tx len (2 + (tx 1 - 48) * (tx 1 - 48) + 1) (tx 1 - 48)).2.2.2 else fun k => k)
theorem dg_lt : ∀ c, c < 256 → ∀ lo, lo ≤ 9 → (nI c - nI 48 < nI lo ↔ c < 48 + lo) := by decide +kernel
theorem dg_gt : ∀ c, c < 256 → ∀ lo, lo ≤ 9 → (nI lo < nI c - nI 48 ↔ 48 + lo < c) := by decide +kernel
theorem dg_nn : ∀ c, c < 256 → nI c ≠ -1 := by decide +kernel
theorem dg_9 : ∀ c, c < 256 → nI c ≠ -9 := by decide +kernel
/-- the text of cells h (characters) and g, place k (its length) -/
def TXT (s : zv_S) (h g k : Nat) (tx : Nat → Nat) (len : Nat) : Prop := s.1 g k = nI len ∧ len ≤ 70 ∧ ∀ j, j < len → s.1 h j = nI (tx j) ∧ tx j < 256
theorem okD_h {tx : Nat → Nat} {len lo hi p : Nat} (h : okD tx len lo hi p = true) : p < len ∧ 48 + lo ≤ tx p ∧ tx p ≤ 48 + hi := by
  simpa [okD] using h
section TE
variable {sc : Nat × (Nat → Int32)} {s : zv_S} {tx : Nat → Nat} {len : Nat}
theorem t_ful (hT : TXT s 2 1 1 tx len) : RI sc 167 [.ref 1] s (bI (decide (70 ≤ len))) s := by
  refine cc_of ml_167 rfl rfl ?_
  obtain ⟨h1, h2, h3⟩ := hT
  by_cases h : len < 70
  · refine v_al0 c_167_0 ?_
    refine v_gI c_167_1 rfl (h1) ?_
    refine v_bpN (n := 70) c_167_2 rfl ?_
    refine v_icmp_lt_T c_167_3 (by omega) (by omega) (by omega) ?_
    refine v_icN (n := 0) c_167_6 rfl ?_
    exact v_rb (B := false) c_167_7 rfl ⟨_, rfl, by rw [decide_eq_false (by omega)], rfl⟩
  · refine v_al0 c_167_0 ?_
    refine v_gI c_167_1 rfl (h1) ?_
    refine v_bpN (n := 70) c_167_2 rfl ?_
    refine v_icmp_lt_F c_167_3 (by omega) (by omega) (by omega) ?_
    refine v_icN (n := 1) c_167_4 rfl ?_
    refine v_goto c_167_5 ?_
    exact v_rb (B := true) c_167_7 rfl ⟨_, rfl, by rw [decide_eq_true (by omega)], rfl⟩
theorem t_add (hT : TXT s 2 1 1 tx len) (h : len < 70) (x : Int32) : RV sc 168 [.ref 1, .int x] s (sI (sI s 2 len x) 1 1 (nI (len + 1))) := by
  refine cc_of ml_168 rfl rfl ?_
  have h1 := hT.1
  refine v_al0 c_168_0 ?_
  refine v_cVi c_168_1 rfl (by decide) rfl rfl (t_ful hT) ?_
  refine v_if_ne_fb c_168_2 (by rw [decide_eq_false (by omega)]) ?_
  refine v_al0 c_168_3 ?_
  refine v_gR (n0 := 2) c_168_4 rfl ?_
  refine v_al0 c_168_5 ?_
  refine v_gI c_168_6 rfl (h1) ?_
  refine v_il1 c_168_7 ?_
  refine v_put c_168_8 rfl (by omega) rfl ?_
  refine v_al0 c_168_9 ?_
  refine v_dupr c_168_10 ?_
  refine v_gI c_168_11 rfl (show (sI s 2 len x).1 1 1 = nI len by rw [sI_o (by decide)]; exact h1) ?_
  refine v_icN (n := 1) c_168_12 rfl ?_
  refine v_iaddN c_168_13 ?_
  refine v_pI c_168_14 rfl ?_
  exact v_rv c_168_15 ⟨rfl, rfl⟩
theorem t_at (hT : TXT s 2 1 1 tx len) {p : Nat} (hp : p < 1000) : RI sc 169 [.ref 1, .int (nI p)] s (xAt tx len p) s := by
  refine cc_of ml_169 rfl rfl ?_
  obtain ⟨h1, h2, h3⟩ := hT
  by_cases h : p < len
  · refine v_il1 c_169_0 ?_
    refine v_if_lt_F c_169_1 (by omega) ?_
    refine v_il1 c_169_2 ?_
    refine v_al0 c_169_3 ?_
    refine v_gI c_169_4 rfl (h1) ?_
    refine v_icmp_ge_F c_169_5 (by omega) (by omega) (by omega) ?_
    refine v_al0 c_169_6 ?_
    refine v_gR (n0 := 2) c_169_7 rfl ?_
    refine v_il1 c_169_8 ?_
    refine v_at c_169_9 rfl (by omega) ((h3 p h).1) rfl ?_
    refine v_goto c_169_10 ?_
    exact v_ri c_169_12 ⟨_, rfl, by unfold xAt; rw [if_pos h], rfl⟩
  · refine v_il1 c_169_0 ?_
    refine v_if_lt_F c_169_1 (by omega) ?_
    refine v_il1 c_169_2 ?_
    refine v_al0 c_169_3 ?_
    refine v_gI c_169_4 rfl (h1) ?_
    refine v_icmp_ge_T c_169_5 (by omega) (by omega) (by omega) ?_
    refine v_ic c_169_11 ?_
    exact v_ri c_169_12 ⟨_, rfl, by unfold xAt; rw [if_neg h], rfl⟩
theorem t_dig (hT : TXT s 2 1 1 tx len) {p lo hi : Nat} (hp : p < 1000) (hlo : lo ≤ 9) (hhi : hi ≤ 9) : RI sc 170 [.ref 1, .int (nI p), .int (nI lo), .int (nI hi)] s (if okD tx len lo hi p then nI (tx p - 48) else (-9)) s := by
  refine cc_of ml_170 rfl rfl ?_
  refine v_al0 c_170_0 ?_
  refine v_il1 c_170_1 ?_
  refine v_cVi c_170_2 rfl (by decide) rfl rfl (t_at hT hp) ?_
  refine v_bpN (n := 48) c_170_3 rfl ?_
  refine v_isub c_170_4 ?_
  refine v_is4 c_170_5 rfl ?_
  unfold xAt
  by_cases h : p < len
  · rw [if_pos h]
    have hc := (hT.2.2 p h).2
    by_cases h1 : tx p < 48 + lo
    · refine v_il4 c_170_6 ?_
      refine v_il2 c_170_7 ?_
      refine v_icmp_lt_t c_170_8 (((dg_lt _ hc _ hlo).mpr h1)) ?_
      refine v_bp c_170_14 ?_
      exact v_ri c_170_15 ⟨_, rfl, by rw [if_neg]; intro h9; have := okD_h h9; omega, rfl⟩
    · by_cases h2 : 48 + hi < tx p
      · refine v_il4 c_170_6 ?_
        refine v_il2 c_170_7 ?_
        refine v_icmp_lt_f c_170_8 ((fun z => h1 ((dg_lt _ hc _ hlo).mp z))) ?_
        refine v_il4 c_170_9 ?_
        refine v_il3 c_170_10 ?_
        refine v_icmp_gt_t c_170_11 (((dg_gt _ hc _ hhi).mpr h2)) ?_
        refine v_bp c_170_14 ?_
        exact v_ri c_170_15 ⟨_, rfl, by rw [if_neg]; intro h9; have := okD_h h9; omega, rfl⟩
      · refine v_il4 c_170_6 ?_
        refine v_il2 c_170_7 ?_
        refine v_icmp_lt_f c_170_8 ((fun z => h1 ((dg_lt _ hc _ hlo).mp z))) ?_
        refine v_il4 c_170_9 ?_
        refine v_il3 c_170_10 ?_
        refine v_icmp_gt_f c_170_11 ((fun z => h2 ((dg_gt _ hc _ hhi).mp z))) ?_
        refine v_il4 c_170_12 ?_
        refine v_goto c_170_13 ?_
        exact v_ri c_170_15 ⟨_, rfl, by rw [if_pos (by simp [okD, h]; omega), pk_sub (by omega)], rfl⟩
  · rw [if_neg h]
    have h9 : ∀ lo, lo ≤ 9 → (-1) - nI 48 < nI lo := by decide +kernel
    refine v_il4 c_170_6 ?_
    refine v_il2 c_170_7 ?_
    refine v_icmp_lt_t c_170_8 ((h9 lo hlo)) ?_
    refine v_bp c_170_14 ?_
    exact v_ri c_170_15 ⟨_, rfl, by rw [if_neg]; intro h9; have := okD_h h9; omega, rfl⟩
/-- the ranks, from place 2 on -/
theorem t_rks {o : Nat} (ho : isM o = true) (h3o : 3 ≤ o) (hT : TXT s 2 1 1 tx len) {n : Nat} (hn : s.1 o 0 = nI n) (h7 : n ≤ 7) :
    CC sc 172 [.ref 1, .ref o, .int (nI 2)] s (QI fun x t => FR (o + 1) (o + 2) s t ∧ ((lf (fun k => okD tx len 0 9 (2 + k)) (n * n) = n * n ∧ x = -9 ∧ ∀ i j, i < n → j < n → t.1 (o + 1) (i * 7 + j) = nI (tx (2 + (i * n + j)) - 48)) ∨ (lf (fun k => okD tx len 0 9 (2 + k)) (n * n) ≠ n * n ∧ x = nI (2 + lf (fun k => okD tx len 0 9 (2 + k)) (n * n))))) := by
  refine cc_of ml_172 rfl rfl ?_
  refine v_il2 c_172_0 ?_
  refine v_is3 c_172_1 rfl ?_
  refine v_icN (n := 0) c_172_2 rfl ?_
  refine v_is4 c_172_3 rfl ?_
  refine vv_forS n (fun i ls t => (∃ y1 y2, ls = [some (.ref 1), some (.ref o), some (.int (nI 2)), some (.int (nI (2 + i * n))), some (.int (nI i)), y1, y2]) ∧ (∀ k, k < i * n → okD tx len 0 9 (2 + k) = true) ∧ (∀ a b, a < i → b < n → t.1 (o + 1) (a * 7 + b) = nI (tx (2 + (a * n + b)) - 48)) ∧ FR (o + 1) (o + 2) s t) ?_ ?_ _ _ ⟨⟨none, none, by rw [Nat.zero_mul]; rfl⟩, fun k hk => absurd hk (by omega), fun a b ha => absurd ha (by omega), FR.rf⟩
  · rintro i ls t hi ⟨⟨y1, y2, rfl⟩, h1, h2, h3⟩ hk
    have hn' : t.1 o 0 = nI n := by rw [h3.at (by omega)]; exact hn
    refine v_il4 c_172_4 ?_
    refine v_al1 c_172_5 ?_
    refine v_gI c_172_6 (kM_f0 ho) (hn') ?_
    refine v_icmp_ge_F c_172_7 (by omega) (by omega) (by omega) ?_
    refine v_icN (n := 0) c_172_8 rfl ?_
    refine v_is5 c_172_9 rfl ?_
    have hmul : i * n + n ≤ n * n := by
      have : (i + 1) * n ≤ n * n := Nat.mul_le_mul_right n hi
      rw [Nat.succ_mul] at this
      exact this
    have h49 : n * n ≤ 49 := Nat.mul_le_mul h7 h7
    refine vv_forS n (fun j ls t => (∃ y2, ls = [some (.ref 1), some (.ref o), some (.int (nI 2)), some (.int (nI (2 + (i * n + j)))), some (.int (nI i)), some (.int (nI j)), y2]) ∧ (∀ k, k < i * n + j → okD tx len 0 9 (2 + k) = true) ∧ (∀ a b, b < n → (a < i ∨ (a = i ∧ b < j)) → t.1 (o + 1) (a * 7 + b) = nI (tx (2 + (a * n + b)) - 48)) ∧ FR (o + 1) (o + 2) s t) ?_ ?_ _ _ ⟨⟨_, rfl⟩, h1, fun a b hb ha => h2 a b (by omega) hb, h3⟩
    · rintro j ls t hj ⟨⟨y2, rfl⟩, h1, h2, h3⟩ hk
      have hn' : t.1 o 0 = nI n := by rw [h3.at (by omega)]; exact hn
      have hT' : TXT t 2 1 1 tx len := by
        unfold TXT
        rw [h3.at (a := 1) (by omega), h3.at (a := 2) (by omega)]
        exact hT
      refine v_il5 c_172_10 ?_
      refine v_al1 c_172_11 ?_
      refine v_gI c_172_12 (kM_f0 ho) (hn') ?_
      refine v_icmp_ge_F c_172_13 (by omega) (by omega) (by omega) ?_
      refine v_al0 c_172_14 ?_
      refine v_il3 c_172_15 ?_
      refine v_icN (n := 0) c_172_16 rfl ?_
      refine v_bpN (n := 9) c_172_17 rfl ?_
      refine v_cVi c_172_18 rfl (by decide) rfl rfl (t_dig hT' (by omega) (by omega) (by omega)) ?_
      refine v_is6 c_172_19 rfl ?_
      refine v_il6 c_172_20 ?_
      by_cases hd : okD tx len 0 9 (2 + (i * n + j)) = true
      · obtain ⟨d1, d2, d3⟩ := okD_h hd
        rw [if_pos hd]
        refine v_bp c_172_21 ?_
        refine v_icmp_ne_t c_172_22 ((dg_9 _ (by omega))) ?_
        refine v_al1 c_172_25 ?_
        refine v_il4 c_172_26 ?_
        refine v_il5 c_172_27 ?_
        refine v_il6 c_172_28 ?_
        refine v_cVv c_172_29 rfl (kM_lt ho) (kM_is ho) rfl (k_put ho (by omega) (by omega)) ?_
        refine v_incN3 c_172_30 rfl rfl ?_
        refine v_incN5 c_172_31 rfl rfl ?_
        refine v_goto c_172_32 ?_
        refine hk _ _ ⟨⟨_, rfl⟩, fun k hk => ?_, fun a b hb ha => ?_, h3.tr (FR.sI (by omega) (by omega))⟩
        · rcases Nat.lt_or_eq_of_le (Nat.le_of_lt_succ hk) with h | h
          · exact h1 k h
          · rw [h]; exact hd
        · by_cases e : a = i ∧ b = j
          · rw [e.1, e.2, sI_s]
          · rw [sI_k (by omega)]
            exact h2 a b hb (by omega)
      · have hd' : okD tx len 0 9 (2 + (i * n + j)) = false := by simpa using hd
        rw [if_neg hd]
        have e9 := lf_at (p := fun k => okD tx len 0 9 (2 + k)) h1 hd' (n * n) (by omega)
        refine v_bp c_172_21 ?_
        refine v_icmp_ne_f c_172_22 (rfl) ?_
        refine v_il3 c_172_23 ?_
        refine v_ri c_172_24 ?_
        refine ⟨_, rfl, h3, Or.inr ⟨by omega, by rw [e9]⟩⟩
    · rintro ls t ⟨⟨y2, rfl⟩, h1, h2, h3⟩
      have hn' : t.1 o 0 = nI n := by rw [h3.at (by omega)]; exact hn
      refine v_il5 c_172_10 ?_
      refine v_al1 c_172_11 ?_
      refine v_gI c_172_12 (kM_f0 ho) (hn') ?_
      refine v_icmp_ge_T c_172_13 (by omega) (by omega) (by omega) ?_
      refine v_incN4 c_172_33 rfl rfl ?_
      refine v_goto c_172_34 ?_
      refine hk _ _ ⟨⟨_, _, by rw [Nat.succ_mul]⟩, fun k hk => h1 k (by rw [Nat.succ_mul] at hk; exact hk), fun a b ha hb => h2 a b hb (by omega), h3⟩
  · rintro ls t ⟨⟨y1, y2, rfl⟩, h1, h2, h3⟩
    have hn' : t.1 o 0 = nI n := by rw [h3.at (by omega)]; exact hn
    refine v_il4 c_172_4 ?_
    refine v_al1 c_172_5 ?_
    refine v_gI c_172_6 (kM_f0 ho) (hn') ?_
    refine v_icmp_ge_T c_172_7 (by omega) (by omega) (by omega) ?_
    refine v_bp c_172_35 ?_
    refine v_ri c_172_36 ?_
    exact ⟨_, rfl, h3, Or.inl ⟨lf_all _ h1, rfl, h2⟩⟩
end TE
