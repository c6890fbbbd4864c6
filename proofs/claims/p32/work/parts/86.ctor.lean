/-! BOTH CONSTRUCTORS: a machine over lists of cells, that can be run -/
abbrev zK : Type := (Nat × List Value) ⊕ (Nat × Nat × List (Option Nat))
abbrev zKS : Type := List zK × Nat × Nat
def zk_g (rs : List (Option Nat)) (i : Nat) : Option Nat := match rs[i]? with
  | some o => o
  | none => none
def zk_c (k : zK) (c : zm_C) : Prop := match k with
  | .inl (cj, fs) => c = .inr (cj, fs)
  | .inr (0, n, _) => c = .inl (.int, n, .inl fun _ => 0)
  | .inr (1, n, _) => c = .inl (.long, n, .inr (.inl fun _ => 0))
  | .inr (2, n, _) => c = .inl (.boolean, n, .inl fun _ => 0)
  | .inr (_, n, rs) => ∃ p, c = .inl (.object RX1, n, .inr (.inr p)) ∧ ∀ i, i < n → p i = zk_g rs i
def zk_rep (Z : zKS) (h : zm_H) : Prop := h.1 = Z.1.length ∧ h.2.2.1 = Z.2.1 ∧ h.2.2.2 = Z.2.2 ∧ ∀ (a : Nat) (k : zK), Z.1[a]? = some k → zk_c k (h.2.1 a)
def zk_nw (Z : zKS) (k : zK) (n : Nat) : zKS := (Z.1 ++ [k], Z.2.1 + 1, Z.2.2 + n)
def zk_st (Z : zKS) (o : Nat) (k : zK) : zKS := (Z.1.set o k, Z.2)
theorem zk_rep_nw {Z : zKS} {h : zm_H} {k : zK} {c : zm_C} {n : Nat} (hr : zk_rep Z h) (hc : zk_c k c) : zk_rep (zk_nw Z k n) (zm_nw h c n) := by
  obtain ⟨h1, h2, h3, h4⟩ := hr
  refine ⟨?_, ?_, ?_, fun a k' ha => ?_⟩
  · show h.1 + 1 = (Z.1 ++ [k]).length
    rw [h1, List.length_append]; rfl
  · show h.2.2.1 + 1 = Z.2.1 + 1
    rw [h2]
  · show h.2.2.2 + n = Z.2.2 + n
    rw [h3]
  · have ha : (Z.1 ++ [k])[a]? = some k' := ha
    show zk_c k' (if a = h.1 then c else h.2.1 a)
    rw [h1]
    by_cases e : a = Z.1.length
    · rw [if_pos e]
      rw [e, List.getElem?_append_right (Nat.le_refl _), Nat.sub_self] at ha
      cases ha
      exact hc
    · rw [if_neg e]
      have hl := (List.getElem?_eq_some_iff.mp ha).1
      rw [List.length_append] at hl
      have hl : a < Z.1.length + 1 := hl
      rw [List.getElem?_append_left (by omega)] at ha
      exact h4 a k' ha
theorem zk_rep_st {Z : zKS} {h : zm_H} {k : zK} {c : zm_C} {o : Nat} (hr : zk_rep Z h) (hc : zk_c k c) : zk_rep (zk_st Z o k) (zm_u h o c) := by
  obtain ⟨h1, h2, h3, h4⟩ := hr
  refine ⟨by rw [show (zk_st Z o k).1 = Z.1.set o k from rfl, List.length_set]; exact h1, h2, h3, fun a k' ha => ?_⟩
  have ha : (Z.1.set o k)[a]? = some k' := ha
  show zk_c k' (if a = o then c else h.2.1 a)
  by_cases e : a = o
  · rw [if_pos e]
    rw [e, List.getElem?_set] at ha
    simp only [if_true] at ha
    split at ha
    · cases ha; exact hc
    · cases ha
  · rw [if_neg e]
    rw [List.getElem?_set_ne (Ne.symm e)] at ha
    exact h4 a k' ha
def zk_run : Nat → Nat × Nat × zm_L × List Value × zKS → Option zKS
  | 0, _ => none
  | k + 1, (m, i, ls, st, Z) => match (zm_cd m)[i]? with
    | none => none
    | some (_, ins, _, a, b, c, v, _, _) => match ins with
      | .iconst _ => zk_run k (m, i + 1, ls, .int v :: st, Z)
      | .bipush _ => zk_run k (m, i + 1, ls, .int v :: st, Z)
      | .sipush _ => zk_run k (m, i + 1, ls, .int v :: st, Z)
      | .aload_n _ => (match zm_lc ls a with
        | some (.ref x) => zk_run k (m, i + 1, ls, .ref x :: st, Z)
        | _ => none)
      | .iload_n _ => (match zm_lc ls a with
        | some (.int x) => zk_run k (m, i + 1, ls, .int x :: st, Z)
        | _ => none)
      | .istore_n _ => (match st with
        | .int x :: r => zk_run k (m, i + 1, zm_s1 ls a (.int x), r, Z)
        | _ => none)
      | .iinc _ _ => (match zm_lc ls a with
        | some (.int x) => zk_run k (m, i + 1, zm_s1 ls a (.int (x + v)), st, Z)
        | _ => none)
      | .dup => (match st with
        | .ref x :: r => zk_run k (m, i + 1, ls, .ref x :: .ref x :: r, Z)
        | _ => none)
      | .goto _ => zk_run k (m, a, ls, st, Z)
      | .if_icmp .ge _ => (match st with
        | .int y :: .int x :: r => if y ≤ x then zk_run k (m, a, ls, r, Z) else zk_run k (m, i + 1, ls, r, Z)
        | _ => none)
      | .getfield _ => (match c with
        | 0 => none
        | 1 => (match st with
          | .ref o :: r => (match Z.1[o]? with
            | some (.inl (cj, fs)) => if cj = a then (match fs[b]? with
              | some (.ref x) => zk_run k (m, i + 1, ls, .ref x :: r, Z)
              | _ => none) else none
            | _ => none)
          | _ => none)
        | _ + 2 => none)
      | .putfield _ => (match c with
        | 0 => none
        | 1 => (match st with
          | .ref x :: .ref o :: r => (match Z.1[o]? with
            | some (.inl (cj, fs)) => if cj = a then (if b < fs.length then zk_run k (m, i + 1, ls, r, zk_st Z o (.inl (cj, fs.set b (.ref x)))) else none) else none
            | _ => none)
          | _ => none)
        | _ + 2 => none)
      | .arraylength => (match st with
        | .ref o :: r => (match Z.1[o]? with
          | some (.inr (3, n, _)) => zk_run k (m, i + 1, ls, .int (Int32.ofNat n) :: r, Z)
          | _ => none)
        | _ => none)
      | .newarray _ => (match st with
        | .int x :: r => (match zm_ix x 100001 with
          | some q => (match a with
            | 0 => zk_run k (m, i + 1, ls, .ref Z.1.length :: r, zk_nw Z (.inr (0, q, [])) q)
            | 1 => zk_run k (m, i + 1, ls, .ref Z.1.length :: r, zk_nw Z (.inr (1, q, [])) q)
            | _ + 2 => zk_run k (m, i + 1, ls, .ref Z.1.length :: r, zk_nw Z (.inr (2, q, [])) q))
          | none => none)
        | _ => none)
      | .anewarray _ => (match st with
        | .int x :: r => (match zm_ix x 100001 with
          | some q => zk_run k (m, i + 1, ls, .ref Z.1.length :: r, zk_nw Z (.inr (3, q, List.replicate q none)) q)
          | none => none)
        | _ => none)
      | .aastore => (match st with
        | .ref y :: .int x :: .ref o :: r => (match Z.1[o]?, Z.1[y]? with
          | some (.inr (3, n, rs)), some (.inl (1, _)) => (match zm_ix x n with
            | some q => if q < rs.length then zk_run k (m, i + 1, ls, r, zk_st Z o (.inr (3, n, rs.set q (some y)))) else none
            | none => none)
          | _, _ => none)
        | _ => none)
      | .new _ => (match c with
        | 0 => zk_run k (m, i + 1, ls, .ref Z.1.length :: st, zk_nw Z (.inl (a, zm_ds a)) (zm_cl a).2.2)
        | _ + 1 => none)
      | .invokespecial _ => (match b with
        | 0 => (match st with
          | .ref o :: r => (match Nat.ble (zm_cs r) 8 with
            | true => if a = 1001 then zk_run k (m, i + 1, ls, r, Z) else if a < 1000 ∧ c = 0 then (match Nat.beq (zm_in (zm_ml a) [.ref o]).length (zm_ml a) with
              | true => (match zk_run k (a, 0, zm_in (zm_ml a) [.ref o], [], Z) with
                | some Z' => zk_run k (m, i + 1, ls, r, Z')
                | none => none)
              | false => none) else none
            | false => none)
          | _ => none)
        | _ + 1 => none)
      | .return_ => (match st with
        | [] => some Z
        | _ => none)
      | _ => none
def zk_of : zl_K → zK
  | .inl (cj, rs) => .inl (cj, zl_f (fun _ => 0) 0 rs)
  | .inr (c, n, rs) => .inr (c, n, rs.map some)
theorem zk_sound (sc : Nat × (Nat → Int32)) : ∀ (k m i : Nat) (ls : zm_L) (st : List Value) (Z Z' : zKS), zk_run k (m, i, ls, st, Z) = some Z' → ∀ h, zk_rep Z h → ∃ h', zk_rep Z' h' ∧ ∀ n, k ≤ n → zm_run sc n (m, i, ls, st, h) = some (.inl none, h') := by
  intro k
  induction k with
  | zero => intro m i ls st Z Z' hz; cases hz
  | succ k ih =>
    intro m i ls st Z Z' hz h hr
    have go : ∀ {i' : Nat} {ls' : zm_L} {st' : List Value} {Z2 : zKS} {h2 : zm_H}, (∀ E, zm_F sc E (m, i, ls, st, h) = E (m, i', ls', st', h2)) → zk_rep Z2 h2 → zk_run k (m, i', ls', st', Z2) = some Z' → ∃ h', zk_rep Z' h' ∧ ∀ n, k + 1 ≤ n → zm_run sc n (m, i, ls, st, h) = some (.inl none, h') := by
      intro i' ls' st' Z2 h2 hF hr2 hz2
      obtain ⟨h', a1, a2⟩ := ih _ _ _ _ _ _ hz2 h2 hr2
      refine ⟨h', a1, fun n hn => ?_⟩
      obtain ⟨n, rfl⟩ : ∃ j, n = j + 1 := ⟨n - 1, by omega⟩
      exact (hF _).trans (a2 n (by omega))
    unfold zk_run at hz
    cases hc : (zm_cd m)[i]? with
    | none => rw [hc] at hz; cases hz
    | some row =>
      obtain ⟨bp, ins, len, a, b, c, v, w, ts⟩ := row
      rw [hc] at hz
      have hF : ∀ E, zm_F sc E (m, i, ls, st, h) = zm_G sc E m i ls st h ins a b c v w ts := fun E => by
        unfold zm_F
        simp only [hc]
      obtain ⟨r1, r2, r3, r4⟩ := id hr
      dsimp only at hz
      split at hz
      · exact go (fun E => (hF E).trans rfl) hr hz
      · exact go (fun E => (hF E).trans rfl) hr hz
      · exact go (fun E => (hF E).trans rfl) hr hz
      · split at hz
        · next x e => exact go (fun E => (hF E).trans (by unfold zm_G; simp only [e])) hr hz
        · cases hz
      · split at hz
        · next x e => exact go (fun E => (hF E).trans (by unfold zm_G; simp only [e])) hr hz
        · cases hz
      · split at hz
        · exact go (fun E => (hF E).trans rfl) hr hz
        · cases hz
      · split at hz
        · next x e => exact go (fun E => (hF E).trans (by unfold zm_G; simp only [e])) hr hz
        · cases hz
      · split at hz
        · exact go (fun E => (hF E).trans rfl) hr hz
        · cases hz
      · exact go (fun E => (hF E).trans rfl) hr hz
      · split at hz
        · split at hz
          · next e => exact go (fun E => (hF E).trans (if_pos e)) hr hz
          · next e => exact go (fun E => (hF E).trans (if_neg e)) hr hz
        · cases hz
      · -- getfield
        split at hz
        · cases hz
        split at hz
        · split at hz
          · next o r _ cj fs e =>
            split at hz
            · next e2 =>
              split at hz
              · next x e3 =>
                have e4 := r4 _ _ e
                have e5 : zm_gR h o a b = some x := by
                  have e4 : h.2.1 o = .inr (cj, fs) := e4
                  unfold zm_gR
                  rw [e4]
                  dsimp only
                  rw [if_pos e2, e3]
                exact go (fun E => (hF E).trans (by show (zm_gR h o a b).bind _ = _; rw [e5]; rfl)) hr hz
              · cases hz
            · cases hz
          · cases hz
        · cases hz
        · cases hz
      · -- putfield
        split at hz
        · cases hz
        split at hz
        · split at hz
          · next x o r _ cj fs e =>
            split at hz
            · next e2 =>
              split at hz
              · next e3 =>
                have e4 := r4 _ _ e
                have e4 : h.2.1 o = .inr (cj, fs) := e4
                have e5 : zm_pt h o a b (.ref x) = some (zm_u h o (.inr (cj, fs.set b (.ref x)))) := by
                  unfold zm_pt
                  rw [e4]
                  dsimp only
                  rw [if_pos e2, if_pos e3]
                exact go (fun E => (hF E).trans (by show (zm_pt h o a b (.ref x)).bind _ = _; rw [e5]; rfl)) (zk_rep_st (k := .inl (cj, fs.set b (.ref x))) (c := .inr (cj, fs.set b (.ref x))) hr rfl) hz
              · cases hz
            · cases hz
          · cases hz
        · cases hz
        · cases hz
      · -- arraylength
        split at hz
        · split at hz
          · next o r _ n rs e =>
            obtain ⟨p, e4, -⟩ := r4 _ _ e
            have e5 : zm_ln h o = some n := by
              unfold zm_ln
              rw [e4]
            exact go (fun E => (hF E).trans (by show (zm_ln h o).bind _ = _; rw [e5]; rfl)) hr hz
          · cases hz
        · cases hz
      · -- newarray
        split at hz
        · split at hz
          · next x r _ q e =>
            split at hz
            · rw [← r1] at hz
              exact go (fun E => (hF E).trans (by show (zm_ix x 100001).bind _ = _; rw [e]; rfl)) (zk_rep_nw (k := .inr (0, q, [])) (c := .inl (.int, q, .inl fun _ => 0)) hr rfl) hz
            · rw [← r1] at hz
              exact go (fun E => (hF E).trans (by show (zm_ix x 100001).bind _ = _; rw [e]; rfl)) (zk_rep_nw (k := .inr (1, q, [])) (c := .inl (.long, q, .inr (.inl fun _ => 0))) hr rfl) hz
            · rw [← r1] at hz
              exact go (fun E => (hF E).trans (by show (zm_ix x 100001).bind _ = _; rw [e]; rfl)) (zk_rep_nw (k := .inr (2, q, [])) (c := .inl (.boolean, q, .inl fun _ => 0)) hr rfl) hz
          · cases hz
        · cases hz
      · -- anewarray
        split at hz
        · split at hz
          · next x r _ q e =>
            rw [← r1] at hz
            refine go (fun E => (hF E).trans (by show (zm_ix x 100001).bind _ = _; rw [e]; rfl)) (zk_rep_nw (k := .inr (3, q, List.replicate q none)) (c := .inl (.object RX1, q, .inr (.inr fun _ => none))) hr ⟨fun _ => none, rfl, fun i hi => ?_⟩) hz
            unfold zk_g
            rw [List.getElem?_replicate, if_pos hi]
          · cases hz
        · cases hz
      · -- aastore
        split at hz
        · split at hz
          · next y x o r _ _ n rs fs e e' =>
            split at hz
            · next q e2 =>
              split at hz
              · next e3 =>
                obtain ⟨p, e4, e5⟩ := r4 _ _ e
                have e6 := r4 _ _ e'
                have e6 : h.2.1 y = .inr (1, fs) := e6
                have e7 : zm_sR h o x y = some (zm_u h o (.inl (.object RX1, n, .inr (.inr (va_up p q (some y)))))) := by
                  unfold zm_sR
                  rw [e4, e6]
                  dsimp only
                  rw [if_pos ⟨rfl, rfl⟩, e2]
                  rfl
                refine go (fun E => (hF E).trans (by show (zm_sR h o x y).bind _ = _; rw [e7]; rfl)) (zk_rep_st (k := .inr (3, n, rs.set q (some y))) (c := .inl (.object RX1, n, .inr (.inr (va_up p q (some y))))) hr ⟨_, rfl, fun i hi => ?_⟩) hz
                show (if i = q then some y else p i) = _
                unfold zk_g
                by_cases c : i = q
                · rw [if_pos c, c, List.getElem?_set]
                  simp only [if_true, e3]
                · rw [if_neg c, List.getElem?_set_ne (Ne.symm c)]
                  exact e5 i hi
              · cases hz
            · cases hz
          · cases hz
        · cases hz
      · -- new
        split at hz
        · rw [← r1] at hz
          exact go (fun E => (hF E).trans rfl) (zk_rep_nw (k := .inl (a, zm_ds a)) (c := .inr (a, zm_ds a)) hr rfl) hz
        · cases hz
      · -- a constructor called
        split at hz
        · split at hz
          · next o r =>
            split at hz
            · next e =>
              by_cases ha : a = 1001
              · rw [if_pos ha] at hz
                subst ha
                exact go (fun E => (hF E).trans (by show (match Nat.ble (zm_cs r) 8 with | true => E (m, i + 1, ls, r, h) | false => none) = _; rw [e])) hr hz
              · rw [if_neg ha] at hz
                by_cases ha2 : a < 1000 ∧ c = 0
                · rw [if_pos ha2] at hz
                  obtain ⟨ha3, rfl⟩ := ha2
                  split at hz
                  · next e2 =>
                    split at hz
                    · next Z2 e3 =>
                      obtain ⟨h2, b1, b2⟩ := ih _ _ _ _ _ _ e3 h hr
                      obtain ⟨h3, c1, c2⟩ := ih _ _ _ _ _ _ hz h2 b1
                      refine ⟨h3, c1, fun n hn => ?_⟩
                      obtain ⟨n, rfl⟩ : ∃ j, n = j + 1 := ⟨n - 1, by omega⟩
                      refine (hF _).trans ?_
                      have e4 : zm_call (zm_run sc n) a [.ref o] h = some (.inl none, h2) := by
                        unfold zm_call
                        rw [e2]
                        exact b2 n (by omega)
                      have e5 : ∀ q q2 : Option zm_R, ∀ a0, a0 < 1000 → (match a0 with | 1001 => q | 1002 => none | a => q2) = q2 := by
                        intro q q2 a0 h0
                        split <;> first | rfl | (exfalso; omega)
                      unfold zm_G
                      dsimp only
                      split
                      · exfalso; omega
                      · exfalso; omega
                      · show (match Nat.ble (zm_cs r) 8 with | true => zm_rt 0 (zm_run sc n) m i ls r (zm_call (zm_run sc n) a [.ref o] h) | false => none) = _
                        rw [e]
                        dsimp only
                        rw [e4]
                        exact c2 n (by omega)
                    · cases hz
                  · cases hz
                · rw [if_neg ha2] at hz
                  cases hz
            · cases hz
          · cases hz
        · cases hz
      · split at hz
        · cases hz
          exact ⟨h, hr, fun n hn => by
            obtain ⟨n, rfl⟩ : ∃ j, n = j + 1 := ⟨n - 1, by omega⟩
            exact (hF _).trans rfl⟩
        · cases hz
      · cases hz
