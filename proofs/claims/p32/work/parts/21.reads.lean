/-! reading and writing the typed memory -/
def zl_fI (o c k : Nat) : Bool := match zl o with
  | .inl (cj, rs) => Nat.beq cj c && (match rs[k]? with
    | some none => true
    | _ => false)
  | _ => false
def zl_fR (o c k : Nat) : Option Nat := match zl o with
  | .inl (cj, rs) => if cj = c then (match rs[k]? with
    | some (some r) => some r
    | _ => none) else none
  | _ => none
def zl_is (o c : Nat) : Bool := match zl o with
  | .inl (cj, _) => Nat.beq cj c
  | _ => false
def zl_aI (o : Nat) : Option Nat := match zl o with
  | .inr (0, n, _) => some n
  | _ => none
def zl_aL (o : Nat) : Option Nat := match zl o with
  | .inr (1, n, _) => some n
  | _ => none
def zl_aZ (o : Nat) : Option Nat := match zl o with
  | .inr (2, n, _) => some n
  | _ => none
def zl_aR (o : Nat) : Option (Nat × List Nat) := match zl o with
  | .inr (3, n, rs) => some (n, rs)
  | _ => none
def zl_ln (o : Nat) : Option Nat := match zl o with
  | .inr (_, n, _) => some n
  | _ => none
theorem zl_len : zl_t.length = 88 := by decide +kernel
theorem zl_big {o : Nat} (h : 88 ≤ o) : zl o = .inl (99, []) := by
  unfold zl
  rw [List.getElem?_eq_none (by rw [zl_len]; exact h)]
theorem zl_ltI {o : Nat} {k : zl_K} (h : zl o = k) (hk : k ≠ .inl (99, [])) : o < 88 := by
  rcases Nat.lt_or_ge o 88 with h1 | h1
  · exact h1
  · exact absurd (h.symm.trans (zl_big h1)) hk
theorem zl_szs : (zl_t.all fun k => match k with
  | .inr (c, n, _) => Nat.ble n 5040 && Nat.ble c 3
  | _ => true) = true := by decide +kernel
theorem zl_sz {o c n : Nat} {rs : List Nat} (h : zl o = .inr (c, n, rs)) : n ≤ 5040 := by
  have ho := zl_ltI h (by intro z; cases z)
  unfold zl at h
  split at h
  · rename_i k hk
    have h1 := List.all_eq_true.mp zl_szs k (List.mem_of_getElem? hk)
    rw [h] at h1
    simp only [Bool.and_eq_true] at h1
    exact Nat.le_of_ble_eq_true h1.1
  · cases h
theorem zx_ix {k n : Nat} (h : k < n) (hn : n ≤ 5040) : zm_ix (nI k) n = some k := by
  unfold zm_ix
  have h1 : k < 2 ^ 31 := by omega
  rw [if_neg (nI_pos h1), nI_clamp h1, if_pos h]
theorem zl_f_get (f : Nat → Int32) : ∀ (rs : List (Option Nat)) (i k : Nat), (zl_f f i rs)[k]? = match rs[k]? with
    | some none => some (.int (f (i + k)))
    | some (some r) => some (.ref r)
    | none => none
  | [], i, k => by simp [zl_f]
  | none :: rs, i, 0 => by simp [zl_f]
  | some r :: rs, i, 0 => by simp [zl_f]
  | none :: rs, i, k + 1 => by
    simp only [zl_f, List.getElem?_cons_succ]
    rw [zl_f_get f rs (i + 1) k, show i + 1 + k = i + (k + 1) by omega]
  | some r :: rs, i, k + 1 => by
    simp only [zl_f, List.getElem?_cons_succ]
    rw [zl_f_get f rs (i + 1) k, show i + 1 + k = i + (k + 1) by omega]
theorem zl_f_len (f : Nat → Int32) : ∀ (rs : List (Option Nat)) (i : Nat), (zl_f f i rs).length = rs.length
  | [], i => rfl
  | none :: rs, i => by simp [zl_f, zl_f_len f rs]
  | some r :: rs, i => by simp [zl_f, zl_f_len f rs]
theorem zl_f_low {f g : Nat → Int32} : ∀ (rs : List (Option Nat)) (i : Nat), (∀ j, i ≤ j → f j = g j) → zl_f f i rs = zl_f g i rs
  | [], i, h => rfl
  | none :: rs, i, h => by simp only [zl_f]; rw [h i (Nat.le_refl _), zl_f_low rs (i + 1) (fun j hj => h j (by omega))]
  | some r :: rs, i, h => by simp only [zl_f]; rw [zl_f_low rs (i + 1) (fun j hj => h j (by omega))]
theorem zl_f_set (f : Nat → Int32) (v : Int32) : ∀ (rs : List (Option Nat)) (i k : Nat), rs[k]? = some none → (zl_f f i rs).set k (.int v) = zl_f (upd f (i + k) v) i rs
  | [], i, k, h => by simp at h
  | none :: rs, i, 0, h => by
    simp only [zl_f, List.set_cons_zero, Nat.add_zero]
    rw [pk_us, zl_f_low (f := f) (g := upd f i v) rs (i + 1) (fun j hj => (pk_un (by omega)).symm)]
  | some r :: rs, i, 0, h => by simp at h
  | none :: rs, i, k + 1, h => by
    simp only [zl_f, List.set_cons_succ]
    rw [zl_f_set f v rs (i + 1) k (by simpa using h), pk_un (by omega), show i + 1 + k = i + (k + 1) by omega]
  | some r :: rs, i, k + 1, h => by
    simp only [zl_f, List.set_cons_succ]
    rw [zl_f_set f v rs (i + 1) k (by simpa using h), show i + 1 + k = i + (k + 1) by omega]
section ZV
variable {s : zv_S} {h : zm_H} {o c k n : Nat}
theorem zr_gI (hr : zv_rep s h) (hk : zl_fI o c k = true) : zm_gI h o c k = some (s.1 o k) := by
  unfold zl_fI at hk
  split at hk
  · rename_i cj rs hz
    rw [Bool.and_eq_true] at hk
    have hc := Nat.eq_of_beq_eq_true hk.1
    subst hc
    have ho : o < 88 := zl_ltI hz (by
      intro z
      cases z
      have := hk.2
      simp at this)
    have h1 := hr.2.2.2 o ho
    rw [hz] at h1
    have h2 : h.2.1 o = .inr (cj, zl_f (s.1 o) 0 rs) := h1
    unfold zm_gI
    rw [h2]
    dsimp only
    rw [if_pos rfl, zl_f_get]
    split at hk
    · rename_i e
      rw [e]
      simp
    · cases hk.2
  · cases hk
theorem zr_gR {r : Nat} (hr : zv_rep s h) (hk : zl_fR o c k = some r) : zm_gR h o c k = some r := by
  unfold zl_fR at hk
  split at hk
  · rename_i cj rs hz
    split at hk
    · rename_i hc
      subst hc
      split at hk
      · rename_i r0 e
        cases hk
        have ho : o < 88 := zl_ltI hz (by
          intro z
          cases z
          simp at e)
        have h1 := hr.2.2.2 o ho
        rw [hz] at h1
        have h2 : h.2.1 o = .inr (cj, zl_f (s.1 o) 0 rs) := h1
        unfold zm_gR
        rw [h2]
        dsimp only
        rw [if_pos rfl, zl_f_get, e]
      · cases hk
    · cases hk
  · cases hk
theorem zr_is (hr : zv_rep s h) (ho : o < 88) (hk : zl_is o c = true) : zm_is h o c = true := by
  unfold zl_is at hk
  split at hk
  · rename_i cj rs hz
    have h1 := hr.2.2.2 o ho
    rw [hz] at h1
    have h2 : h.2.1 o = .inr (cj, zl_f (s.1 o) 0 rs) := h1
    unfold zm_is
    rw [h2]
    exact hk
  · cases hk
theorem zr_aI (hr : zv_rep s h) (ho : zl_aI o = some n) (hk : k < n) : zm_aI h o (nI k) = some (s.1 o k) := by
  unfold zl_aI at ho
  split at ho
  · rename_i n0 rs hz
    cases ho
    have h1 := hr.2.2.2 o (zl_ltI hz (by intro z; cases z))
    rw [hz] at h1
    have h2 : h.2.1 o = .inl (.int, n, .inl (s.1 o)) := h1
    unfold zm_aI
    rw [h2]
    dsimp only
    rw [zx_ix hk (zl_sz hz)]
    rfl
  · cases ho
theorem zr_aZ (hr : zv_rep s h) (ho : zl_aZ o = some n) (hk : k < n) : zm_aZ h o (nI k) = some (s.1 o k) := by
  unfold zl_aZ at ho
  split at ho
  · rename_i n0 rs hz
    cases ho
    have h1 := hr.2.2.2 o (zl_ltI hz (by intro z; cases z))
    rw [hz] at h1
    have h2 : h.2.1 o = .inl (.boolean, n, .inl (s.1 o)) := h1
    unfold zm_aZ
    rw [h2]
    dsimp only
    rw [zx_ix hk (zl_sz hz)]
    rfl
  · cases ho
theorem zr_aL (hr : zv_rep s h) (ho : zl_aL o = some n) (hk : k < n) : zm_aL h o (nI k) = some (s.2.1 o k) := by
  unfold zl_aL at ho
  split at ho
  · rename_i n0 rs hz
    cases ho
    have h1 := hr.2.2.2 o (zl_ltI hz (by intro z; cases z))
    rw [hz] at h1
    have h2 : h.2.1 o = .inl (.long, n, .inr (.inl (s.2.1 o))) := h1
    unfold zm_aL
    rw [h2]
    dsimp only
    rw [zx_ix hk (zl_sz hz)]
    rfl
  · cases ho
theorem zr_aR {rs : List Nat} {r : Nat} (hr : zv_rep s h) (ho : zl_aR o = some (n, rs)) (hk : k < n) (hx : rs[k]? = some r) : zm_aR h o (nI k) = some r := by
  unfold zl_aR at ho
  split at ho
  · rename_i n0 rs0 hz
    cases ho
    have h1 := hr.2.2.2 o (zl_ltI hz (by intro z; cases z))
    rw [hz] at h1
    obtain ⟨p, h2, h3⟩ : ∃ p, h.2.1 o = .inl (.object RX1, n, .inr (.inr p)) ∧ ∀ i, i < n → p i = rs[i]? := h1
    unfold zm_aR
    rw [h2]
    dsimp only
    rw [zx_ix hk (zl_sz hz)]
    show p k = some r
    rw [h3 k hk, hx]
  · cases ho
theorem zr_ln (hr : zv_rep s h) (ho : zl_ln o = some n) : zm_ln h o = some n := by
  unfold zl_ln at ho
  split at ho
  · rename_i c0 n0 rs hz
    cases ho
    have h1 := hr.2.2.2 o (zl_ltI hz (by intro z; cases z))
    rw [hz] at h1
    have hc : c0 ≤ 3 := by
      unfold zl at hz
      split at hz
      · rename_i k hk
        have h1 := List.all_eq_true.mp zl_szs k (List.mem_of_getElem? hk)
        rw [hz] at h1
        simp only [Bool.and_eq_true] at h1
        exact Nat.le_of_ble_eq_true h1.2
      · cases hz
    match c0, hc, h1 with
    | 0, _, h1 =>
      have h2 : h.2.1 o = .inl (.int, n, .inl (s.1 o)) := h1
      unfold zm_ln
      rw [h2]
    | 1, _, h1 =>
      have h2 : h.2.1 o = .inl (.long, n, .inr (.inl (s.2.1 o))) := h1
      unfold zm_ln
      rw [h2]
    | 2, _, h1 =>
      have h2 : h.2.1 o = .inl (.boolean, n, .inl (s.1 o)) := h1
      unfold zm_ln
      rw [h2]
    | 3, _, h1 =>
      obtain ⟨p, h2, h3⟩ : ∃ p, h.2.1 o = .inl (.object RX1, n, .inr (.inr p)) ∧ ∀ i, i < n → p i = rs[i]? := h1
      unfold zm_ln
      rw [h2]
    | n + 4, h9, _ => omega
  · cases ho
/-- cell o holds f -/
def sF (s : zv_S) (o : Nat) (f : Nat → Int32) : zv_S := (fun a => if a = o then f else s.1 a, s.2)
def sI (s : zv_S) (o k : Nat) (v : Int32) : zv_S := sF s o (upd (s.1 o) k v)
def sG (s : zv_S) (o : Nat) (g : Nat → Int64) : zv_S := (s.1, fun a => if a = o then g else s.2.1 a, s.2.2)
def sL (s : zv_S) (o k : Nat) (v : Int64) : zv_S := sG s o (vp_updL (s.2.1 o) k v)
theorem zw_F {f : Nat → Int32} {c1 : zm_C} (hr : zv_rep s h) (hc : zl_c (zl o) f (s.2.1 o) c1) : zv_rep (sF s o f) (zm_u h o c1) := by
  obtain ⟨h1, h2, h3, h4⟩ := hr
  refine ⟨h1, h2, h3, fun a ha => ?_⟩
  show zl_c (zl a) (if a = o then f else s.1 a) (s.2.1 a) (if a = o then c1 else h.2.1 a)
  by_cases e : a = o
  · subst e
    rw [if_pos rfl, if_pos rfl]
    exact hc
  · rw [if_neg e, if_neg e]
    exact h4 a ha
theorem zw_G {g : Nat → Int64} {c1 : zm_C} (hr : zv_rep s h) (hc : zl_c (zl o) (s.1 o) g c1) : zv_rep (sG s o g) (zm_u h o c1) := by
  obtain ⟨h1, h2, h3, h4⟩ := hr
  refine ⟨h1, h2, h3, fun a ha => ?_⟩
  show zl_c (zl a) (s.1 a) (if a = o then g else s.2.1 a) (if a = o then c1 else h.2.1 a)
  by_cases e : a = o
  · subst e
    rw [if_pos rfl, if_pos rfl]
    exact hc
  · rw [if_neg e, if_neg e]
    exact h4 a ha
theorem zw_pt {v : Int32} (hr : zv_rep s h) (hk : zl_fI o c k = true) : ∃ h', zm_pt h o c k (.int v) = some h' ∧ zv_rep (sI s o k v) h' := by
  unfold zl_fI at hk
  split at hk
  · rename_i cj rs hz
    rw [Bool.and_eq_true] at hk
    have hc := Nat.eq_of_beq_eq_true hk.1
    subst hc
    have ho : o < 88 := zl_ltI hz (by
      intro z
      cases z
      have := hk.2
      simp at this)
    have h1 := hr.2.2.2 o ho
    rw [hz] at h1
    have h2 : h.2.1 o = .inr (cj, zl_f (s.1 o) 0 rs) := h1
    have hk2 : rs[k]? = some none := by
      have := hk.2
      split at this
      · assumption
      · cases this
    have hlt := (List.getElem?_eq_some_iff.mp hk2).1
    unfold zm_pt
    rw [h2]
    dsimp only
    rw [if_pos rfl, zl_f_len, if_pos hlt, zl_f_set _ _ _ _ _ hk2, Nat.zero_add]
    refine ⟨_, rfl, zw_F hr ?_⟩
    rw [hz]
    rfl
  · cases hk
theorem zw_sI {v : Int32} (hr : zv_rep s h) (ho : zl_aI o = some n) (hk : k < n) : ∃ h', zm_sI h o (nI k) v = some h' ∧ zv_rep (sI s o k v) h' := by
  unfold zl_aI at ho
  split at ho
  · rename_i n0 rs hz
    cases ho
    have h1 := hr.2.2.2 o (zl_ltI hz (by intro z; cases z))
    rw [hz] at h1
    have h2 : h.2.1 o = .inl (.int, n, .inl (s.1 o)) := h1
    unfold zm_sI
    rw [h2]
    dsimp only
    rw [zx_ix hk (zl_sz hz)]
    refine ⟨_, rfl, zw_F hr ?_⟩
    rw [hz]
    rfl
  · cases ho
theorem zw_sZ {v : Int32} (hr : zv_rep s h) (ho : zl_aZ o = some n) (hk : k < n) : ∃ h', zm_sZ h o (nI k) v = some h' ∧ zv_rep (sI s o k (vp_nar .boolean v)) h' := by
  unfold zl_aZ at ho
  split at ho
  · rename_i n0 rs hz
    cases ho
    have h1 := hr.2.2.2 o (zl_ltI hz (by intro z; cases z))
    rw [hz] at h1
    have h2 : h.2.1 o = .inl (.boolean, n, .inl (s.1 o)) := h1
    unfold zm_sZ
    rw [h2]
    dsimp only
    rw [zx_ix hk (zl_sz hz)]
    refine ⟨_, rfl, zw_F hr ?_⟩
    rw [hz]
    rfl
  · cases ho
theorem zw_sL {v : Int64} (hr : zv_rep s h) (ho : zl_aL o = some n) (hk : k < n) : ∃ h', zm_sL h o (nI k) v = some h' ∧ zv_rep (sL s o k v) h' := by
  unfold zl_aL at ho
  split at ho
  · rename_i n0 rs hz
    cases ho
    have h1 := hr.2.2.2 o (zl_ltI hz (by intro z; cases z))
    rw [hz] at h1
    have h2 : h.2.1 o = .inl (.long, n, .inr (.inl (s.2.1 o))) := h1
    unfold zm_sL
    rw [h2]
    dsimp only
    rw [zx_ix hk (zl_sz hz)]
    refine ⟨_, rfl, zw_G hr ?_⟩
    rw [hz]
    rfl
  · cases ho
theorem zl_aIc {f : Nat → Int32} (ho : zl_aI o = some n) (hr : zv_rep s h) : h.2.1 o = .inl (.int, n, .inl (s.1 o)) ∧ zl_c (zl o) f (s.2.1 o) (.inl (.int, n, .inl f)) := by
  unfold zl_aI at ho
  split at ho
  · rename_i n0 rs hz
    cases ho
    have h1 := hr.2.2.2 o (zl_ltI hz (by intro z; cases z))
    rw [hz] at h1
    refine ⟨h1, ?_⟩
    rw [hz]
    rfl
  · cases ho
theorem zw_cp {o1 n1 a b e : Nat} (hr : zv_rep s h) (h1 : zl_aI o1 = some n1) (ho : zl_aI o = some n) (ha : a + e ≤ n1) (hb : b + e ≤ n) (hn1 : n1 ≤ 5040) (hn : n ≤ 5040) : ∃ h', zm_cp h o1 (nI a) o (nI b) (nI e) = some h' ∧ zv_rep (sF s o (va_cpy (s.1 o1) (s.1 o) a b e)) h' := by
  obtain ⟨e1, -⟩ := zl_aIc (f := s.1 o1) h1 hr
  obtain ⟨e2, e3⟩ := zl_aIc (f := va_cpy (s.1 o1) (s.1 o) a b e) ho hr
  unfold zm_cp
  rw [e1, e2]
  dsimp only
  have a1 : a < 2 ^ 31 := by omega
  have b1 : b < 2 ^ 31 := by omega
  have c1 : e < 2 ^ 31 := by omega
  rw [if_neg (by rintro (h | h | h); exact nI_pos a1 h; exact nI_pos b1 h; exact nI_pos c1 h), nI_clamp a1, nI_clamp b1, nI_clamp c1, if_pos ⟨ha, hb⟩]
  exact ⟨_, rfl, zw_F hr e3⟩
end ZV
