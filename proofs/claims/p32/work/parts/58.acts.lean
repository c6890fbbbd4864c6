/-! CALLS: the actions -/
section OP3
variable {sc : Nat × (Nat → Int32)} {s t u : zv_S} {M N : zM} {L L' : List zM} {S : Nat → Option zM} {tx : Nat → Nat} {len : Nat} {W : zW}
theorem RM.rem (h : RM s M L S tx len) (hp : HQ t L' ∧ (∀ a, a ≠ 88 → a ≠ 91 → t.1 a = s.1 a ∧ t.2.1 a = s.2.1 a) ∧ t.2.2 = s.2.2 ∧ ∀ j, j ≠ 3 → t.1 88 j = s.1 88 j) : RM t M L' S tx len := by
  obtain ⟨p1, p2, p3, p4⟩ := hp
  refine ⟨by rw [(p2 89 (by omega) (by omega)).1]; exact h.1, p1, h.2.2.1.of (p2 93 (by omega) (by omega)).1 (p2 92 (by omega) (by omega)).1, ?_⟩
  unfold TXT
  rw [(p2 94 (by omega) (by omega)).1, p4 7 (by omega)]
  exact h.2.2.2
theorem rem_fr (hp : HQ t L' ∧ (∀ a, a ≠ 88 → a ≠ 91 → t.1 a = s.1 a ∧ t.2.1 a = s.2.1 a) ∧ t.2.2 = s.2.2 ∧ ∀ j, j ≠ 3 → t.1 88 j = s.1 88 j) : FR 88 109 s t := ⟨fun a ha => hp.2.1 a (by omega) (by omega), hp.2.2.1⟩
theorem xm_a {x v : Int32} (h : RM t M L' S tx len) (hst : FR 88 109 s t) (h8 : t.1 88 8 = nI 0) (hf : GM t u) (hq : QM (u.1 89) N) (h8' : u.1 88 8 = t.1 88 8) (hv : x = v) : XM s W (.inr (v, (N, L', S, tx, len))) x u := by
  subst hv
  exact ⟨h8'.trans h8, rfl, RM.gm h hf hq, hst.tr hf.f88⟩
theorem RCw.act2 (h : RCw s (M, L, S, tx, len)) (F : FR 6 50 s t) (hH : HK t L') (F3 : FR 3 6 t u) (hM : MK u 3 N) : RCw u (N, L', S, tx, len) ∧ FC s u 0 :=
  ⟨h.act ((F.up (lo' := 3) (hi' := 50) (by omega) (by omega)).tr (F3.up (by omega) (by omega))) (by omega) hM (hH.fr F3 (by omega)), (FC.fr F (by omega)).tr (FC.fr F3 (by omega))⟩
theorem GM.q (h : FR 89 90 s t) : GM s t := GM.fr h (by omega)
theorem FR.q8 (h : FR 89 90 s t) : t.1 88 8 = s.1 88 8 := by rw [h.at (by omega)]
end OP3
