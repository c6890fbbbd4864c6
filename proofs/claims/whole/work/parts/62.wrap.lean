/-! THE LAW'S OWN SMALL METHODS -/
def FL (s t : zv_S) (e : Nat) : Prop := (∀ a, 88 ≤ a → a < 109 → t.1 a = s.1 a ∧ t.2.1 a = s.2.1 a) ∧ t.2.2 = s.2.2 + e
abbrev LX (s : zv_S) (W : zW) (r : zA) (x : Int32) (t : zv_S) : Prop := match r with
  | .inl k => x = nI k ∧ RCw t W ∧ FL s t 1
  | .inr q => x = nI 0 ∧ t.2.1 109 0 = q.1.toInt64 ∧ RCw t q.2 ∧ FL s t 0
section LWS
variable {sc : Nat × (Nat → Int32)} {s t : zv_S} {W : zW} {r : zA} {e : Nat}
theorem FL.of (h : FC s t e) : FL s t e := ⟨fun a h1 _ => h.1 a h1, h.2⟩
theorem FL.sL {v : Int64} (h : FC s t 0) : FL s (sL t 109 0 v) 0 := ⟨fun a h1 h2 => ⟨(h.1 a h1).1, (sL_o (by omega)).trans (h.1 a h1).2⟩, h.2⟩
theorem RM.eq {M : zM} {L : List zM} {S : Nat → Option zM} {tx : Nat → Nat} {len : Nat} (h : RM s M L S tx len) (e : ∀ a, 88 ≤ a → a < 95 → t.1 a = s.1 a) : RM t M L S tx len := by
  refine ⟨by rw [e 89 (by omega) (by omega)]; exact h.1, h.2.1.of (by rw [e 88 (by omega) (by omega)]) (e 91 (by omega) (by omega)), h.2.2.1.of (e 93 (by omega) (by omega)) (e 92 (by omega) (by omega)), ?_⟩
  unfold TXT
  rw [e 88 (by omega) (by omega), e 94 (by omega) (by omega)]
  exact h.2.2.2
theorem RMw.fl (h : RMw s W) (hf : FL s t e) : RMw t W := RM.eq h fun a x y => (hf.1 a x (by omega)).1
theorem LX.fl {x : Int32} (h : LX s W r x t) : ∃ e, FL s t e := by
  cases r with
  | inl k => exact ⟨1, h.2.2⟩
  | inr q => exact ⟨0, h.2.2.2⟩
theorem RCw.f88 (h : RCw s W) (hf : FR 88 109 s t) : RCw t W := RC.fr h hf (Or.inr (by omega))
theorem w_185 {x : Int32} (hA : CC sc 1 [.ref 0, .int x] s (XC (fun k => k - 1) s W r)) (hk : XW 2 r) : CC sc 185 [.ref 0, .int x, .ref 109] s (QI (LX s W r)) := by
  refine cc_of ml_185 rfl rfl ?_
  refine v_al2 c_185_0 ?_
  refine v_icN (n := 0) c_185_1 rfl ?_
  refine v_al0 c_185_2 ?_
  refine v_il1 c_185_3 ?_
  refine v_cVB c_185_4 rfl (by decide) rfl rfl ht_185 (by decide) hA ?_ ?_
  · rintro p t rfl h1 h2
    refine v_i2l c_185_5 ?_
    refine v_sL c_185_6 rfl (by omega) ?_
    refine v_goto c_185_7 ?_
    refine v_icN (n := 0) c_185_14 rfl ?_
    refine v_ri c_185_15 ?_
    exact ⟨_, rfl, rfl, sL_s, h1, FL.sL h2⟩
  · rintro k rfl
    have hk : 1 ≤ k ∧ k ≤ 2 := hk
    rcases (show k = 1 ∨ k = 2 by omega) with rfl | rfl
    · refine ⟨9, 3, rfl, fun t h1 h2 => ?_⟩
      refine v_icN (n := 1) c_185_9 rfl ?_
      refine v_ri c_185_10 ?_
      exact ⟨_, rfl, rfl, h1, FL.of h2⟩
    · refine ⟨12, 3, rfl, fun t h1 h2 => ?_⟩
      refine v_icN (n := 2) c_185_12 rfl ?_
      refine v_ri c_185_13 ?_
      exact ⟨_, rfl, rfl, h1, FL.of h2⟩
theorem w_186  (hA : CC sc 4 [.ref 0] s (XC (fun _ => 1) s W r)) (hk : XW 1 r) : CC sc 186 [.ref 0, .ref 109] s (QI (LX s W r)) := by
  refine cc_of ml_186 rfl rfl ?_
  refine v_al1 c_186_0 ?_
  refine v_icN (n := 0) c_186_1 rfl ?_
  refine v_al0 c_186_2 ?_
  refine v_cVB c_186_3 rfl (by decide) rfl rfl ht_186 (by decide) hA ?_ ?_
  · rintro p t rfl h1 h2
    refine v_i2l c_186_4 ?_
    refine v_sL c_186_5 rfl (by omega) ?_
    refine v_goto c_186_6 ?_
    refine v_icN (n := 0) c_186_10 rfl ?_
    refine v_ri c_186_11 ?_
    exact ⟨_, rfl, rfl, sL_s, h1, FL.sL h2⟩
  · rintro k rfl
    have hk : 1 ≤ k ∧ k ≤ 1 := hk
    obtain rfl : k = 1 := by omega
    refine ⟨8, 2, rfl, fun t h1 h2 => ?_⟩
    refine v_icN (n := 1) c_186_8 rfl ?_
    refine v_ri c_186_9 ?_
    exact ⟨_, rfl, rfl, h1, FL.of h2⟩
theorem w_187 {x : Int32} (hA : CC sc 5 [.ref 0, .int x] s (XC (fun _ => 0) s W r)) (hk : XW 1 r) : CC sc 187 [.ref 0, .int x, .ref 109] s (QI (LX s W r)) := by
  refine cc_of ml_187 rfl rfl ?_
  refine v_al2 c_187_0 ?_
  refine v_icN (n := 0) c_187_1 rfl ?_
  refine v_al0 c_187_2 ?_
  refine v_il1 c_187_3 ?_
  refine v_cVB c_187_4 rfl (by decide) rfl rfl ht_187 (by decide) hA ?_ ?_
  · rintro p t rfl h1 h2
    refine v_i2l c_187_5 ?_
    refine v_sL c_187_6 rfl (by omega) ?_
    refine v_goto c_187_7 ?_
    refine v_icN (n := 0) c_187_11 rfl ?_
    refine v_ri c_187_12 ?_
    exact ⟨_, rfl, rfl, sL_s, h1, FL.sL h2⟩
  · rintro k rfl
    have hk : 1 ≤ k ∧ k ≤ 1 := hk
    obtain rfl : k = 1 := by omega
    refine ⟨9, 3, rfl, fun t h1 h2 => ?_⟩
    refine v_icN (n := 1) c_187_9 rfl ?_
    refine v_ri c_187_10 ?_
    exact ⟨_, rfl, rfl, h1, FL.of h2⟩
theorem w_188 {x : Int32} {y : Int32} (hA : CC sc 6 [.ref 0, .int x, .int y] s (XC (fun k => if k = 1 then 2 else 0) s W r)) (hk : XW 2 r) : CC sc 188 [.ref 0, .int x, .int y, .ref 109] s (QI (LX s W r)) := by
  refine cc_of ml_188 rfl rfl ?_
  refine v_al3 c_188_0 ?_
  refine v_icN (n := 0) c_188_1 rfl ?_
  refine v_al0 c_188_2 ?_
  refine v_il1 c_188_3 ?_
  refine v_il2 c_188_4 ?_
  refine v_cVB c_188_5 rfl (by decide) rfl rfl ht_188 (by decide) hA ?_ ?_
  · rintro p t rfl h1 h2
    refine v_i2l c_188_6 ?_
    refine v_sL c_188_7 rfl (by omega) ?_
    refine v_goto c_188_8 ?_
    refine v_icN (n := 0) c_188_15 rfl ?_
    refine v_ri c_188_16 ?_
    exact ⟨_, rfl, rfl, sL_s, h1, FL.sL h2⟩
  · rintro k rfl
    have hk : 1 ≤ k ∧ k ≤ 2 := hk
    rcases (show k = 1 ∨ k = 2 by omega) with rfl | rfl
    · refine ⟨10, 4, rfl, fun t h1 h2 => ?_⟩
      refine v_icN (n := 1) c_188_10 rfl ?_
      refine v_ri c_188_11 ?_
      exact ⟨_, rfl, rfl, h1, FL.of h2⟩
    · refine ⟨13, 4, rfl, fun t h1 h2 => ?_⟩
      refine v_icN (n := 2) c_188_13 rfl ?_
      refine v_ri c_188_14 ?_
      exact ⟨_, rfl, rfl, h1, FL.of h2⟩
theorem w_189 {x : Int32} {y : Int32} (hA : CC sc 7 [.ref 0, .int x, .int y] s (XC (fun _ => 2) s W r)) (hk : XW 1 r) : CC sc 189 [.ref 0, .int x, .int y, .ref 109] s (QI (LX s W r)) := by
  refine cc_of ml_189 rfl rfl ?_
  refine v_al3 c_189_0 ?_
  refine v_icN (n := 0) c_189_1 rfl ?_
  refine v_al0 c_189_2 ?_
  refine v_il1 c_189_3 ?_
  refine v_il2 c_189_4 ?_
  refine v_cVB c_189_5 rfl (by decide) rfl rfl ht_189 (by decide) hA ?_ ?_
  · rintro p t rfl h1 h2
    refine v_i2l c_189_6 ?_
    refine v_sL c_189_7 rfl (by omega) ?_
    refine v_goto c_189_8 ?_
    refine v_icN (n := 0) c_189_12 rfl ?_
    refine v_ri c_189_13 ?_
    exact ⟨_, rfl, rfl, sL_s, h1, FL.sL h2⟩
  · rintro k rfl
    have hk : 1 ≤ k ∧ k ≤ 1 := hk
    obtain rfl : k = 1 := by omega
    refine ⟨10, 4, rfl, fun t h1 h2 => ?_⟩
    refine v_icN (n := 1) c_189_10 rfl ?_
    refine v_ri c_189_11 ?_
    exact ⟨_, rfl, rfl, h1, FL.of h2⟩
theorem w_190 {x : Int32} (hA : CC sc 8 [.ref 0, .int x] s (XC (fun _ => 2) s W r)) (hk : XW 1 r) : CC sc 190 [.ref 0, .int x, .ref 109] s (QI (LX s W r)) := by
  refine cc_of ml_190 rfl rfl ?_
  refine v_al2 c_190_0 ?_
  refine v_icN (n := 0) c_190_1 rfl ?_
  refine v_al0 c_190_2 ?_
  refine v_il1 c_190_3 ?_
  refine v_cVB c_190_4 rfl (by decide) rfl rfl ht_190 (by decide) hA ?_ ?_
  · rintro p t rfl h1 h2
    refine v_i2l c_190_5 ?_
    refine v_sL c_190_6 rfl (by omega) ?_
    refine v_goto c_190_7 ?_
    refine v_icN (n := 0) c_190_11 rfl ?_
    refine v_ri c_190_12 ?_
    exact ⟨_, rfl, rfl, sL_s, h1, FL.sL h2⟩
  · rintro k rfl
    have hk : 1 ≤ k ∧ k ≤ 1 := hk
    obtain rfl : k = 1 := by omega
    refine ⟨9, 3, rfl, fun t h1 h2 => ?_⟩
    refine v_icN (n := 1) c_190_9 rfl ?_
    refine v_ri c_190_10 ?_
    exact ⟨_, rfl, rfl, h1, FL.of h2⟩
theorem w_191 {x : Int32} {y : Int32} (hA : CC sc 9 [.ref 0, .int x, .int y] s (XC (fun k => if k = 1 then 2 else 0) s W r)) (hk : XW 2 r) : CC sc 191 [.ref 0, .int x, .int y, .ref 109] s (QI (LX s W r)) := by
  refine cc_of ml_191 rfl rfl ?_
  refine v_al3 c_191_0 ?_
  refine v_icN (n := 0) c_191_1 rfl ?_
  refine v_al0 c_191_2 ?_
  refine v_il1 c_191_3 ?_
  refine v_il2 c_191_4 ?_
  refine v_cVB c_191_5 rfl (by decide) rfl rfl ht_191 (by decide) hA ?_ ?_
  · rintro p t rfl h1 h2
    refine v_i2l c_191_6 ?_
    refine v_sL c_191_7 rfl (by omega) ?_
    refine v_goto c_191_8 ?_
    refine v_icN (n := 0) c_191_15 rfl ?_
    refine v_ri c_191_16 ?_
    exact ⟨_, rfl, rfl, sL_s, h1, FL.sL h2⟩
  · rintro k rfl
    have hk : 1 ≤ k ∧ k ≤ 2 := hk
    rcases (show k = 1 ∨ k = 2 by omega) with rfl | rfl
    · refine ⟨10, 4, rfl, fun t h1 h2 => ?_⟩
      refine v_icN (n := 1) c_191_10 rfl ?_
      refine v_ri c_191_11 ?_
      exact ⟨_, rfl, rfl, h1, FL.of h2⟩
    · refine ⟨13, 4, rfl, fun t h1 h2 => ?_⟩
      refine v_icN (n := 2) c_191_13 rfl ?_
      refine v_ri c_191_14 ?_
      exact ⟨_, rfl, rfl, h1, FL.of h2⟩
theorem w_192 {x : Int32} {y : Int32} (hA : CC sc 10 [.ref 0, .int x, .int y] s (XC (fun _ => 2) s W r)) (hk : XW 1 r) : CC sc 192 [.ref 0, .int x, .int y, .ref 109] s (QI (LX s W r)) := by
  refine cc_of ml_192 rfl rfl ?_
  refine v_al3 c_192_0 ?_
  refine v_icN (n := 0) c_192_1 rfl ?_
  refine v_al0 c_192_2 ?_
  refine v_il1 c_192_3 ?_
  refine v_il2 c_192_4 ?_
  refine v_cVB c_192_5 rfl (by decide) rfl rfl ht_192 (by decide) hA ?_ ?_
  · rintro p t rfl h1 h2
    refine v_i2l c_192_6 ?_
    refine v_sL c_192_7 rfl (by omega) ?_
    refine v_goto c_192_8 ?_
    refine v_icN (n := 0) c_192_12 rfl ?_
    refine v_ri c_192_13 ?_
    exact ⟨_, rfl, rfl, sL_s, h1, FL.sL h2⟩
  · rintro k rfl
    have hk : 1 ≤ k ∧ k ≤ 1 := hk
    obtain rfl : k = 1 := by omega
    refine ⟨10, 4, rfl, fun t h1 h2 => ?_⟩
    refine v_icN (n := 1) c_192_10 rfl ?_
    refine v_ri c_192_11 ?_
    exact ⟨_, rfl, rfl, h1, FL.of h2⟩
theorem w_193  (hA : CC sc 11 [.ref 0] s (XC (fun _ => 1) s W r)) (hk : XW 1 r) : CC sc 193 [.ref 0, .ref 109] s (QI (LX s W r)) := by
  refine cc_of ml_193 rfl rfl ?_
  refine v_al1 c_193_0 ?_
  refine v_icN (n := 0) c_193_1 rfl ?_
  refine v_al0 c_193_2 ?_
  refine v_cVB c_193_3 rfl (by decide) rfl rfl ht_193 (by decide) hA ?_ ?_
  · rintro p t rfl h1 h2
    refine v_i2l c_193_4 ?_
    refine v_sL c_193_5 rfl (by omega) ?_
    refine v_goto c_193_6 ?_
    refine v_icN (n := 0) c_193_10 rfl ?_
    refine v_ri c_193_11 ?_
    exact ⟨_, rfl, rfl, sL_s, h1, FL.sL h2⟩
  · rintro k rfl
    have hk : 1 ≤ k ∧ k ≤ 1 := hk
    obtain rfl : k = 1 := by omega
    refine ⟨8, 2, rfl, fun t h1 h2 => ?_⟩
    refine v_icN (n := 1) c_193_8 rfl ?_
    refine v_ri c_193_9 ?_
    exact ⟨_, rfl, rfl, h1, FL.of h2⟩
theorem w_194 {x : Int32} {y : Int32} {z : Int32} (hA : CC sc 12 [.ref 0, .int x, .int y, .int z] s (XC (fun k => if k = 1 then 2 else 0) s W r)) (hk : XW 2 r) : CC sc 194 [.ref 0, .int x, .int y, .int z, .ref 109] s (QI (LX s W r)) := by
  refine cc_of ml_194 rfl rfl ?_
  refine v_al4 c_194_0 ?_
  refine v_icN (n := 0) c_194_1 rfl ?_
  refine v_al0 c_194_2 ?_
  refine v_il1 c_194_3 ?_
  refine v_il2 c_194_4 ?_
  refine v_il3 c_194_5 ?_
  refine v_cVB c_194_6 rfl (by decide) rfl rfl ht_194 (by decide) hA ?_ ?_
  · rintro p t rfl h1 h2
    refine v_i2l c_194_7 ?_
    refine v_sL c_194_8 rfl (by omega) ?_
    refine v_goto c_194_9 ?_
    refine v_icN (n := 0) c_194_16 rfl ?_
    refine v_ri c_194_17 ?_
    exact ⟨_, rfl, rfl, sL_s, h1, FL.sL h2⟩
  · rintro k rfl
    have hk : 1 ≤ k ∧ k ≤ 2 := hk
    rcases (show k = 1 ∨ k = 2 by omega) with rfl | rfl
    · refine ⟨11, 5, rfl, fun t h1 h2 => ?_⟩
      refine v_icN (n := 1) c_194_11 rfl ?_
      refine v_ri c_194_12 ?_
      exact ⟨_, rfl, rfl, h1, FL.of h2⟩
    · refine ⟨14, 5, rfl, fun t h1 h2 => ?_⟩
      refine v_icN (n := 2) c_194_14 rfl ?_
      refine v_ri c_194_15 ?_
      exact ⟨_, rfl, rfl, h1, FL.of h2⟩
theorem w_195 {x : Int32} {y : Int32} (hA : CC sc 13 [.ref 0, .int x, .int y] s (XC (fun k => if k = 1 then 2 else 1) s W r)) (hk : XW 2 r) : CC sc 195 [.ref 0, .int x, .int y, .ref 109] s (QI (LX s W r)) := by
  refine cc_of ml_195 rfl rfl ?_
  refine v_al3 c_195_0 ?_
  refine v_icN (n := 0) c_195_1 rfl ?_
  refine v_al0 c_195_2 ?_
  refine v_il1 c_195_3 ?_
  refine v_il2 c_195_4 ?_
  refine v_cVB c_195_5 rfl (by decide) rfl rfl ht_195 (by decide) hA ?_ ?_
  · rintro p t rfl h1 h2
    refine v_i2l c_195_6 ?_
    refine v_sL c_195_7 rfl (by omega) ?_
    refine v_goto c_195_8 ?_
    refine v_icN (n := 0) c_195_15 rfl ?_
    refine v_ri c_195_16 ?_
    exact ⟨_, rfl, rfl, sL_s, h1, FL.sL h2⟩
  · rintro k rfl
    have hk : 1 ≤ k ∧ k ≤ 2 := hk
    rcases (show k = 1 ∨ k = 2 by omega) with rfl | rfl
    · refine ⟨10, 4, rfl, fun t h1 h2 => ?_⟩
      refine v_icN (n := 1) c_195_10 rfl ?_
      refine v_ri c_195_11 ?_
      exact ⟨_, rfl, rfl, h1, FL.of h2⟩
    · refine ⟨13, 4, rfl, fun t h1 h2 => ?_⟩
      refine v_icN (n := 2) c_195_13 rfl ?_
      refine v_ri c_195_14 ?_
      exact ⟨_, rfl, rfl, h1, FL.of h2⟩
theorem w_196 {x : Int32} (hA : CC sc 14 [.ref 0, .int x] s (XC (fun _ => 2) s W r)) (hk : XW 1 r) : CC sc 196 [.ref 0, .int x, .ref 109] s (QI (LX s W r)) := by
  refine cc_of ml_196 rfl rfl ?_
  refine v_al2 c_196_0 ?_
  refine v_icN (n := 0) c_196_1 rfl ?_
  refine v_al0 c_196_2 ?_
  refine v_il1 c_196_3 ?_
  refine v_cVB c_196_4 rfl (by decide) rfl rfl ht_196 (by decide) hA ?_ ?_
  · rintro p t rfl h1 h2
    refine v_i2l c_196_5 ?_
    refine v_sL c_196_6 rfl (by omega) ?_
    refine v_goto c_196_7 ?_
    refine v_icN (n := 0) c_196_11 rfl ?_
    refine v_ri c_196_12 ?_
    exact ⟨_, rfl, rfl, sL_s, h1, FL.sL h2⟩
  · rintro k rfl
    have hk : 1 ≤ k ∧ k ≤ 1 := hk
    obtain rfl : k = 1 := by omega
    refine ⟨9, 3, rfl, fun t h1 h2 => ?_⟩
    refine v_icN (n := 1) c_196_9 rfl ?_
    refine v_ri c_196_10 ?_
    exact ⟨_, rfl, rfl, h1, FL.of h2⟩
theorem w_197 {x : Int32} (hA : CC sc 16 [.ref 0, .int x] s (XC (fun k => if k = 1 then 2 else 1) s W r)) (hk : XW 2 r) : CC sc 197 [.ref 0, .int x, .ref 109] s (QI (LX s W r)) := by
  refine cc_of ml_197 rfl rfl ?_
  refine v_al2 c_197_0 ?_
  refine v_icN (n := 0) c_197_1 rfl ?_
  refine v_al0 c_197_2 ?_
  refine v_il1 c_197_3 ?_
  refine v_cVB c_197_4 rfl (by decide) rfl rfl ht_197 (by decide) hA ?_ ?_
  · rintro p t rfl h1 h2
    refine v_i2l c_197_5 ?_
    refine v_sL c_197_6 rfl (by omega) ?_
    refine v_goto c_197_7 ?_
    refine v_icN (n := 0) c_197_14 rfl ?_
    refine v_ri c_197_15 ?_
    exact ⟨_, rfl, rfl, sL_s, h1, FL.sL h2⟩
  · rintro k rfl
    have hk : 1 ≤ k ∧ k ≤ 2 := hk
    rcases (show k = 1 ∨ k = 2 by omega) with rfl | rfl
    · refine ⟨9, 3, rfl, fun t h1 h2 => ?_⟩
      refine v_icN (n := 1) c_197_9 rfl ?_
      refine v_ri c_197_10 ?_
      exact ⟨_, rfl, rfl, h1, FL.of h2⟩
    · refine ⟨12, 3, rfl, fun t h1 h2 => ?_⟩
      refine v_icN (n := 2) c_197_12 rfl ?_
      refine v_ri c_197_13 ?_
      exact ⟨_, rfl, rfl, h1, FL.of h2⟩
theorem w_198  (hA : CC sc 18 [.ref 0] s (XC (fun _ => 1) s W r)) (hk : XW 1 r) : CC sc 198 [.ref 0, .ref 109] s (QI (LX s W r)) := by
  refine cc_of ml_198 rfl rfl ?_
  refine v_al1 c_198_0 ?_
  refine v_icN (n := 0) c_198_1 rfl ?_
  refine v_al0 c_198_2 ?_
  refine v_cVB c_198_3 rfl (by decide) rfl rfl ht_198 (by decide) hA ?_ ?_
  · rintro p t rfl h1 h2
    refine v_i2l c_198_4 ?_
    refine v_sL c_198_5 rfl (by omega) ?_
    refine v_goto c_198_6 ?_
    refine v_icN (n := 0) c_198_10 rfl ?_
    refine v_ri c_198_11 ?_
    exact ⟨_, rfl, rfl, sL_s, h1, FL.sL h2⟩
  · rintro k rfl
    have hk : 1 ≤ k ∧ k ≤ 1 := hk
    obtain rfl : k = 1 := by omega
    refine ⟨8, 2, rfl, fun t h1 h2 => ?_⟩
    refine v_icN (n := 1) c_198_8 rfl ?_
    refine v_ri c_198_9 ?_
    exact ⟨_, rfl, rfl, h1, FL.of h2⟩
theorem w_199 {x : Int32} (hA : CC sc 22 [.ref 0, .int x] s (XC (fun _ => 2) s W r)) (hk : XW 1 r) : CC sc 199 [.ref 0, .int x, .ref 109] s (QI (LX s W r)) := by
  refine cc_of ml_199 rfl rfl ?_
  refine v_al2 c_199_0 ?_
  refine v_icN (n := 0) c_199_1 rfl ?_
  refine v_al0 c_199_2 ?_
  refine v_il1 c_199_3 ?_
  refine v_cVB c_199_4 rfl (by decide) rfl rfl ht_199 (by decide) hA ?_ ?_
  · rintro p t rfl h1 h2
    refine v_i2l c_199_5 ?_
    refine v_sL c_199_6 rfl (by omega) ?_
    refine v_goto c_199_7 ?_
    refine v_icN (n := 0) c_199_11 rfl ?_
    refine v_ri c_199_12 ?_
    exact ⟨_, rfl, rfl, sL_s, h1, FL.sL h2⟩
  · rintro k rfl
    have hk : 1 ≤ k ∧ k ≤ 1 := hk
    obtain rfl : k = 1 := by omega
    refine ⟨9, 3, rfl, fun t h1 h2 => ?_⟩
    refine v_icN (n := 1) c_199_9 rfl ?_
    refine v_ri c_199_10 ?_
    exact ⟨_, rfl, rfl, h1, FL.of h2⟩
theorem w_200 {x : Int32} (hA : CC sc 24 [.ref 0, .int x] s (XC (fun _ => 2) s W r)) (hk : XW 1 r) : CC sc 200 [.ref 0, .int x, .ref 109] s (QI (LX s W r)) := by
  refine cc_of ml_200 rfl rfl ?_
  refine v_al2 c_200_0 ?_
  refine v_icN (n := 0) c_200_1 rfl ?_
  refine v_al0 c_200_2 ?_
  refine v_il1 c_200_3 ?_
  refine v_cVB c_200_4 rfl (by decide) rfl rfl ht_200 (by decide) hA ?_ ?_
  · rintro p t rfl h1 h2
    refine v_i2l c_200_5 ?_
    refine v_sL c_200_6 rfl (by omega) ?_
    refine v_goto c_200_7 ?_
    refine v_icN (n := 0) c_200_11 rfl ?_
    refine v_ri c_200_12 ?_
    exact ⟨_, rfl, rfl, sL_s, h1, FL.sL h2⟩
  · rintro k rfl
    have hk : 1 ≤ k ∧ k ≤ 1 := hk
    obtain rfl : k = 1 := by omega
    refine ⟨9, 3, rfl, fun t h1 h2 => ?_⟩
    refine v_icN (n := 1) c_200_9 rfl ?_
    refine v_ri c_200_10 ?_
    exact ⟨_, rfl, rfl, h1, FL.of h2⟩
theorem w_201 {x : Int32} {y : Int32} (hA : CC sc 25 [.ref 0, .int x, .int y] s (XC (fun _ => 2) s W r)) (hk : XW 1 r) : CC sc 201 [.ref 0, .int x, .int y, .ref 109] s (QI (LX s W r)) := by
  refine cc_of ml_201 rfl rfl ?_
  refine v_al3 c_201_0 ?_
  refine v_icN (n := 0) c_201_1 rfl ?_
  refine v_al0 c_201_2 ?_
  refine v_il1 c_201_3 ?_
  refine v_il2 c_201_4 ?_
  refine v_cVB c_201_5 rfl (by decide) rfl rfl ht_201 (by decide) hA ?_ ?_
  · rintro p t rfl h1 h2
    refine v_i2l c_201_6 ?_
    refine v_sL c_201_7 rfl (by omega) ?_
    refine v_goto c_201_8 ?_
    refine v_icN (n := 0) c_201_12 rfl ?_
    refine v_ri c_201_13 ?_
    exact ⟨_, rfl, rfl, sL_s, h1, FL.sL h2⟩
  · rintro k rfl
    have hk : 1 ≤ k ∧ k ≤ 1 := hk
    obtain rfl : k = 1 := by omega
    refine ⟨10, 4, rfl, fun t h1 h2 => ?_⟩
    refine v_icN (n := 1) c_201_10 rfl ?_
    refine v_ri c_201_11 ?_
    exact ⟨_, rfl, rfl, h1, FL.of h2⟩
theorem w_202 {x : Int32} {y : Int64} (hA : CC sc 26 [.ref 0, .int x, .long y] s (XC (fun _ => 0) s W r)) (hk : XW 1 r) : CC sc 202 [.ref 0, .int x, .long y, .ref 109] s (QI (LX s W r)) := by
  refine cc_of ml_202 rfl rfl ?_
  refine v_al4 c_202_0 ?_
  refine v_icN (n := 0) c_202_1 rfl ?_
  refine v_al0 c_202_2 ?_
  refine v_il1 c_202_3 ?_
  refine v_ll2 c_202_4 ?_
  refine v_cVB c_202_5 rfl (by decide) rfl rfl ht_202 (by decide) hA ?_ ?_
  · rintro p t rfl h1 h2
    refine v_i2l c_202_6 ?_
    refine v_sL c_202_7 rfl (by omega) ?_
    refine v_goto c_202_8 ?_
    refine v_icN (n := 0) c_202_12 rfl ?_
    refine v_ri c_202_13 ?_
    exact ⟨_, rfl, rfl, sL_s, h1, FL.sL h2⟩
  · rintro k rfl
    have hk : 1 ≤ k ∧ k ≤ 1 := hk
    obtain rfl : k = 1 := by omega
    refine ⟨10, 5, rfl, fun t h1 h2 => ?_⟩
    refine v_icN (n := 1) c_202_10 rfl ?_
    refine v_ri c_202_11 ?_
    exact ⟨_, rfl, rfl, h1, FL.of h2⟩
theorem w_203 {x : Int64} {y : Int32} (hA : CC sc 27 [.ref 0, .long x, .int y] s (XC (fun _ => 0) s W r)) (hk : XW 1 r) : CC sc 203 [.ref 0, .long x, .int y, .ref 109] s (QI (LX s W r)) := by
  refine cc_of ml_203 rfl rfl ?_
  refine v_al4 c_203_0 ?_
  refine v_icN (n := 0) c_203_1 rfl ?_
  refine v_al0 c_203_2 ?_
  refine v_ll1 c_203_3 ?_
  refine v_il3 c_203_4 ?_
  refine v_cVB c_203_5 rfl (by decide) rfl rfl ht_203 (by decide) hA ?_ ?_
  · rintro p t rfl h1 h2
    refine v_i2l c_203_6 ?_
    refine v_sL c_203_7 rfl (by omega) ?_
    refine v_goto c_203_8 ?_
    refine v_icN (n := 0) c_203_12 rfl ?_
    refine v_ri c_203_13 ?_
    exact ⟨_, rfl, rfl, sL_s, h1, FL.sL h2⟩
  · rintro k rfl
    have hk : 1 ≤ k ∧ k ≤ 1 := hk
    obtain rfl : k = 1 := by omega
    refine ⟨10, 5, rfl, fun t h1 h2 => ?_⟩
    refine v_icN (n := 1) c_203_10 rfl ?_
    refine v_ri c_203_11 ?_
    exact ⟨_, rfl, rfl, h1, FL.of h2⟩
theorem w_204 {x : Int32} (hA : CC sc 28 [.ref 0, .int x] s (XC (fun _ => 2) s W r)) (hk : XW 1 r) : CC sc 204 [.ref 0, .int x, .ref 109] s (QI (LX s W r)) := by
  refine cc_of ml_204 rfl rfl ?_
  refine v_al2 c_204_0 ?_
  refine v_icN (n := 0) c_204_1 rfl ?_
  refine v_al0 c_204_2 ?_
  refine v_il1 c_204_3 ?_
  refine v_cVB c_204_4 rfl (by decide) rfl rfl ht_204 (by decide) hA ?_ ?_
  · rintro p t rfl h1 h2
    refine v_i2l c_204_5 ?_
    refine v_sL c_204_6 rfl (by omega) ?_
    refine v_goto c_204_7 ?_
    refine v_icN (n := 0) c_204_11 rfl ?_
    refine v_ri c_204_12 ?_
    exact ⟨_, rfl, rfl, sL_s, h1, FL.sL h2⟩
  · rintro k rfl
    have hk : 1 ≤ k ∧ k ≤ 1 := hk
    obtain rfl : k = 1 := by omega
    refine ⟨9, 3, rfl, fun t h1 h2 => ?_⟩
    refine v_icN (n := 1) c_204_9 rfl ?_
    refine v_ri c_204_10 ?_
    exact ⟨_, rfl, rfl, h1, FL.of h2⟩
theorem w_205 {x : Int32} (hA : CC sc 29 [.ref 0, .int x] s (XC (fun k => if k = 1 then 2 else 1) s W r)) (hk : XW 2 r) : CC sc 205 [.ref 0, .int x, .ref 109] s (QI (LX s W r)) := by
  refine cc_of ml_205 rfl rfl ?_
  refine v_al2 c_205_0 ?_
  refine v_icN (n := 0) c_205_1 rfl ?_
  refine v_al0 c_205_2 ?_
  refine v_il1 c_205_3 ?_
  refine v_cVB c_205_4 rfl (by decide) rfl rfl ht_205 (by decide) hA ?_ ?_
  · rintro p t rfl h1 h2
    refine v_i2l c_205_5 ?_
    refine v_sL c_205_6 rfl (by omega) ?_
    refine v_goto c_205_7 ?_
    refine v_icN (n := 0) c_205_14 rfl ?_
    refine v_ri c_205_15 ?_
    exact ⟨_, rfl, rfl, sL_s, h1, FL.sL h2⟩
  · rintro k rfl
    have hk : 1 ≤ k ∧ k ≤ 2 := hk
    rcases (show k = 1 ∨ k = 2 by omega) with rfl | rfl
    · refine ⟨9, 3, rfl, fun t h1 h2 => ?_⟩
      refine v_icN (n := 1) c_205_9 rfl ?_
      refine v_ri c_205_10 ?_
      exact ⟨_, rfl, rfl, h1, FL.of h2⟩
    · refine ⟨12, 3, rfl, fun t h1 h2 => ?_⟩
      refine v_icN (n := 2) c_205_12 rfl ?_
      refine v_ri c_205_13 ?_
      exact ⟨_, rfl, rfl, h1, FL.of h2⟩
theorem q_thr {v : Int32} (h : s.1 88 8 = v) : RI sc 39 [.ref 88] s v s := by
  refine cc_of ml_39 rfl rfl ?_
  refine v_al0 c_39_0 ?_
  refine v_gI c_39_1 rfl (h) ?_
  exact v_ri c_39_2 ⟨_, rfl, rfl, rfl⟩
theorem xc_q {ex : Nat → Nat} {m : Nat} {as : List Value} {q : Int32 × zW} (h : CC sc m as s (XC ex s W (.inr q))) : CC sc m as s (QI fun x t => x = q.1 ∧ RCw t q.2 ∧ FC s t 0) := h.mono fun _ _ h => ⟨_, h.1, rfl, h.2⟩
end LWS
