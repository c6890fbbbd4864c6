theorem zc_t187_0 : zc_ro 187 zd_187_0 zp_187_0 (some 101) = true := by decide +kernel
theorem zc_t187_1 : zc_ro 187 zd_187_1 zp_187_1 (some 211) = true := by decide +kernel
theorem zc_t187_2 : zc_ro 187 zd_187_2 zp_187_2 (some 334) = true := by decide +kernel
theorem zc_t187_3 : zc_ro 187 zd_187_3 zp_187_3 none = true := by decide +kernel
theorem zc_t187_a3 : zc_ro 187 zd_187_3 zp_187_3 none = true := zc_t187_3
theorem zc_t187_a2 : zc_ro 187 (zd_187_2 ++ (zd_187_3)) (zp_187_2 ++ (zp_187_3)) none = true := zc_ro_app 187 _ _ _ _ _ _ zc_t187_2 zc_t187_a3
theorem zc_t187_a1 : zc_ro 187 (zd_187_1 ++ (zd_187_2 ++ (zd_187_3))) (zp_187_1 ++ (zp_187_2 ++ (zp_187_3))) none = true := zc_ro_app 187 _ _ _ _ _ _ zc_t187_1 zc_t187_a2
theorem zc_t187_a0 : zc_ro 187 (zd_187_0 ++ (zd_187_1 ++ (zd_187_2 ++ (zd_187_3)))) (zp_187_0 ++ (zp_187_1 ++ (zp_187_2 ++ (zp_187_3)))) none = true := zc_ro_app 187 _ _ _ _ _ _ zc_t187_0 zc_t187_a1
theorem zc_t187_m : zc_m0 187 [] = true := by decide +kernel
theorem zc_t187 : zc_me 187 [] = true := by
  unfold zc_me
  rw [Bool.and_eq_true]
  exact ⟨zc_t187_a0, zc_t187_m⟩
theorem zc_t188_0 : zc_ro 188 zd_188_0 zp_188_0 (some 109) = true := by decide +kernel
theorem zc_t188_1 : zc_ro 188 zd_188_1 zp_188_1 (some 207) = true := by decide +kernel
theorem zc_t188_2 : zc_ro 188 zd_188_2 zp_188_2 none = true := by decide +kernel
theorem zc_t188_a2 : zc_ro 188 zd_188_2 zp_188_2 none = true := zc_t188_2
theorem zc_t188_a1 : zc_ro 188 (zd_188_1 ++ (zd_188_2)) (zp_188_1 ++ (zp_188_2)) none = true := zc_ro_app 188 _ _ _ _ _ _ zc_t188_1 zc_t188_a2
theorem zc_t188_a0 : zc_ro 188 (zd_188_0 ++ (zd_188_1 ++ (zd_188_2))) (zp_188_0 ++ (zp_188_1 ++ (zp_188_2))) none = true := zc_ro_app 188 _ _ _ _ _ _ zc_t188_0 zc_t188_a1
theorem zc_t188_m : zc_m0 188 [] = true := by decide +kernel
theorem zc_t188 : zc_me 188 [] = true := by
  unfold zc_me
  rw [Bool.and_eq_true]
  exact ⟨zc_t188_a0, zc_t188_m⟩
theorem zc_t190_0 : zc_ro 190 zd_190_0 zp_190_0 (some 139) = true := by decide +kernel
theorem zc_t190_1 : zc_ro 190 zd_190_1 zp_190_1 (some 253) = true := by decide +kernel
theorem zc_t190_2 : zc_ro 190 zd_190_2 zp_190_2 (some 364) = true := by decide +kernel
theorem zc_t190_3 : zc_ro 190 zd_190_3 zp_190_3 (some 476) = true := by decide +kernel
theorem zc_t190_4 : zc_ro 190 zd_190_4 zp_190_4 none = true := by decide +kernel
theorem zc_t190_a4 : zc_ro 190 zd_190_4 zp_190_4 none = true := zc_t190_4
theorem zc_t190_a3 : zc_ro 190 (zd_190_3 ++ (zd_190_4)) (zp_190_3 ++ (zp_190_4)) none = true := zc_ro_app 190 _ _ _ _ _ _ zc_t190_3 zc_t190_a4
theorem zc_t190_a2 : zc_ro 190 (zd_190_2 ++ (zd_190_3 ++ (zd_190_4))) (zp_190_2 ++ (zp_190_3 ++ (zp_190_4))) none = true := zc_ro_app 190 _ _ _ _ _ _ zc_t190_2 zc_t190_a3
theorem zc_t190_a1 : zc_ro 190 (zd_190_1 ++ (zd_190_2 ++ (zd_190_3 ++ (zd_190_4)))) (zp_190_1 ++ (zp_190_2 ++ (zp_190_3 ++ (zp_190_4)))) none = true := zc_ro_app 190 _ _ _ _ _ _ zc_t190_1 zc_t190_a2
theorem zc_t190_a0 : zc_ro 190 (zd_190_0 ++ (zd_190_1 ++ (zd_190_2 ++ (zd_190_3 ++ (zd_190_4))))) (zp_190_0 ++ (zp_190_1 ++ (zp_190_2 ++ (zp_190_3 ++ (zp_190_4))))) none = true := zc_ro_app 190 _ _ _ _ _ _ zc_t190_0 zc_t190_a1
theorem zc_t190_m : zc_m0 190 [] = true := by decide +kernel
theorem zc_t190 : zc_me 190 [] = true := by
  unfold zc_me
  rw [Bool.and_eq_true]
  exact ⟨zc_t190_a0, zc_t190_m⟩
theorem zc_t206_0 : zc_ro 206 zd_206_0 zp_206_0 (some 108) = true := by decide +kernel
theorem zc_t206_1 : zc_ro 206 zd_206_1 zp_206_1 (some 220) = true := by decide +kernel
theorem zc_t206_2 : zc_ro 206 zd_206_2 zp_206_2 none = true := by decide +kernel
theorem zc_t206_a2 : zc_ro 206 zd_206_2 zp_206_2 none = true := zc_t206_2
theorem zc_t206_a1 : zc_ro 206 (zd_206_1 ++ (zd_206_2)) (zp_206_1 ++ (zp_206_2)) none = true := zc_ro_app 206 _ _ _ _ _ _ zc_t206_1 zc_t206_a2
theorem zc_t206_a0 : zc_ro 206 (zd_206_0 ++ (zd_206_1 ++ (zd_206_2))) (zp_206_0 ++ (zp_206_1 ++ (zp_206_2))) none = true := zc_ro_app 206 _ _ _ _ _ _ zc_t206_0 zc_t206_a1
theorem zc_t206_m : zc_m0 206 [] = true := by decide +kernel
theorem zc_t206 : zc_me 206 [] = true := by
  unfold zc_me
  rw [Bool.and_eq_true]
  exact ⟨zc_t206_a0, zc_t206_m⟩
