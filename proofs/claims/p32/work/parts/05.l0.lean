theorem zc_t187_0 : zc_ro 187 zd_187_0 zp_187_0 (some 101) = true := by decide +kernel
theorem zc_t187_1 : zc_ro 187 zd_187_1 zp_187_1 (some 211) = true := by decide +kernel
theorem zc_t187_2 : zc_ro 187 zd_187_2 zp_187_2 (some 334) = true := by decide +kernel
theorem zc_t187_3 : zc_ro 187 zd_187_3 zp_187_3 none = true := by decide +kernel
theorem zc_t187_a3 : zc_ro 187 zd_187_3 zp_187_3 none = true := zc_t187_3
theorem zc_t187_a2 : zc_ro 187 (zd_187_2 ++ (zd_187_3)) (zp_187_2 ++ (zp_187_3)) none = true := zc_ro_app 187 _ _ _ _ _ _ zc_t187_2 zc_t187_a3
theorem zc_t187_a1 : zc_ro 187 (zd_187_1 ++ (zd_187_2 ++ (zd_187_3))) (zp_187_1 ++ (zp_187_2 ++ (zp_187_3))) none = true := zc_ro_app 187 _ _ _ _ _ _ zc_t187_1 zc_t187_a2
theorem zc_t187_a0 : zc_ro 187 (zd_187_0 ++ (zd_187_1 ++ (zd_187_2 ++ (zd_187_3)))) (zp_187_0 ++ (zp_187_1 ++ (zp_187_2 ++ (zp_187_3)))) none = true := zc_ro_app 187 _ _ _ _ _ _ zc_t187_0 zc_t187_a1
theorem zc_t187_m : zc_m0 187 [] = true := by decide +kernel
theorem zc_t187 : zc_me 187 [] = true := by
  unfold zc_me
  rw [Bool.and_eq_true]
  exact ⟨zc_t187_a0, zc_t187_m⟩
