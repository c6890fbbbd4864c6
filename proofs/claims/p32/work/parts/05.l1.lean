theorem zc_t188_0 : zc_ro 188 zd_188_0 zp_188_0 (some 109) = true := by decide +kernel
theorem zc_t188_1 : zc_ro 188 zd_188_1 zp_188_1 (some 207) = true := by decide +kernel
theorem zc_t188_2 : zc_ro 188 zd_188_2 zp_188_2 none = true := by decide +kernel
theorem zc_t188_a2 : zc_ro 188 zd_188_2 zp_188_2 none = true := zc_t188_2
theorem zc_t188_a1 : zc_ro 188 (zd_188_1 ++ (zd_188_2)) (zp_188_1 ++ (zp_188_2)) none = true := zc_ro_app 188 _ _ _ _ _ _ zc_t188_1 zc_t188_a2
theorem zc_t188_a0 : zc_ro 188 (zd_188_0 ++ (zd_188_1 ++ (zd_188_2))) (zp_188_0 ++ (zp_188_1 ++ (zp_188_2))) none = true := zc_ro_app 188 _ _ _ _ _ _ zc_t188_0 zc_t188_a1
theorem zc_t188_m : zc_m0 188 [] = true := by decide +kernel
theorem zc_t188 : zc_me 188 [] = true := by
  unfold zc_me
  rw [Bool.and_eq_true]
  exact ⟨zc_t188_a0, zc_t188_m⟩
