theorem zc_t190_0 : zc_ro 190 zd_190_0 zp_190_0 (some 139) = true := by decide +kernel
theorem zc_t190_1 : zc_ro 190 zd_190_1 zp_190_1 (some 253) = true := by decide +kernel
theorem zc_t190_2 : zc_ro 190 zd_190_2 zp_190_2 (some 364) = true := by decide +kernel
theorem zc_t190_3 : zc_ro 190 zd_190_3 zp_190_3 (some 476) = true := by decide +kernel
theorem zc_t190_4 : zc_ro 190 zd_190_4 zp_190_4 none = true := by decide +kernel
theorem zc_t190_a4 : zc_ro 190 zd_190_4 zp_190_4 none = true := zc_t190_4
theorem zc_t190_a3 : zc_ro 190 (zd_190_3 ++ (zd_190_4)) (zp_190_3 ++ (zp_190_4)) none = true := zc_ro_app 190 _ _ _ _ _ _ zc_t190_3 zc_t190_a4
theorem zc_t190_a2 : zc_ro 190 (zd_190_2 ++ (zd_190_3 ++ (zd_190_4))) (zp_190_2 ++ (zp_190_3 ++ (zp_190_4))) none = true := zc_ro_app 190 _ _ _ _ _ _ zc_t190_2 zc_t190_a3
theorem zc_t190_a1 : zc_ro 190 (zd_190_1 ++ (zd_190_2 ++ (zd_190_3 ++ (zd_190_4)))) (zp_190_1 ++ (zp_190_2 ++ (zp_190_3 ++ (zp_190_4)))) none = true := zc_ro_app 190 _ _ _ _ _ _ zc_t190_1 zc_t190_a2
theorem zc_t190_a0 : zc_ro 190 (zd_190_0 ++ (zd_190_1 ++ (zd_190_2 ++ (zd_190_3 ++ (zd_190_4))))) (zp_190_0 ++ (zp_190_1 ++ (zp_190_2 ++ (zp_190_3 ++ (zp_190_4))))) none = true := zc_ro_app 190 _ _ _ _ _ _ zc_t190_0 zc_t190_a1
theorem zc_t190_m : zc_m0 190 [] = true := by decide +kernel
theorem zc_t190 : zc_me 190 [] = true := by
  unfold zc_me
  rw [Bool.and_eq_true]
  exact ⟨zc_t190_a0, zc_t190_m⟩
