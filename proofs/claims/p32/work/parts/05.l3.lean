theorem zc_t206_0 : zc_ro 206 zd_206_0 zp_206_0 (some 93) = true := by decide +kernel
theorem zc_t206_1 : zc_ro 206 zd_206_1 zp_206_1 (some 176) = true := by decide +kernel
theorem zc_t206_2 : zc_ro 206 zd_206_2 zp_206_2 (some 185) = true := by decide +kernel
theorem zc_t206_3 : zc_ro 206 zd_206_3 zp_206_3 (some 192) = true := by decide +kernel
theorem zc_t206_4 : zc_ro 206 zd_206_4 zp_206_4 (some 199) = true := by decide +kernel
theorem zc_t206_5 : zc_ro 206 zd_206_5 zp_206_5 (some 280) = true := by decide +kernel
theorem zc_t206_6 : zc_ro 206 zd_206_6 zp_206_6 (some 304) = true := by decide +kernel
theorem zc_t206_7 : zc_ro 206 zd_206_7 zp_206_7 none = true := by decide +kernel
theorem zc_t206_a7 : zc_ro 206 zd_206_7 zp_206_7 none = true := zc_t206_7
theorem zc_t206_a6 : zc_ro 206 (zd_206_6 ++ (zd_206_7)) (zp_206_6 ++ (zp_206_7)) none = true := zc_ro_app 206 _ _ _ _ _ _ zc_t206_6 zc_t206_a7
theorem zc_t206_a5 : zc_ro 206 (zd_206_5 ++ (zd_206_6 ++ (zd_206_7))) (zp_206_5 ++ (zp_206_6 ++ (zp_206_7))) none = true := zc_ro_app 206 _ _ _ _ _ _ zc_t206_5 zc_t206_a6
theorem zc_t206_a4 : zc_ro 206 (zd_206_4 ++ (zd_206_5 ++ (zd_206_6 ++ (zd_206_7)))) (zp_206_4 ++ (zp_206_5 ++ (zp_206_6 ++ (zp_206_7)))) none = true := zc_ro_app 206 _ _ _ _ _ _ zc_t206_4 zc_t206_a5
theorem zc_t206_a3 : zc_ro 206 (zd_206_3 ++ (zd_206_4 ++ (zd_206_5 ++ (zd_206_6 ++ (zd_206_7))))) (zp_206_3 ++ (zp_206_4 ++ (zp_206_5 ++ (zp_206_6 ++ (zp_206_7))))) none = true := zc_ro_app 206 _ _ _ _ _ _ zc_t206_3 zc_t206_a4
theorem zc_t206_a2 : zc_ro 206 (zd_206_2 ++ (zd_206_3 ++ (zd_206_4 ++ (zd_206_5 ++ (zd_206_6 ++ (zd_206_7)))))) (zp_206_2 ++ (zp_206_3 ++ (zp_206_4 ++ (zp_206_5 ++ (zp_206_6 ++ (zp_206_7)))))) none = true := zc_ro_app 206 _ _ _ _ _ _ zc_t206_2 zc_t206_a3
theorem zc_t206_a1 : zc_ro 206 (zd_206_1 ++ (zd_206_2 ++ (zd_206_3 ++ (zd_206_4 ++ (zd_206_5 ++ (zd_206_6 ++ (zd_206_7))))))) (zp_206_1 ++ (zp_206_2 ++ (zp_206_3 ++ (zp_206_4 ++ (zp_206_5 ++ (zp_206_6 ++ (zp_206_7))))))) none = true := zc_ro_app 206 _ _ _ _ _ _ zc_t206_1 zc_t206_a2
theorem zc_t206_a0 : zc_ro 206 (zd_206_0 ++ (zd_206_1 ++ (zd_206_2 ++ (zd_206_3 ++ (zd_206_4 ++ (zd_206_5 ++ (zd_206_6 ++ (zd_206_7)))))))) (zp_206_0 ++ (zp_206_1 ++ (zp_206_2 ++ (zp_206_3 ++ (zp_206_4 ++ (zp_206_5 ++ (zp_206_6 ++ (zp_206_7)))))))) none = true := zc_ro_app 206 _ _ _ _ _ _ zc_t206_0 zc_t206_a1
theorem zc_t206_m : zc_m0 206 [] = true := by decide +kernel
theorem zc_t206 : zc_me 206 [] = true := by
  unfold zc_me
  rw [Bool.and_eq_true]
  exact ⟨zc_t206_a0, zc_t206_m⟩
