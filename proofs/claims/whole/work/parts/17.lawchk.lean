theorem zc_t206_0 : zc_ro 206 zd_206_0 zp_206_0 (some 224) = true := by decide +kernel
theorem zc_t206_1 : zc_ro 206 zd_206_1 zp_206_1 (some 328) = true := by decide +kernel
theorem zc_t206_2 : zc_ro 206 zd_206_2 zp_206_2 (some 419) = true := by decide +kernel
theorem zc_t206_3 : zc_ro 206 zd_206_3 zp_206_3 (some 509) = true := by decide +kernel
theorem zc_t206_4 : zc_ro 206 zd_206_4 zp_206_4 (some 602) = true := by decide +kernel
theorem zc_t206_5 : zc_ro 206 zd_206_5 zp_206_5 (some 700) = true := by decide +kernel
theorem zc_t206_6 : zc_ro 206 zd_206_6 zp_206_6 (some 788) = true := by decide +kernel
theorem zc_t206_7 : zc_ro 206 zd_206_7 zp_206_7 (some 877) = true := by decide +kernel
theorem zc_t206_8 : zc_ro 206 zd_206_8 zp_206_8 (some 977) = true := by decide +kernel
theorem zc_t206_9 : zc_ro 206 zd_206_9 zp_206_9 (some 1077) = true := by decide +kernel
theorem zc_t206_10 : zc_ro 206 zd_206_10 zp_206_10 (some 1178) = true := by decide +kernel
theorem zc_t206_11 : zc_ro 206 zd_206_11 zp_206_11 (some 1276) = true := by decide +kernel
theorem zc_t206_12 : zc_ro 206 zd_206_12 zp_206_12 (some 1362) = true := by decide +kernel
theorem zc_t206_13 : zc_ro 206 zd_206_13 zp_206_13 (some 1451) = true := by decide +kernel
theorem zc_t206_14 : zc_ro 206 zd_206_14 zp_206_14 (some 1540) = true := by decide +kernel
theorem zc_t206_15 : zc_ro 206 zd_206_15 zp_206_15 (some 1637) = true := by decide +kernel
theorem zc_t206_16 : zc_ro 206 zd_206_16 zp_206_16 none = true := by decide +kernel
theorem zc_t206_a16 : zc_ro 206 zd_206_16 zp_206_16 none = true := zc_t206_16
theorem zc_t206_a15 : zc_ro 206 (zd_206_15 ++ (zd_206_16)) (zp_206_15 ++ (zp_206_16)) none = true := zc_ro_app 206 _ _ _ _ _ _ zc_t206_15 zc_t206_a16
theorem zc_t206_a14 : zc_ro 206 (zd_206_14 ++ (zd_206_15 ++ (zd_206_16))) (zp_206_14 ++ (zp_206_15 ++ (zp_206_16))) none = true := zc_ro_app 206 _ _ _ _ _ _ zc_t206_14 zc_t206_a15
theorem zc_t206_a13 : zc_ro 206 (zd_206_13 ++ (zd_206_14 ++ (zd_206_15 ++ (zd_206_16)))) (zp_206_13 ++ (zp_206_14 ++ (zp_206_15 ++ (zp_206_16)))) none = true := zc_ro_app 206 _ _ _ _ _ _ zc_t206_13 zc_t206_a14
theorem zc_t206_a12 : zc_ro 206 (zd_206_12 ++ (zd_206_13 ++ (zd_206_14 ++ (zd_206_15 ++ (zd_206_16))))) (zp_206_12 ++ (zp_206_13 ++ (zp_206_14 ++ (zp_206_15 ++ (zp_206_16))))) none = true := zc_ro_app 206 _ _ _ _ _ _ zc_t206_12 zc_t206_a13
theorem zc_t206_a11 : zc_ro 206 (zd_206_11 ++ (zd_206_12 ++ (zd_206_13 ++ (zd_206_14 ++ (zd_206_15 ++ (zd_206_16)))))) (zp_206_11 ++ (zp_206_12 ++ (zp_206_13 ++ (zp_206_14 ++ (zp_206_15 ++ (zp_206_16)))))) none = true := zc_ro_app 206 _ _ _ _ _ _ zc_t206_11 zc_t206_a12
theorem zc_t206_a10 : zc_ro 206 (zd_206_10 ++ (zd_206_11 ++ (zd_206_12 ++ (zd_206_13 ++ (zd_206_14 ++ (zd_206_15 ++ (zd_206_16))))))) (zp_206_10 ++ (zp_206_11 ++ (zp_206_12 ++ (zp_206_13 ++ (zp_206_14 ++ (zp_206_15 ++ (zp_206_16))))))) none = true := zc_ro_app 206 _ _ _ _ _ _ zc_t206_10 zc_t206_a11
theorem zc_t206_a9 : zc_ro 206 (zd_206_9 ++ (zd_206_10 ++ (zd_206_11 ++ (zd_206_12 ++ (zd_206_13 ++ (zd_206_14 ++ (zd_206_15 ++ (zd_206_16)))))))) (zp_206_9 ++ (zp_206_10 ++ (zp_206_11 ++ (zp_206_12 ++ (zp_206_13 ++ (zp_206_14 ++ (zp_206_15 ++ (zp_206_16)))))))) none = true := zc_ro_app 206 _ _ _ _ _ _ zc_t206_9 zc_t206_a10
theorem zc_t206_a8 : zc_ro 206 (zd_206_8 ++ (zd_206_9 ++ (zd_206_10 ++ (zd_206_11 ++ (zd_206_12 ++ (zd_206_13 ++ (zd_206_14 ++ (zd_206_15 ++ (zd_206_16))))))))) (zp_206_8 ++ (zp_206_9 ++ (zp_206_10 ++ (zp_206_11 ++ (zp_206_12 ++ (zp_206_13 ++ (zp_206_14 ++ (zp_206_15 ++ (zp_206_16))))))))) none = true := zc_ro_app 206 _ _ _ _ _ _ zc_t206_8 zc_t206_a9
theorem zc_t206_a7 : zc_ro 206 (zd_206_7 ++ (zd_206_8 ++ (zd_206_9 ++ (zd_206_10 ++ (zd_206_11 ++ (zd_206_12 ++ (zd_206_13 ++ (zd_206_14 ++ (zd_206_15 ++ (zd_206_16)))))))))) (zp_206_7 ++ (zp_206_8 ++ (zp_206_9 ++ (zp_206_10 ++ (zp_206_11 ++ (zp_206_12 ++ (zp_206_13 ++ (zp_206_14 ++ (zp_206_15 ++ (zp_206_16)))))))))) none = true := zc_ro_app 206 _ _ _ _ _ _ zc_t206_7 zc_t206_a8
theorem zc_t206_a6 : zc_ro 206 (zd_206_6 ++ (zd_206_7 ++ (zd_206_8 ++ (zd_206_9 ++ (zd_206_10 ++ (zd_206_11 ++ (zd_206_12 ++ (zd_206_13 ++ (zd_206_14 ++ (zd_206_15 ++ (zd_206_16))))))))))) (zp_206_6 ++ (zp_206_7 ++ (zp_206_8 ++ (zp_206_9 ++ (zp_206_10 ++ (zp_206_11 ++ (zp_206_12 ++ (zp_206_13 ++ (zp_206_14 ++ (zp_206_15 ++ (zp_206_16))))))))))) none = true := zc_ro_app 206 _ _ _ _ _ _ zc_t206_6 zc_t206_a7
theorem zc_t206_a5 : zc_ro 206 (zd_206_5 ++ (zd_206_6 ++ (zd_206_7 ++ (zd_206_8 ++ (zd_206_9 ++ (zd_206_10 ++ (zd_206_11 ++ (zd_206_12 ++ (zd_206_13 ++ (zd_206_14 ++ (zd_206_15 ++ (zd_206_16)))))))))))) (zp_206_5 ++ (zp_206_6 ++ (zp_206_7 ++ (zp_206_8 ++ (zp_206_9 ++ (zp_206_10 ++ (zp_206_11 ++ (zp_206_12 ++ (zp_206_13 ++ (zp_206_14 ++ (zp_206_15 ++ (zp_206_16)))))))))))) none = true := zc_ro_app 206 _ _ _ _ _ _ zc_t206_5 zc_t206_a6
theorem zc_t206_a4 : zc_ro 206 (zd_206_4 ++ (zd_206_5 ++ (zd_206_6 ++ (zd_206_7 ++ (zd_206_8 ++ (zd_206_9 ++ (zd_206_10 ++ (zd_206_11 ++ (zd_206_12 ++ (zd_206_13 ++ (zd_206_14 ++ (zd_206_15 ++ (zd_206_16))))))))))))) (zp_206_4 ++ (zp_206_5 ++ (zp_206_6 ++ (zp_206_7 ++ (zp_206_8 ++ (zp_206_9 ++ (zp_206_10 ++ (zp_206_11 ++ (zp_206_12 ++ (zp_206_13 ++ (zp_206_14 ++ (zp_206_15 ++ (zp_206_16))))))))))))) none = true := zc_ro_app 206 _ _ _ _ _ _ zc_t206_4 zc_t206_a5
theorem zc_t206_a3 : zc_ro 206 (zd_206_3 ++ (zd_206_4 ++ (zd_206_5 ++ (zd_206_6 ++ (zd_206_7 ++ (zd_206_8 ++ (zd_206_9 ++ (zd_206_10 ++ (zd_206_11 ++ (zd_206_12 ++ (zd_206_13 ++ (zd_206_14 ++ (zd_206_15 ++ (zd_206_16)))))))))))))) (zp_206_3 ++ (zp_206_4 ++ (zp_206_5 ++ (zp_206_6 ++ (zp_206_7 ++ (zp_206_8 ++ (zp_206_9 ++ (zp_206_10 ++ (zp_206_11 ++ (zp_206_12 ++ (zp_206_13 ++ (zp_206_14 ++ (zp_206_15 ++ (zp_206_16)))))))))))))) none = true := zc_ro_app 206 _ _ _ _ _ _ zc_t206_3 zc_t206_a4
theorem zc_t206_a2 : zc_ro 206 (zd_206_2 ++ (zd_206_3 ++ (zd_206_4 ++ (zd_206_5 ++ (zd_206_6 ++ (zd_206_7 ++ (zd_206_8 ++ (zd_206_9 ++ (zd_206_10 ++ (zd_206_11 ++ (zd_206_12 ++ (zd_206_13 ++ (zd_206_14 ++ (zd_206_15 ++ (zd_206_16))))))))))))))) (zp_206_2 ++ (zp_206_3 ++ (zp_206_4 ++ (zp_206_5 ++ (zp_206_6 ++ (zp_206_7 ++ (zp_206_8 ++ (zp_206_9 ++ (zp_206_10 ++ (zp_206_11 ++ (zp_206_12 ++ (zp_206_13 ++ (zp_206_14 ++ (zp_206_15 ++ (zp_206_16))))))))))))))) none = true := zc_ro_app 206 _ _ _ _ _ _ zc_t206_2 zc_t206_a3
theorem zc_t206_a1 : zc_ro 206 (zd_206_1 ++ (zd_206_2 ++ (zd_206_3 ++ (zd_206_4 ++ (zd_206_5 ++ (zd_206_6 ++ (zd_206_7 ++ (zd_206_8 ++ (zd_206_9 ++ (zd_206_10 ++ (zd_206_11 ++ (zd_206_12 ++ (zd_206_13 ++ (zd_206_14 ++ (zd_206_15 ++ (zd_206_16)))))))))))))))) (zp_206_1 ++ (zp_206_2 ++ (zp_206_3 ++ (zp_206_4 ++ (zp_206_5 ++ (zp_206_6 ++ (zp_206_7 ++ (zp_206_8 ++ (zp_206_9 ++ (zp_206_10 ++ (zp_206_11 ++ (zp_206_12 ++ (zp_206_13 ++ (zp_206_14 ++ (zp_206_15 ++ (zp_206_16)))))))))))))))) none = true := zc_ro_app 206 _ _ _ _ _ _ zc_t206_1 zc_t206_a2
theorem zc_t206_a0 : zc_ro 206 (zd_206_0 ++ (zd_206_1 ++ (zd_206_2 ++ (zd_206_3 ++ (zd_206_4 ++ (zd_206_5 ++ (zd_206_6 ++ (zd_206_7 ++ (zd_206_8 ++ (zd_206_9 ++ (zd_206_10 ++ (zd_206_11 ++ (zd_206_12 ++ (zd_206_13 ++ (zd_206_14 ++ (zd_206_15 ++ (zd_206_16))))))))))))))))) (zp_206_0 ++ (zp_206_1 ++ (zp_206_2 ++ (zp_206_3 ++ (zp_206_4 ++ (zp_206_5 ++ (zp_206_6 ++ (zp_206_7 ++ (zp_206_8 ++ (zp_206_9 ++ (zp_206_10 ++ (zp_206_11 ++ (zp_206_12 ++ (zp_206_13 ++ (zp_206_14 ++ (zp_206_15 ++ (zp_206_16))))))))))))))))) none = true := zc_ro_app 206 _ _ _ _ _ _ zc_t206_0 zc_t206_a1
theorem zc_t206_m : zc_m0 206 [] = true := by decide +kernel
theorem zc_t206 : zc_me 206 [] = true := by
  unfold zc_me
  rw [Bool.and_eq_true]
  exact ⟨zc_t206_a0, zc_t206_m⟩
theorem zc_hp_len : zc_hp.length = 214 := by decide +kernel
