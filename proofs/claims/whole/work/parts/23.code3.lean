/-! the instructions, by program, part 3 -/
theorem cd_119 : zm_cd 119 = zd_119 := rfl
theorem ml_119 : zm_ml 119 = 2 := rfl
theorem ht_119 : zm_ht 119 = [] := rfl
theorem c_119_0 : (zm_cd 119)[0]? = some ((0, .aload_n 0, 1, 0, 0, 0, 0, 0, []) : zm_E) := (congrArg (fun l => l[0]?) cd_119).trans rfl
theorem c_119_1 : (zm_cd 119)[1]? = some ((1, .getfield 22, 3, 1, 1, 0, 0, 0, []) : zm_E) := (congrArg (fun l => l[1]?) cd_119).trans rfl
theorem c_119_2 : (zm_cd 119)[2]? = some ((4, .iload_n 1, 1, 1, 0, 0, 0, 0, []) : zm_E) := (congrArg (fun l => l[2]?) cd_119).trans rfl
theorem c_119_3 : (zm_cd 119)[3]? = some ((5, .invokestatic 37, 3, 37, 2, 1, 1, 0, []) : zm_E) := (congrArg (fun l => l[3]?) cd_119).trans rfl
theorem c_119_4 : (zm_cd 119)[4]? = some ((8, .ifCond .ne 7, 3, 7, 0, 0, 0, 0, []) : zm_E) := (congrArg (fun l => l[4]?) cd_119).trans rfl
theorem c_119_5 : (zm_cd 119)[5]? = some ((11, .iconst 1, 1, 0, 0, 0, 1, 0, []) : zm_E) := (congrArg (fun l => l[5]?) cd_119).trans rfl
theorem c_119_6 : (zm_cd 119)[6]? = some ((12, .goto 4, 3, 8, 0, 0, 0, 0, []) : zm_E) := (congrArg (fun l => l[6]?) cd_119).trans rfl
theorem c_119_7 : (zm_cd 119)[7]? = some ((15, .iconst 0, 1, 0, 0, 0, 0, 0, []) : zm_E) := (congrArg (fun l => l[7]?) cd_119).trans rfl
theorem c_119_8 : (zm_cd 119)[8]? = some ((16, .ireturn, 1, 1, 0, 0, 0, 0, []) : zm_E) := (congrArg (fun l => l[8]?) cd_119).trans rfl
theorem cd_120 : zm_cd 120 = zd_120 := rfl
theorem ml_120 : zm_ml 120 = 1 := rfl
theorem ht_120 : zm_ht 120 = [] := rfl
theorem c_120_0 : (zm_cd 120)[0]? = some ((0, .aload_n 0, 1, 0, 0, 0, 0, 0, []) : zm_E) := (congrArg (fun l => l[0]?) cd_120).trans rfl
theorem c_120_1 : (zm_cd 120)[1]? = some ((1, .invokevirtual 41, 3, 118, 0, 1, 0, 0, [1]) : zm_E) := (congrArg (fun l => l[1]?) cd_120).trans rfl
theorem c_120_2 : (zm_cd 120)[2]? = some ((4, .invokestatic 44, 3, 207, 1, 1, 0, 0, []) : zm_E) := (congrArg (fun l => l[2]?) cd_120).trans rfl
theorem c_120_3 : (zm_cd 120)[3]? = some ((7, .ireturn, 1, 0, 0, 0, 0, 0, []) : zm_E) := (congrArg (fun l => l[3]?) cd_120).trans rfl
theorem cd_121 : zm_cd 121 = zd_121 := rfl
theorem ml_121 : zm_ml 121 = 4 := rfl
theorem ht_121 : zm_ht 121 = [] := rfl
theorem c_121_0 : (zm_cd 121)[0]? = some ((0, .iload_n 1, 1, 1, 0, 0, 0, 0, []) : zm_E) := (congrArg (fun l => l[0]?) cd_121).trans rfl
theorem c_121_1 : (zm_cd 121)[1]? = some ((1, .bipush 7, 2, 0, 0, 0, 7, 0, []) : zm_E) := (congrArg (fun l => l[1]?) cd_121).trans rfl
theorem c_121_2 : (zm_cd 121)[2]? = some ((3, .imul, 1, 0, 0, 0, 0, 0, []) : zm_E) := (congrArg (fun l => l[2]?) cd_121).trans rfl
theorem c_121_3 : (zm_cd 121)[3]? = some ((4, .iload_n 2, 1, 2, 0, 0, 0, 0, []) : zm_E) := (congrArg (fun l => l[3]?) cd_121).trans rfl
theorem c_121_4 : (zm_cd 121)[4]? = some ((5, .iadd, 1, 0, 0, 0, 0, 0, []) : zm_E) := (congrArg (fun l => l[4]?) cd_121).trans rfl
theorem c_121_5 : (zm_cd 121)[5]? = some ((6, .istore_n 3, 1, 3, 0, 0, 0, 0, []) : zm_E) := (congrArg (fun l => l[5]?) cd_121).trans rfl
theorem c_121_6 : (zm_cd 121)[6]? = some ((7, .iload_n 3, 1, 3, 0, 0, 0, 0, []) : zm_E) := (congrArg (fun l => l[6]?) cd_121).trans rfl
theorem c_121_7 : (zm_cd 121)[7]? = some ((8, .ifCond .lt 21, 3, 18, 0, 0, 0, 0, []) : zm_E) := (congrArg (fun l => l[7]?) cd_121).trans rfl
theorem c_121_8 : (zm_cd 121)[8]? = some ((11, .iload_n 3, 1, 3, 0, 0, 0, 0, []) : zm_E) := (congrArg (fun l => l[8]?) cd_121).trans rfl
theorem c_121_9 : (zm_cd 121)[9]? = some ((12, .aload_n 0, 1, 0, 0, 0, 0, 0, []) : zm_E) := (congrArg (fun l => l[9]?) cd_121).trans rfl
theorem c_121_10 : (zm_cd 121)[10]? = some ((13, .getfield 9, 3, 1, 2, 1, 0, 0, []) : zm_E) := (congrArg (fun l => l[10]?) cd_121).trans rfl
theorem c_121_11 : (zm_cd 121)[11]? = some ((16, .arraylength, 1, 0, 0, 0, 0, 0, []) : zm_E) := (congrArg (fun l => l[11]?) cd_121).trans rfl
theorem c_121_12 : (zm_cd 121)[12]? = some ((17, .if_icmp .ge 12, 3, 18, 0, 0, 0, 0, []) : zm_E) := (congrArg (fun l => l[12]?) cd_121).trans rfl
theorem c_121_13 : (zm_cd 121)[13]? = some ((20, .aload_n 0, 1, 0, 0, 0, 0, 0, []) : zm_E) := (congrArg (fun l => l[13]?) cd_121).trans rfl
theorem c_121_14 : (zm_cd 121)[14]? = some ((21, .getfield 9, 3, 1, 2, 1, 0, 0, []) : zm_E) := (congrArg (fun l => l[14]?) cd_121).trans rfl
theorem c_121_15 : (zm_cd 121)[15]? = some ((24, .iload_n 3, 1, 3, 0, 0, 0, 0, []) : zm_E) := (congrArg (fun l => l[15]?) cd_121).trans rfl
theorem c_121_16 : (zm_cd 121)[16]? = some ((25, .iaload, 1, 0, 0, 0, 0, 0, []) : zm_E) := (congrArg (fun l => l[16]?) cd_121).trans rfl
theorem c_121_17 : (zm_cd 121)[17]? = some ((26, .goto 5, 3, 19, 0, 0, 0, 0, []) : zm_E) := (congrArg (fun l => l[17]?) cd_121).trans rfl
theorem c_121_18 : (zm_cd 121)[18]? = some ((29, .bipush (-9), 2, 0, 0, 0, (-9), 0, []) : zm_E) := (congrArg (fun l => l[18]?) cd_121).trans rfl
theorem c_121_19 : (zm_cd 121)[19]? = some ((31, .ireturn, 1, 0, 0, 0, 0, 0, []) : zm_E) := (congrArg (fun l => l[19]?) cd_121).trans rfl
theorem cd_122 : zm_cd 122 = zd_122 := rfl
theorem ml_122 : zm_ml 122 = 2 := rfl
theorem ht_122 : zm_ht 122 = [] := rfl
theorem c_122_0 : (zm_cd 122)[0]? = some ((0, .aload_n 0, 1, 0, 0, 0, 0, 0, []) : zm_E) := (congrArg (fun l => l[0]?) cd_122).trans rfl
theorem c_122_1 : (zm_cd 122)[1]? = some ((1, .iload_n 1, 1, 1, 0, 0, 0, 0, []) : zm_E) := (congrArg (fun l => l[1]?) cd_122).trans rfl
theorem c_122_2 : (zm_cd 122)[2]? = some ((2, .aload_n 0, 1, 0, 0, 0, 0, 0, []) : zm_E) := (congrArg (fun l => l[2]?) cd_122).trans rfl
theorem c_122_3 : (zm_cd 122)[3]? = some ((3, .getfield 15, 3, 1, 3, 1, 0, 0, []) : zm_E) := (congrArg (fun l => l[3]?) cd_122).trans rfl
theorem c_122_4 : (zm_cd 122)[4]? = some ((6, .iload_n 1, 1, 1, 0, 0, 0, 0, []) : zm_E) := (congrArg (fun l => l[4]?) cd_122).trans rfl
theorem c_122_5 : (zm_cd 122)[5]? = some ((7, .invokestatic 49, 3, 209, 2, 1, 1, 0, []) : zm_E) := (congrArg (fun l => l[5]?) cd_122).trans rfl
theorem c_122_6 : (zm_cd 122)[6]? = some ((10, .invokevirtual 53, 3, 121, 2, 1, 0, 0, [1]) : zm_E) := (congrArg (fun l => l[6]?) cd_122).trans rfl
theorem c_122_7 : (zm_cd 122)[7]? = some ((13, .ireturn, 1, 0, 0, 0, 0, 0, []) : zm_E) := (congrArg (fun l => l[7]?) cd_122).trans rfl
theorem cd_123 : zm_cd 123 = zd_123 := rfl
theorem ml_123 : zm_ml 123 = 4 := rfl
theorem ht_123 : zm_ht 123 = [] := rfl
theorem c_123_0 : (zm_cd 123)[0]? = some ((0, .aload_n 0, 1, 0, 0, 0, 0, 0, []) : zm_E) := (congrArg (fun l => l[0]?) cd_123).trans rfl
theorem c_123_1 : (zm_cd 123)[1]? = some ((1, .getfield 9, 3, 1, 2, 1, 0, 0, []) : zm_E) := (congrArg (fun l => l[1]?) cd_123).trans rfl
theorem c_123_2 : (zm_cd 123)[2]? = some ((4, .iload_n 1, 1, 1, 0, 0, 0, 0, []) : zm_E) := (congrArg (fun l => l[2]?) cd_123).trans rfl
theorem c_123_3 : (zm_cd 123)[3]? = some ((5, .bipush 7, 2, 0, 0, 0, 7, 0, []) : zm_E) := (congrArg (fun l => l[3]?) cd_123).trans rfl
theorem c_123_4 : (zm_cd 123)[4]? = some ((7, .imul, 1, 0, 0, 0, 0, 0, []) : zm_E) := (congrArg (fun l => l[4]?) cd_123).trans rfl
theorem c_123_5 : (zm_cd 123)[5]? = some ((8, .iload_n 2, 1, 2, 0, 0, 0, 0, []) : zm_E) := (congrArg (fun l => l[5]?) cd_123).trans rfl
theorem c_123_6 : (zm_cd 123)[6]? = some ((9, .iadd, 1, 0, 0, 0, 0, 0, []) : zm_E) := (congrArg (fun l => l[6]?) cd_123).trans rfl
theorem c_123_7 : (zm_cd 123)[7]? = some ((10, .iload_n 3, 1, 3, 0, 0, 0, 0, []) : zm_E) := (congrArg (fun l => l[7]?) cd_123).trans rfl
theorem c_123_8 : (zm_cd 123)[8]? = some ((11, .invokestatic 57, 3, 210, 3, 0, 1, 0, []) : zm_E) := (congrArg (fun l => l[8]?) cd_123).trans rfl
theorem c_123_9 : (zm_cd 123)[9]? = some ((14, .return_, 1, 0, 0, 0, 0, 0, []) : zm_E) := (congrArg (fun l => l[9]?) cd_123).trans rfl
theorem cd_124 : zm_cd 124 = zd_124 := rfl
theorem ml_124 : zm_ml 124 = 3 := rfl
theorem ht_124 : zm_ht 124 = [] := rfl
theorem c_124_0 : (zm_cd 124)[0]? = some ((0, .aload_n 0, 1, 0, 0, 0, 0, 0, []) : zm_E) := (congrArg (fun l => l[0]?) cd_124).trans rfl
theorem c_124_1 : (zm_cd 124)[1]? = some ((1, .iload_n 1, 1, 1, 0, 0, 0, 0, []) : zm_E) := (congrArg (fun l => l[1]?) cd_124).trans rfl
theorem c_124_2 : (zm_cd 124)[2]? = some ((2, .iload_n 2, 1, 2, 0, 0, 0, 0, []) : zm_E) := (congrArg (fun l => l[2]?) cd_124).trans rfl
theorem c_124_3 : (zm_cd 124)[3]? = some ((3, .invokevirtual 53, 3, 121, 2, 1, 0, 0, [1]) : zm_E) := (congrArg (fun l => l[3]?) cd_124).trans rfl
theorem c_124_4 : (zm_cd 124)[4]? = some ((6, .aload_n 0, 1, 0, 0, 0, 0, 0, []) : zm_E) := (congrArg (fun l => l[4]?) cd_124).trans rfl
theorem c_124_5 : (zm_cd 124)[5]? = some ((7, .iload_n 1, 1, 1, 0, 0, 0, 0, []) : zm_E) := (congrArg (fun l => l[5]?) cd_124).trans rfl
theorem c_124_6 : (zm_cd 124)[6]? = some ((8, .invokevirtual 61, 3, 122, 1, 1, 0, 0, [1]) : zm_E) := (congrArg (fun l => l[6]?) cd_124).trans rfl
theorem c_124_7 : (zm_cd 124)[7]? = some ((11, .isub, 1, 0, 0, 0, 0, 0, []) : zm_E) := (congrArg (fun l => l[7]?) cd_124).trans rfl
theorem c_124_8 : (zm_cd 124)[8]? = some ((12, .ireturn, 1, 0, 0, 0, 0, 0, []) : zm_E) := (congrArg (fun l => l[8]?) cd_124).trans rfl
theorem cd_125 : zm_cd 125 = zd_125 := rfl
theorem ml_125 : zm_ml 125 = 3 := rfl
theorem ht_125 : zm_ht 125 = [] := rfl
theorem c_125_0 : (zm_cd 125)[0]? = some ((0, .iconst 0, 1, 0, 0, 0, 0, 0, []) : zm_E) := (congrArg (fun l => l[0]?) cd_125).trans rfl
theorem c_125_1 : (zm_cd 125)[1]? = some ((1, .istore_n 2, 1, 2, 0, 0, 0, 0, []) : zm_E) := (congrArg (fun l => l[1]?) cd_125).trans rfl
theorem c_125_2 : (zm_cd 125)[2]? = some ((2, .iload_n 2, 1, 2, 0, 0, 0, 0, []) : zm_E) := (congrArg (fun l => l[2]?) cd_125).trans rfl
theorem c_125_3 : (zm_cd 125)[3]? = some ((3, .aload_n 0, 1, 0, 0, 0, 0, 0, []) : zm_E) := (congrArg (fun l => l[3]?) cd_125).trans rfl
theorem c_125_4 : (zm_cd 125)[4]? = some ((4, .getfield 18, 3, 1, 0, 0, 0, 0, []) : zm_E) := (congrArg (fun l => l[4]?) cd_125).trans rfl
theorem c_125_5 : (zm_cd 125)[5]? = some ((7, .if_icmp .ge 23, 3, 16, 0, 0, 0, 0, []) : zm_E) := (congrArg (fun l => l[5]?) cd_125).trans rfl
theorem c_125_6 : (zm_cd 125)[6]? = some ((10, .aload_n 0, 1, 0, 0, 0, 0, 0, []) : zm_E) := (congrArg (fun l => l[6]?) cd_125).trans rfl
theorem c_125_7 : (zm_cd 125)[7]? = some ((11, .getfield 15, 3, 1, 3, 1, 0, 0, []) : zm_E) := (congrArg (fun l => l[7]?) cd_125).trans rfl
theorem c_125_8 : (zm_cd 125)[8]? = some ((14, .iload_n 2, 1, 2, 0, 0, 0, 0, []) : zm_E) := (congrArg (fun l => l[8]?) cd_125).trans rfl
theorem c_125_9 : (zm_cd 125)[9]? = some ((15, .invokestatic 49, 3, 209, 2, 1, 1, 0, []) : zm_E) := (congrArg (fun l => l[9]?) cd_125).trans rfl
theorem c_125_10 : (zm_cd 125)[10]? = some ((18, .iload_n 1, 1, 1, 0, 0, 0, 0, []) : zm_E) := (congrArg (fun l => l[10]?) cd_125).trans rfl
theorem c_125_11 : (zm_cd 125)[11]? = some ((19, .if_icmp .ne 5, 3, 14, 0, 0, 0, 0, []) : zm_E) := (congrArg (fun l => l[11]?) cd_125).trans rfl
theorem c_125_12 : (zm_cd 125)[12]? = some ((22, .iload_n 2, 1, 2, 0, 0, 0, 0, []) : zm_E) := (congrArg (fun l => l[12]?) cd_125).trans rfl
theorem c_125_13 : (zm_cd 125)[13]? = some ((23, .ireturn, 1, 0, 0, 0, 0, 0, []) : zm_E) := (congrArg (fun l => l[13]?) cd_125).trans rfl
theorem c_125_14 : (zm_cd 125)[14]? = some ((24, .iinc 2 1, 3, 2, 0, 0, 1, 0, []) : zm_E) := (congrArg (fun l => l[14]?) cd_125).trans rfl
theorem c_125_15 : (zm_cd 125)[15]? = some ((27, .goto (-25), 3, 2, 0, 0, 0, 0, []) : zm_E) := (congrArg (fun l => l[15]?) cd_125).trans rfl
theorem c_125_16 : (zm_cd 125)[16]? = some ((30, .bipush (-9), 2, 0, 0, 0, (-9), 0, []) : zm_E) := (congrArg (fun l => l[16]?) cd_125).trans rfl
theorem c_125_17 : (zm_cd 125)[17]? = some ((32, .ireturn, 1, 0, 0, 0, 0, 0, []) : zm_E) := (congrArg (fun l => l[17]?) cd_125).trans rfl
theorem cd_126 : zm_cd 126 = zd_126 := rfl
theorem ml_126 : zm_ml 126 = 4 := rfl
theorem ht_126 : zm_ht 126 = [] := rfl
theorem c_126_0 : (zm_cd 126)[0]? = some ((0, .iconst 0, 1, 0, 0, 0, 0, 0, []) : zm_E) := (congrArg (fun l => l[0]?) cd_126).trans rfl
theorem c_126_1 : (zm_cd 126)[1]? = some ((1, .istore_n 2, 1, 2, 0, 0, 0, 0, []) : zm_E) := (congrArg (fun l => l[1]?) cd_126).trans rfl
theorem c_126_2 : (zm_cd 126)[2]? = some ((2, .iconst 0, 1, 0, 0, 0, 0, 0, []) : zm_E) := (congrArg (fun l => l[2]?) cd_126).trans rfl
theorem c_126_3 : (zm_cd 126)[3]? = some ((3, .istore_n 3, 1, 3, 0, 0, 0, 0, []) : zm_E) := (congrArg (fun l => l[3]?) cd_126).trans rfl
theorem c_126_4 : (zm_cd 126)[4]? = some ((4, .iload_n 3, 1, 3, 0, 0, 0, 0, []) : zm_E) := (congrArg (fun l => l[4]?) cd_126).trans rfl
theorem c_126_5 : (zm_cd 126)[5]? = some ((5, .aload_n 0, 1, 0, 0, 0, 0, 0, []) : zm_E) := (congrArg (fun l => l[5]?) cd_126).trans rfl
theorem c_126_6 : (zm_cd 126)[6]? = some ((6, .getfield 18, 3, 1, 0, 0, 0, 0, []) : zm_E) := (congrArg (fun l => l[6]?) cd_126).trans rfl
theorem c_126_7 : (zm_cd 126)[7]? = some ((9, .if_icmp .ge 31, 3, 22, 0, 0, 0, 0, []) : zm_E) := (congrArg (fun l => l[7]?) cd_126).trans rfl
theorem c_126_8 : (zm_cd 126)[8]? = some ((12, .iload_n 1, 1, 1, 0, 0, 0, 0, []) : zm_E) := (congrArg (fun l => l[8]?) cd_126).trans rfl
theorem c_126_9 : (zm_cd 126)[9]? = some ((13, .iload_n 3, 1, 3, 0, 0, 0, 0, []) : zm_E) := (congrArg (fun l => l[9]?) cd_126).trans rfl
theorem c_126_10 : (zm_cd 126)[10]? = some ((14, .invokestatic 37, 3, 37, 2, 1, 1, 0, []) : zm_E) := (congrArg (fun l => l[10]?) cd_126).trans rfl
theorem c_126_11 : (zm_cd 126)[11]? = some ((17, .ifCond .eq 17, 3, 20, 0, 0, 0, 0, []) : zm_E) := (congrArg (fun l => l[11]?) cd_126).trans rfl
theorem c_126_12 : (zm_cd 126)[12]? = some ((20, .iload_n 2, 1, 2, 0, 0, 0, 0, []) : zm_E) := (congrArg (fun l => l[12]?) cd_126).trans rfl
theorem c_126_13 : (zm_cd 126)[13]? = some ((21, .aload_n 0, 1, 0, 0, 0, 0, 0, []) : zm_E) := (congrArg (fun l => l[13]?) cd_126).trans rfl
theorem c_126_14 : (zm_cd 126)[14]? = some ((22, .getfield 15, 3, 1, 3, 1, 0, 0, []) : zm_E) := (congrArg (fun l => l[14]?) cd_126).trans rfl
theorem c_126_15 : (zm_cd 126)[15]? = some ((25, .iload_n 3, 1, 3, 0, 0, 0, 0, []) : zm_E) := (congrArg (fun l => l[15]?) cd_126).trans rfl
theorem c_126_16 : (zm_cd 126)[16]? = some ((26, .invokestatic 49, 3, 209, 2, 1, 1, 0, []) : zm_E) := (congrArg (fun l => l[16]?) cd_126).trans rfl
theorem c_126_17 : (zm_cd 126)[17]? = some ((29, .invokestatic 29, 3, 36, 1, 1, 1, 0, []) : zm_E) := (congrArg (fun l => l[17]?) cd_126).trans rfl
theorem c_126_18 : (zm_cd 126)[18]? = some ((32, .ior, 1, 0, 0, 0, 0, 0, []) : zm_E) := (congrArg (fun l => l[18]?) cd_126).trans rfl
theorem c_126_19 : (zm_cd 126)[19]? = some ((33, .istore_n 2, 1, 2, 0, 0, 0, 0, []) : zm_E) := (congrArg (fun l => l[19]?) cd_126).trans rfl
theorem c_126_20 : (zm_cd 126)[20]? = some ((34, .iinc 3 1, 3, 3, 0, 0, 1, 0, []) : zm_E) := (congrArg (fun l => l[20]?) cd_126).trans rfl
theorem c_126_21 : (zm_cd 126)[21]? = some ((37, .goto (-33), 3, 4, 0, 0, 0, 0, []) : zm_E) := (congrArg (fun l => l[21]?) cd_126).trans rfl
theorem c_126_22 : (zm_cd 126)[22]? = some ((40, .iload_n 2, 1, 2, 0, 0, 0, 0, []) : zm_E) := (congrArg (fun l => l[22]?) cd_126).trans rfl
theorem c_126_23 : (zm_cd 126)[23]? = some ((41, .ireturn, 1, 0, 0, 0, 0, 0, []) : zm_E) := (congrArg (fun l => l[23]?) cd_126).trans rfl
theorem cd_127 : zm_cd 127 = zd_127 := rfl
theorem ml_127 : zm_ml 127 = 3 := rfl
theorem ht_127 : zm_ht 127 = [] := rfl
theorem c_127_0 : (zm_cd 127)[0]? = some ((0, .iconst 0, 1, 0, 0, 0, 0, 0, []) : zm_E) := (congrArg (fun l => l[0]?) cd_127).trans rfl
theorem c_127_1 : (zm_cd 127)[1]? = some ((1, .istore_n 1, 1, 1, 0, 0, 0, 0, []) : zm_E) := (congrArg (fun l => l[1]?) cd_127).trans rfl
theorem c_127_2 : (zm_cd 127)[2]? = some ((2, .iconst 0, 1, 0, 0, 0, 0, 0, []) : zm_E) := (congrArg (fun l => l[2]?) cd_127).trans rfl
theorem c_127_3 : (zm_cd 127)[3]? = some ((3, .istore_n 2, 1, 2, 0, 0, 0, 0, []) : zm_E) := (congrArg (fun l => l[3]?) cd_127).trans rfl
theorem c_127_4 : (zm_cd 127)[4]? = some ((4, .iload_n 2, 1, 2, 0, 0, 0, 0, []) : zm_E) := (congrArg (fun l => l[4]?) cd_127).trans rfl
theorem c_127_5 : (zm_cd 127)[5]? = some ((5, .aload_n 0, 1, 0, 0, 0, 0, 0, []) : zm_E) := (congrArg (fun l => l[5]?) cd_127).trans rfl
theorem c_127_6 : (zm_cd 127)[6]? = some ((6, .getfield 18, 3, 1, 0, 0, 0, 0, []) : zm_E) := (congrArg (fun l => l[6]?) cd_127).trans rfl
theorem c_127_7 : (zm_cd 127)[7]? = some ((9, .if_icmp .ge 24, 3, 17, 0, 0, 0, 0, []) : zm_E) := (congrArg (fun l => l[7]?) cd_127).trans rfl
theorem c_127_8 : (zm_cd 127)[8]? = some ((12, .aload_n 0, 1, 0, 0, 0, 0, 0, []) : zm_E) := (congrArg (fun l => l[8]?) cd_127).trans rfl
theorem c_127_9 : (zm_cd 127)[9]? = some ((13, .getfield 15, 3, 1, 3, 1, 0, 0, []) : zm_E) := (congrArg (fun l => l[9]?) cd_127).trans rfl
theorem c_127_10 : (zm_cd 127)[10]? = some ((16, .iload_n 2, 1, 2, 0, 0, 0, 0, []) : zm_E) := (congrArg (fun l => l[10]?) cd_127).trans rfl
theorem c_127_11 : (zm_cd 127)[11]? = some ((17, .invokestatic 49, 3, 209, 2, 1, 1, 0, []) : zm_E) := (congrArg (fun l => l[11]?) cd_127).trans rfl
theorem c_127_12 : (zm_cd 127)[12]? = some ((20, .iload_n 2, 1, 2, 0, 0, 0, 0, []) : zm_E) := (congrArg (fun l => l[12]?) cd_127).trans rfl
theorem c_127_13 : (zm_cd 127)[13]? = some ((21, .if_icmp .ne 6, 3, 15, 0, 0, 0, 0, []) : zm_E) := (congrArg (fun l => l[13]?) cd_127).trans rfl
theorem c_127_14 : (zm_cd 127)[14]? = some ((24, .iinc 1 1, 3, 1, 0, 0, 1, 0, []) : zm_E) := (congrArg (fun l => l[14]?) cd_127).trans rfl
theorem c_127_15 : (zm_cd 127)[15]? = some ((27, .iinc 2 1, 3, 2, 0, 0, 1, 0, []) : zm_E) := (congrArg (fun l => l[15]?) cd_127).trans rfl
theorem c_127_16 : (zm_cd 127)[16]? = some ((30, .goto (-26), 3, 4, 0, 0, 0, 0, []) : zm_E) := (congrArg (fun l => l[16]?) cd_127).trans rfl
theorem c_127_17 : (zm_cd 127)[17]? = some ((33, .iload_n 1, 1, 1, 0, 0, 0, 0, []) : zm_E) := (congrArg (fun l => l[17]?) cd_127).trans rfl
theorem c_127_18 : (zm_cd 127)[18]? = some ((34, .ireturn, 1, 0, 0, 0, 0, 0, []) : zm_E) := (congrArg (fun l => l[18]?) cd_127).trans rfl
theorem cd_128 : zm_cd 128 = zd_128 := rfl
theorem ml_128 : zm_ml 128 = 3 := rfl
theorem ht_128 : zm_ht 128 = [] := rfl
theorem c_128_0 : (zm_cd 128)[0]? = some ((0, .iconst 0, 1, 0, 0, 0, 0, 0, []) : zm_E) := (congrArg (fun l => l[0]?) cd_128).trans rfl
theorem c_128_1 : (zm_cd 128)[1]? = some ((1, .istore_n 1, 1, 1, 0, 0, 0, 0, []) : zm_E) := (congrArg (fun l => l[1]?) cd_128).trans rfl
theorem c_128_2 : (zm_cd 128)[2]? = some ((2, .iconst 0, 1, 0, 0, 0, 0, 0, []) : zm_E) := (congrArg (fun l => l[2]?) cd_128).trans rfl
theorem c_128_3 : (zm_cd 128)[3]? = some ((3, .istore_n 2, 1, 2, 0, 0, 0, 0, []) : zm_E) := (congrArg (fun l => l[3]?) cd_128).trans rfl
theorem c_128_4 : (zm_cd 128)[4]? = some ((4, .iload_n 2, 1, 2, 0, 0, 0, 0, []) : zm_E) := (congrArg (fun l => l[4]?) cd_128).trans rfl
theorem c_128_5 : (zm_cd 128)[5]? = some ((5, .aload_n 0, 1, 0, 0, 0, 0, 0, []) : zm_E) := (congrArg (fun l => l[5]?) cd_128).trans rfl
theorem c_128_6 : (zm_cd 128)[6]? = some ((6, .getfield 18, 3, 1, 0, 0, 0, 0, []) : zm_E) := (congrArg (fun l => l[6]?) cd_128).trans rfl
theorem c_128_7 : (zm_cd 128)[7]? = some ((9, .if_icmp .ge 17, 3, 16, 0, 0, 0, 0, []) : zm_E) := (congrArg (fun l => l[7]?) cd_128).trans rfl
theorem c_128_8 : (zm_cd 128)[8]? = some ((12, .iload_n 1, 1, 1, 0, 0, 0, 0, []) : zm_E) := (congrArg (fun l => l[8]?) cd_128).trans rfl
theorem c_128_9 : (zm_cd 128)[9]? = some ((13, .aload_n 0, 1, 0, 0, 0, 0, 0, []) : zm_E) := (congrArg (fun l => l[9]?) cd_128).trans rfl
theorem c_128_10 : (zm_cd 128)[10]? = some ((14, .iload_n 2, 1, 2, 0, 0, 0, 0, []) : zm_E) := (congrArg (fun l => l[10]?) cd_128).trans rfl
theorem c_128_11 : (zm_cd 128)[11]? = some ((15, .invokevirtual 61, 3, 122, 1, 1, 0, 0, [1]) : zm_E) := (congrArg (fun l => l[11]?) cd_128).trans rfl
theorem c_128_12 : (zm_cd 128)[12]? = some ((18, .iadd, 1, 0, 0, 0, 0, 0, []) : zm_E) := (congrArg (fun l => l[12]?) cd_128).trans rfl
theorem c_128_13 : (zm_cd 128)[13]? = some ((19, .istore_n 1, 1, 1, 0, 0, 0, 0, []) : zm_E) := (congrArg (fun l => l[13]?) cd_128).trans rfl
theorem c_128_14 : (zm_cd 128)[14]? = some ((20, .iinc 2 1, 3, 2, 0, 0, 1, 0, []) : zm_E) := (congrArg (fun l => l[14]?) cd_128).trans rfl
theorem c_128_15 : (zm_cd 128)[15]? = some ((23, .goto (-19), 3, 4, 0, 0, 0, 0, []) : zm_E) := (congrArg (fun l => l[15]?) cd_128).trans rfl
theorem c_128_16 : (zm_cd 128)[16]? = some ((26, .iload_n 1, 1, 1, 0, 0, 0, 0, []) : zm_E) := (congrArg (fun l => l[16]?) cd_128).trans rfl
theorem c_128_17 : (zm_cd 128)[17]? = some ((27, .ireturn, 1, 0, 0, 0, 0, 0, []) : zm_E) := (congrArg (fun l => l[17]?) cd_128).trans rfl
theorem cd_129 : zm_cd 129 = zd_129 := rfl
theorem ml_129 : zm_ml 129 = 4 := rfl
theorem ht_129 : zm_ht 129 = [] := rfl
theorem c_129_0 : (zm_cd 129)[0]? = some ((0, .iconst 0, 1, 0, 0, 0, 0, 0, []) : zm_E) := (congrArg (fun l => l[0]?) cd_129).trans rfl
theorem c_129_1 : (zm_cd 129)[1]? = some ((1, .istore_n 1, 1, 1, 0, 0, 0, 0, []) : zm_E) := (congrArg (fun l => l[1]?) cd_129).trans rfl
theorem c_129_2 : (zm_cd 129)[2]? = some ((2, .iconst 0, 1, 0, 0, 0, 0, 0, []) : zm_E) := (congrArg (fun l => l[2]?) cd_129).trans rfl
theorem c_129_3 : (zm_cd 129)[3]? = some ((3, .istore_n 2, 1, 2, 0, 0, 0, 0, []) : zm_E) := (congrArg (fun l => l[3]?) cd_129).trans rfl
theorem c_129_4 : (zm_cd 129)[4]? = some ((4, .iload_n 2, 1, 2, 0, 0, 0, 0, []) : zm_E) := (congrArg (fun l => l[4]?) cd_129).trans rfl
theorem c_129_5 : (zm_cd 129)[5]? = some ((5, .aload_n 0, 1, 0, 0, 0, 0, 0, []) : zm_E) := (congrArg (fun l => l[5]?) cd_129).trans rfl
theorem c_129_6 : (zm_cd 129)[6]? = some ((6, .getfield 18, 3, 1, 0, 0, 0, 0, []) : zm_E) := (congrArg (fun l => l[6]?) cd_129).trans rfl
theorem c_129_7 : (zm_cd 129)[7]? = some ((9, .if_icmp .ge 60, 3, 35, 0, 0, 0, 0, []) : zm_E) := (congrArg (fun l => l[7]?) cd_129).trans rfl
theorem c_129_8 : (zm_cd 129)[8]? = some ((12, .iconst 0, 1, 0, 0, 0, 0, 0, []) : zm_E) := (congrArg (fun l => l[8]?) cd_129).trans rfl
theorem c_129_9 : (zm_cd 129)[9]? = some ((13, .istore_n 3, 1, 3, 0, 0, 0, 0, []) : zm_E) := (congrArg (fun l => l[9]?) cd_129).trans rfl
theorem c_129_10 : (zm_cd 129)[10]? = some ((14, .iload_n 3, 1, 3, 0, 0, 0, 0, []) : zm_E) := (congrArg (fun l => l[10]?) cd_129).trans rfl
theorem c_129_11 : (zm_cd 129)[11]? = some ((15, .aload_n 0, 1, 0, 0, 0, 0, 0, []) : zm_E) := (congrArg (fun l => l[11]?) cd_129).trans rfl
theorem c_129_12 : (zm_cd 129)[12]? = some ((16, .getfield 18, 3, 1, 0, 0, 0, 0, []) : zm_E) := (congrArg (fun l => l[12]?) cd_129).trans rfl
theorem c_129_13 : (zm_cd 129)[13]? = some ((19, .if_icmp .ge 44, 3, 33, 0, 0, 0, 0, []) : zm_E) := (congrArg (fun l => l[13]?) cd_129).trans rfl
theorem c_129_14 : (zm_cd 129)[14]? = some ((22, .aload_n 0, 1, 0, 0, 0, 0, 0, []) : zm_E) := (congrArg (fun l => l[14]?) cd_129).trans rfl
theorem c_129_15 : (zm_cd 129)[15]? = some ((23, .iload_n 2, 1, 2, 0, 0, 0, 0, []) : zm_E) := (congrArg (fun l => l[15]?) cd_129).trans rfl
theorem c_129_16 : (zm_cd 129)[16]? = some ((24, .invokevirtual 64, 3, 119, 1, 1, 0, 0, [1]) : zm_E) := (congrArg (fun l => l[16]?) cd_129).trans rfl
theorem c_129_17 : (zm_cd 129)[17]? = some ((27, .ifCond .eq 30, 3, 31, 0, 0, 0, 0, []) : zm_E) := (congrArg (fun l => l[17]?) cd_129).trans rfl
theorem c_129_18 : (zm_cd 129)[18]? = some ((30, .aload_n 0, 1, 0, 0, 0, 0, 0, []) : zm_E) := (congrArg (fun l => l[18]?) cd_129).trans rfl
theorem c_129_19 : (zm_cd 129)[19]? = some ((31, .iload_n 3, 1, 3, 0, 0, 0, 0, []) : zm_E) := (congrArg (fun l => l[19]?) cd_129).trans rfl
theorem c_129_20 : (zm_cd 129)[20]? = some ((32, .invokevirtual 64, 3, 119, 1, 1, 0, 0, [1]) : zm_E) := (congrArg (fun l => l[20]?) cd_129).trans rfl
theorem c_129_21 : (zm_cd 129)[21]? = some ((35, .ifCond .eq 22, 3, 31, 0, 0, 0, 0, []) : zm_E) := (congrArg (fun l => l[21]?) cd_129).trans rfl
theorem c_129_22 : (zm_cd 129)[22]? = some ((38, .aload_n 0, 1, 0, 0, 0, 0, 0, []) : zm_E) := (congrArg (fun l => l[22]?) cd_129).trans rfl
theorem c_129_23 : (zm_cd 129)[23]? = some ((39, .iload_n 2, 1, 2, 0, 0, 0, 0, []) : zm_E) := (congrArg (fun l => l[23]?) cd_129).trans rfl
theorem c_129_24 : (zm_cd 129)[24]? = some ((40, .aload_n 0, 1, 0, 0, 0, 0, 0, []) : zm_E) := (congrArg (fun l => l[24]?) cd_129).trans rfl
theorem c_129_25 : (zm_cd 129)[25]? = some ((41, .getfield 15, 3, 1, 3, 1, 0, 0, []) : zm_E) := (congrArg (fun l => l[25]?) cd_129).trans rfl
theorem c_129_26 : (zm_cd 129)[26]? = some ((44, .iload_n 3, 1, 3, 0, 0, 0, 0, []) : zm_E) := (congrArg (fun l => l[26]?) cd_129).trans rfl
theorem c_129_27 : (zm_cd 129)[27]? = some ((45, .invokestatic 49, 3, 209, 2, 1, 1, 0, []) : zm_E) := (congrArg (fun l => l[27]?) cd_129).trans rfl
theorem c_129_28 : (zm_cd 129)[28]? = some ((48, .invokevirtual 68, 3, 124, 2, 1, 0, 0, [1]) : zm_E) := (congrArg (fun l => l[28]?) cd_129).trans rfl
theorem c_129_29 : (zm_cd 129)[29]? = some ((51, .ifCond .ge 6, 3, 31, 0, 0, 0, 0, []) : zm_E) := (congrArg (fun l => l[29]?) cd_129).trans rfl
theorem c_129_30 : (zm_cd 129)[30]? = some ((54, .iinc 1 1, 3, 1, 0, 0, 1, 0, []) : zm_E) := (congrArg (fun l => l[30]?) cd_129).trans rfl
theorem c_129_31 : (zm_cd 129)[31]? = some ((57, .iinc 3 1, 3, 3, 0, 0, 1, 0, []) : zm_E) := (congrArg (fun l => l[31]?) cd_129).trans rfl
theorem c_129_32 : (zm_cd 129)[32]? = some ((60, .goto (-46), 3, 10, 0, 0, 0, 0, []) : zm_E) := (congrArg (fun l => l[32]?) cd_129).trans rfl
theorem c_129_33 : (zm_cd 129)[33]? = some ((63, .iinc 2 1, 3, 2, 0, 0, 1, 0, []) : zm_E) := (congrArg (fun l => l[33]?) cd_129).trans rfl
theorem c_129_34 : (zm_cd 129)[34]? = some ((66, .goto (-62), 3, 4, 0, 0, 0, 0, []) : zm_E) := (congrArg (fun l => l[34]?) cd_129).trans rfl
theorem c_129_35 : (zm_cd 129)[35]? = some ((69, .iload_n 1, 1, 1, 0, 0, 0, 0, []) : zm_E) := (congrArg (fun l => l[35]?) cd_129).trans rfl
theorem c_129_36 : (zm_cd 129)[36]? = some ((70, .ireturn, 1, 0, 0, 0, 0, 0, []) : zm_E) := (congrArg (fun l => l[36]?) cd_129).trans rfl
theorem cd_130 : zm_cd 130 = zd_130 := rfl
theorem ml_130 : zm_ml 130 = 5 := rfl
theorem ht_130 : zm_ht 130 = [] := rfl
theorem c_130_0 : (zm_cd 130)[0]? = some ((0, .iload_n 1, 1, 1, 0, 0, 0, 0, []) : zm_E) := (congrArg (fun l => l[0]?) cd_130).trans rfl
theorem c_130_1 : (zm_cd 130)[1]? = some ((1, .iload_n 2, 1, 2, 0, 0, 0, 0, []) : zm_E) := (congrArg (fun l => l[1]?) cd_130).trans rfl
theorem c_130_2 : (zm_cd 130)[2]? = some ((2, .if_icmp .ne 5, 3, 5, 0, 0, 0, 0, []) : zm_E) := (congrArg (fun l => l[2]?) cd_130).trans rfl
theorem c_130_3 : (zm_cd 130)[3]? = some ((5, .iconst 1, 1, 0, 0, 0, 1, 0, []) : zm_E) := (congrArg (fun l => l[3]?) cd_130).trans rfl
theorem c_130_4 : (zm_cd 130)[4]? = some ((6, .ireturn, 1, 0, 0, 0, 0, 0, []) : zm_E) := (congrArg (fun l => l[4]?) cd_130).trans rfl
theorem c_130_5 : (zm_cd 130)[5]? = some ((7, .aload_n 0, 1, 0, 0, 0, 0, 0, []) : zm_E) := (congrArg (fun l => l[5]?) cd_130).trans rfl
theorem c_130_6 : (zm_cd 130)[6]? = some ((8, .iload_n 1, 1, 1, 0, 0, 0, 0, []) : zm_E) := (congrArg (fun l => l[6]?) cd_130).trans rfl
theorem c_130_7 : (zm_cd 130)[7]? = some ((9, .invokevirtual 64, 3, 119, 1, 1, 0, 0, [1]) : zm_E) := (congrArg (fun l => l[7]?) cd_130).trans rfl
theorem c_130_8 : (zm_cd 130)[8]? = some ((12, .ifCond .ne 5, 3, 11, 0, 0, 0, 0, []) : zm_E) := (congrArg (fun l => l[8]?) cd_130).trans rfl
theorem c_130_9 : (zm_cd 130)[9]? = some ((15, .iconst 2, 1, 0, 0, 0, 2, 0, []) : zm_E) := (congrArg (fun l => l[9]?) cd_130).trans rfl
theorem c_130_10 : (zm_cd 130)[10]? = some ((16, .ireturn, 1, 0, 0, 0, 0, 0, []) : zm_E) := (congrArg (fun l => l[10]?) cd_130).trans rfl
theorem c_130_11 : (zm_cd 130)[11]? = some ((17, .aload_n 0, 1, 0, 0, 0, 0, 0, []) : zm_E) := (congrArg (fun l => l[11]?) cd_130).trans rfl
theorem c_130_12 : (zm_cd 130)[12]? = some ((18, .iload_n 2, 1, 2, 0, 0, 0, 0, []) : zm_E) := (congrArg (fun l => l[12]?) cd_130).trans rfl
theorem c_130_13 : (zm_cd 130)[13]? = some ((19, .invokevirtual 64, 3, 119, 1, 1, 0, 0, [1]) : zm_E) := (congrArg (fun l => l[13]?) cd_130).trans rfl
theorem c_130_14 : (zm_cd 130)[14]? = some ((22, .ifCond .ne 5, 3, 17, 0, 0, 0, 0, []) : zm_E) := (congrArg (fun l => l[14]?) cd_130).trans rfl
theorem c_130_15 : (zm_cd 130)[15]? = some ((25, .iconst 3, 1, 0, 0, 0, 3, 0, []) : zm_E) := (congrArg (fun l => l[15]?) cd_130).trans rfl
theorem c_130_16 : (zm_cd 130)[16]? = some ((26, .ireturn, 1, 0, 0, 0, 0, 0, []) : zm_E) := (congrArg (fun l => l[16]?) cd_130).trans rfl
theorem c_130_17 : (zm_cd 130)[17]? = some ((27, .aload_n 0, 1, 0, 0, 0, 0, 0, []) : zm_E) := (congrArg (fun l => l[17]?) cd_130).trans rfl
theorem c_130_18 : (zm_cd 130)[18]? = some ((28, .iload_n 1, 1, 1, 0, 0, 0, 0, []) : zm_E) := (congrArg (fun l => l[18]?) cd_130).trans rfl
theorem c_130_19 : (zm_cd 130)[19]? = some ((29, .aload_n 0, 1, 0, 0, 0, 0, 0, []) : zm_E) := (congrArg (fun l => l[19]?) cd_130).trans rfl
theorem c_130_20 : (zm_cd 130)[20]? = some ((30, .getfield 15, 3, 1, 3, 1, 0, 0, []) : zm_E) := (congrArg (fun l => l[20]?) cd_130).trans rfl
theorem c_130_21 : (zm_cd 130)[21]? = some ((33, .iload_n 2, 1, 2, 0, 0, 0, 0, []) : zm_E) := (congrArg (fun l => l[21]?) cd_130).trans rfl
theorem c_130_22 : (zm_cd 130)[22]? = some ((34, .invokestatic 49, 3, 209, 2, 1, 1, 0, []) : zm_E) := (congrArg (fun l => l[22]?) cd_130).trans rfl
theorem c_130_23 : (zm_cd 130)[23]? = some ((37, .invokevirtual 68, 3, 124, 2, 1, 0, 0, [1]) : zm_E) := (congrArg (fun l => l[23]?) cd_130).trans rfl
theorem c_130_24 : (zm_cd 130)[24]? = some ((40, .istore_n 3, 1, 3, 0, 0, 0, 0, []) : zm_E) := (congrArg (fun l => l[24]?) cd_130).trans rfl
theorem c_130_25 : (zm_cd 130)[25]? = some ((41, .iload_n 3, 1, 3, 0, 0, 0, 0, []) : zm_E) := (congrArg (fun l => l[25]?) cd_130).trans rfl
theorem c_130_26 : (zm_cd 130)[26]? = some ((42, .ifCond .le 5, 3, 29, 0, 0, 0, 0, []) : zm_E) := (congrArg (fun l => l[26]?) cd_130).trans rfl
theorem c_130_27 : (zm_cd 130)[27]? = some ((45, .iconst 4, 1, 0, 0, 0, 4, 0, []) : zm_E) := (congrArg (fun l => l[27]?) cd_130).trans rfl
theorem c_130_28 : (zm_cd 130)[28]? = some ((46, .ireturn, 1, 0, 0, 0, 0, 0, []) : zm_E) := (congrArg (fun l => l[28]?) cd_130).trans rfl
theorem c_130_29 : (zm_cd 130)[29]? = some ((47, .aload_n 0, 1, 0, 0, 0, 0, 0, []) : zm_E) := (congrArg (fun l => l[29]?) cd_130).trans rfl
theorem c_130_30 : (zm_cd 130)[30]? = some ((48, .iload_n 2, 1, 2, 0, 0, 0, 0, []) : zm_E) := (congrArg (fun l => l[30]?) cd_130).trans rfl
theorem c_130_31 : (zm_cd 130)[31]? = some ((49, .aload_n 0, 1, 0, 0, 0, 0, 0, []) : zm_E) := (congrArg (fun l => l[31]?) cd_130).trans rfl
theorem c_130_32 : (zm_cd 130)[32]? = some ((50, .getfield 15, 3, 1, 3, 1, 0, 0, []) : zm_E) := (congrArg (fun l => l[32]?) cd_130).trans rfl
theorem c_130_33 : (zm_cd 130)[33]? = some ((53, .iload_n 1, 1, 1, 0, 0, 0, 0, []) : zm_E) := (congrArg (fun l => l[33]?) cd_130).trans rfl
theorem c_130_34 : (zm_cd 130)[34]? = some ((54, .invokestatic 49, 3, 209, 2, 1, 1, 0, []) : zm_E) := (congrArg (fun l => l[34]?) cd_130).trans rfl
theorem c_130_35 : (zm_cd 130)[35]? = some ((57, .invokevirtual 68, 3, 124, 2, 1, 0, 0, [1]) : zm_E) := (congrArg (fun l => l[35]?) cd_130).trans rfl
theorem c_130_36 : (zm_cd 130)[36]? = some ((60, .istore 4, 2, 4, 0, 0, 0, 0, []) : zm_E) := (congrArg (fun l => l[36]?) cd_130).trans rfl
theorem c_130_37 : (zm_cd 130)[37]? = some ((62, .iload 4, 2, 4, 0, 0, 0, 0, []) : zm_E) := (congrArg (fun l => l[37]?) cd_130).trans rfl
theorem c_130_38 : (zm_cd 130)[38]? = some ((64, .ifCond .le 5, 3, 41, 0, 0, 0, 0, []) : zm_E) := (congrArg (fun l => l[38]?) cd_130).trans rfl
theorem c_130_39 : (zm_cd 130)[39]? = some ((67, .iconst 5, 1, 0, 0, 0, 5, 0, []) : zm_E) := (congrArg (fun l => l[39]?) cd_130).trans rfl
theorem c_130_40 : (zm_cd 130)[40]? = some ((68, .ireturn, 1, 0, 0, 0, 0, 0, []) : zm_E) := (congrArg (fun l => l[40]?) cd_130).trans rfl
theorem c_130_41 : (zm_cd 130)[41]? = some ((69, .iload_n 3, 1, 3, 0, 0, 0, 0, []) : zm_E) := (congrArg (fun l => l[41]?) cd_130).trans rfl
theorem c_130_42 : (zm_cd 130)[42]? = some ((70, .ifCond .ne 13, 3, 47, 0, 0, 0, 0, []) : zm_E) := (congrArg (fun l => l[42]?) cd_130).trans rfl
theorem c_130_43 : (zm_cd 130)[43]? = some ((73, .iload 4, 2, 4, 0, 0, 0, 0, []) : zm_E) := (congrArg (fun l => l[43]?) cd_130).trans rfl
theorem c_130_44 : (zm_cd 130)[44]? = some ((75, .ifCond .ne 8, 3, 47, 0, 0, 0, 0, []) : zm_E) := (congrArg (fun l => l[44]?) cd_130).trans rfl
theorem c_130_45 : (zm_cd 130)[45]? = some ((78, .bipush 6, 2, 0, 0, 0, 6, 0, []) : zm_E) := (congrArg (fun l => l[45]?) cd_130).trans rfl
theorem c_130_46 : (zm_cd 130)[46]? = some ((80, .goto 4, 3, 48, 0, 0, 0, 0, []) : zm_E) := (congrArg (fun l => l[46]?) cd_130).trans rfl
theorem c_130_47 : (zm_cd 130)[47]? = some ((83, .iconst 0, 1, 0, 0, 0, 0, 0, []) : zm_E) := (congrArg (fun l => l[47]?) cd_130).trans rfl
theorem c_130_48 : (zm_cd 130)[48]? = some ((84, .ireturn, 1, 0, 0, 0, 0, 0, []) : zm_E) := (congrArg (fun l => l[48]?) cd_130).trans rfl
theorem cd_131 : zm_cd 131 = zd_131 := rfl
theorem ml_131 : zm_ml 131 = 4 := rfl
theorem ht_131 : zm_ht 131 = [] := rfl
theorem c_131_0 : (zm_cd 131)[0]? = some ((0, .aload_n 0, 1, 0, 0, 0, 0, 0, []) : zm_E) := (congrArg (fun l => l[0]?) cd_131).trans rfl
theorem c_131_1 : (zm_cd 131)[1]? = some ((1, .getfield 15, 3, 1, 3, 1, 0, 0, []) : zm_E) := (congrArg (fun l => l[1]?) cd_131).trans rfl
theorem c_131_2 : (zm_cd 131)[2]? = some ((4, .iload_n 1, 1, 1, 0, 0, 0, 0, []) : zm_E) := (congrArg (fun l => l[2]?) cd_131).trans rfl
theorem c_131_3 : (zm_cd 131)[3]? = some ((5, .invokestatic 49, 3, 209, 2, 1, 1, 0, []) : zm_E) := (congrArg (fun l => l[3]?) cd_131).trans rfl
theorem c_131_4 : (zm_cd 131)[4]? = some ((8, .istore_n 3, 1, 3, 0, 0, 0, 0, []) : zm_E) := (congrArg (fun l => l[4]?) cd_131).trans rfl
theorem c_131_5 : (zm_cd 131)[5]? = some ((9, .aload_n 0, 1, 0, 0, 0, 0, 0, []) : zm_E) := (congrArg (fun l => l[5]?) cd_131).trans rfl
theorem c_131_6 : (zm_cd 131)[6]? = some ((10, .getfield 15, 3, 1, 3, 1, 0, 0, []) : zm_E) := (congrArg (fun l => l[6]?) cd_131).trans rfl
theorem c_131_7 : (zm_cd 131)[7]? = some ((13, .iload_n 1, 1, 1, 0, 0, 0, 0, []) : zm_E) := (congrArg (fun l => l[7]?) cd_131).trans rfl
theorem c_131_8 : (zm_cd 131)[8]? = some ((14, .aload_n 0, 1, 0, 0, 0, 0, 0, []) : zm_E) := (congrArg (fun l => l[8]?) cd_131).trans rfl
theorem c_131_9 : (zm_cd 131)[9]? = some ((15, .getfield 15, 3, 1, 3, 1, 0, 0, []) : zm_E) := (congrArg (fun l => l[9]?) cd_131).trans rfl
theorem c_131_10 : (zm_cd 131)[10]? = some ((18, .iload_n 2, 1, 2, 0, 0, 0, 0, []) : zm_E) := (congrArg (fun l => l[10]?) cd_131).trans rfl
theorem c_131_11 : (zm_cd 131)[11]? = some ((19, .invokestatic 49, 3, 209, 2, 1, 1, 0, []) : zm_E) := (congrArg (fun l => l[11]?) cd_131).trans rfl
theorem c_131_12 : (zm_cd 131)[12]? = some ((22, .invokestatic 57, 3, 210, 3, 0, 1, 0, []) : zm_E) := (congrArg (fun l => l[12]?) cd_131).trans rfl
theorem c_131_13 : (zm_cd 131)[13]? = some ((25, .aload_n 0, 1, 0, 0, 0, 0, 0, []) : zm_E) := (congrArg (fun l => l[13]?) cd_131).trans rfl
theorem c_131_14 : (zm_cd 131)[14]? = some ((26, .getfield 15, 3, 1, 3, 1, 0, 0, []) : zm_E) := (congrArg (fun l => l[14]?) cd_131).trans rfl
theorem c_131_15 : (zm_cd 131)[15]? = some ((29, .iload_n 2, 1, 2, 0, 0, 0, 0, []) : zm_E) := (congrArg (fun l => l[15]?) cd_131).trans rfl
theorem c_131_16 : (zm_cd 131)[16]? = some ((30, .iload_n 3, 1, 3, 0, 0, 0, 0, []) : zm_E) := (congrArg (fun l => l[16]?) cd_131).trans rfl
theorem c_131_17 : (zm_cd 131)[17]? = some ((31, .invokestatic 57, 3, 210, 3, 0, 1, 0, []) : zm_E) := (congrArg (fun l => l[17]?) cd_131).trans rfl
theorem c_131_18 : (zm_cd 131)[18]? = some ((34, .return_, 1, 0, 0, 0, 0, 0, []) : zm_E) := (congrArg (fun l => l[18]?) cd_131).trans rfl
theorem cd_132 : zm_cd 132 = zd_132 := rfl
theorem ml_132 : zm_ml 132 = 6 := rfl
theorem ht_132 : zm_ht 132 = [] := rfl
theorem c_132_0 : (zm_cd 132)[0]? = some ((0, .iconst 0, 1, 0, 0, 0, 0, 0, []) : zm_E) := (congrArg (fun l => l[0]?) cd_132).trans rfl
theorem c_132_1 : (zm_cd 132)[1]? = some ((1, .istore_n 3, 1, 3, 0, 0, 0, 0, []) : zm_E) := (congrArg (fun l => l[1]?) cd_132).trans rfl
theorem c_132_2 : (zm_cd 132)[2]? = some ((2, .iconst 0, 1, 0, 0, 0, 0, 0, []) : zm_E) := (congrArg (fun l => l[2]?) cd_132).trans rfl
theorem c_132_3 : (zm_cd 132)[3]? = some ((3, .istore 4, 2, 4, 0, 0, 0, 0, []) : zm_E) := (congrArg (fun l => l[3]?) cd_132).trans rfl
theorem c_132_4 : (zm_cd 132)[4]? = some ((5, .iload 4, 2, 4, 0, 0, 0, 0, []) : zm_E) := (congrArg (fun l => l[4]?) cd_132).trans rfl
theorem c_132_5 : (zm_cd 132)[5]? = some ((7, .aload_n 0, 1, 0, 0, 0, 0, 0, []) : zm_E) := (congrArg (fun l => l[5]?) cd_132).trans rfl
theorem c_132_6 : (zm_cd 132)[6]? = some ((8, .getfield 18, 3, 1, 0, 0, 0, 0, []) : zm_E) := (congrArg (fun l => l[6]?) cd_132).trans rfl
theorem c_132_7 : (zm_cd 132)[7]? = some ((11, .if_icmp .ge 57, 3, 31, 0, 0, 0, 0, []) : zm_E) := (congrArg (fun l => l[7]?) cd_132).trans rfl
theorem c_132_8 : (zm_cd 132)[8]? = some ((14, .aload_n 1, 1, 1, 0, 0, 0, 0, []) : zm_E) := (congrArg (fun l => l[8]?) cd_132).trans rfl
theorem c_132_9 : (zm_cd 132)[9]? = some ((15, .getfield 71, 3, 6, 2, 1, 0, 0, []) : zm_E) := (congrArg (fun l => l[9]?) cd_132).trans rfl
theorem c_132_10 : (zm_cd 132)[10]? = some ((18, .iload 4, 2, 4, 0, 0, 0, 0, []) : zm_E) := (congrArg (fun l => l[10]?) cd_132).trans rfl
theorem c_132_11 : (zm_cd 132)[11]? = some ((20, .invokestatic 49, 3, 209, 2, 1, 1, 0, []) : zm_E) := (congrArg (fun l => l[11]?) cd_132).trans rfl
theorem c_132_12 : (zm_cd 132)[12]? = some ((23, .istore 5, 2, 5, 0, 0, 0, 0, []) : zm_E) := (congrArg (fun l => l[12]?) cd_132).trans rfl
theorem c_132_13 : (zm_cd 132)[13]? = some ((25, .iload_n 2, 1, 2, 0, 0, 0, 0, []) : zm_E) := (congrArg (fun l => l[13]?) cd_132).trans rfl
theorem c_132_14 : (zm_cd 132)[14]? = some ((26, .iload 4, 2, 4, 0, 0, 0, 0, []) : zm_E) := (congrArg (fun l => l[14]?) cd_132).trans rfl
theorem c_132_15 : (zm_cd 132)[15]? = some ((28, .invokestatic 37, 3, 37, 2, 1, 1, 0, []) : zm_E) := (congrArg (fun l => l[15]?) cd_132).trans rfl
theorem c_132_16 : (zm_cd 132)[16]? = some ((31, .ifCond .eq 31, 3, 29, 0, 0, 0, 0, []) : zm_E) := (congrArg (fun l => l[16]?) cd_132).trans rfl
theorem c_132_17 : (zm_cd 132)[17]? = some ((34, .aload_n 0, 1, 0, 0, 0, 0, 0, []) : zm_E) := (congrArg (fun l => l[17]?) cd_132).trans rfl
theorem c_132_18 : (zm_cd 132)[18]? = some ((35, .getfield 15, 3, 1, 3, 1, 0, 0, []) : zm_E) := (congrArg (fun l => l[18]?) cd_132).trans rfl
theorem c_132_19 : (zm_cd 132)[19]? = some ((38, .iload 4, 2, 4, 0, 0, 0, 0, []) : zm_E) := (congrArg (fun l => l[19]?) cd_132).trans rfl
theorem c_132_20 : (zm_cd 132)[20]? = some ((40, .invokestatic 49, 3, 209, 2, 1, 1, 0, []) : zm_E) := (congrArg (fun l => l[20]?) cd_132).trans rfl
theorem c_132_21 : (zm_cd 132)[21]? = some ((43, .iload 5, 2, 5, 0, 0, 0, 0, []) : zm_E) := (congrArg (fun l => l[21]?) cd_132).trans rfl
theorem c_132_22 : (zm_cd 132)[22]? = some ((45, .if_icmp .eq 17, 3, 29, 0, 0, 0, 0, []) : zm_E) := (congrArg (fun l => l[22]?) cd_132).trans rfl
theorem c_132_23 : (zm_cd 132)[23]? = some ((48, .aload_n 0, 1, 0, 0, 0, 0, 0, []) : zm_E) := (congrArg (fun l => l[23]?) cd_132).trans rfl
theorem c_132_24 : (zm_cd 132)[24]? = some ((49, .getfield 15, 3, 1, 3, 1, 0, 0, []) : zm_E) := (congrArg (fun l => l[24]?) cd_132).trans rfl
theorem c_132_25 : (zm_cd 132)[25]? = some ((52, .iload 4, 2, 4, 0, 0, 0, 0, []) : zm_E) := (congrArg (fun l => l[25]?) cd_132).trans rfl
theorem c_132_26 : (zm_cd 132)[26]? = some ((54, .iload 5, 2, 5, 0, 0, 0, 0, []) : zm_E) := (congrArg (fun l => l[26]?) cd_132).trans rfl
theorem c_132_27 : (zm_cd 132)[27]? = some ((56, .invokestatic 57, 3, 210, 3, 0, 1, 0, []) : zm_E) := (congrArg (fun l => l[27]?) cd_132).trans rfl
theorem c_132_28 : (zm_cd 132)[28]? = some ((59, .iinc 3 1, 3, 3, 0, 0, 1, 0, []) : zm_E) := (congrArg (fun l => l[28]?) cd_132).trans rfl
theorem c_132_29 : (zm_cd 132)[29]? = some ((62, .iinc 4 1, 3, 4, 0, 0, 1, 0, []) : zm_E) := (congrArg (fun l => l[29]?) cd_132).trans rfl
theorem c_132_30 : (zm_cd 132)[30]? = some ((65, .goto (-60), 3, 4, 0, 0, 0, 0, []) : zm_E) := (congrArg (fun l => l[30]?) cd_132).trans rfl
theorem c_132_31 : (zm_cd 132)[31]? = some ((68, .iload_n 3, 1, 3, 0, 0, 0, 0, []) : zm_E) := (congrArg (fun l => l[31]?) cd_132).trans rfl
theorem c_132_32 : (zm_cd 132)[32]? = some ((69, .ireturn, 1, 0, 0, 0, 0, 0, []) : zm_E) := (congrArg (fun l => l[32]?) cd_132).trans rfl
theorem cd_133 : zm_cd 133 = zd_133 := rfl
theorem ml_133 : zm_ml 133 = 2 := rfl
theorem ht_133 : zm_ht 133 = [] := rfl
theorem c_133_0 : (zm_cd 133)[0]? = some ((0, .aload_n 0, 1, 0, 0, 0, 0, 0, []) : zm_E) := (congrArg (fun l => l[0]?) cd_133).trans rfl
theorem c_133_1 : (zm_cd 133)[1]? = some ((1, .dup, 1, 0, 0, 0, 0, 0, []) : zm_E) := (congrArg (fun l => l[1]?) cd_133).trans rfl
theorem c_133_2 : (zm_cd 133)[2]? = some ((2, .getfield 22, 3, 1, 1, 0, 0, 0, []) : zm_E) := (congrArg (fun l => l[2]?) cd_133).trans rfl
theorem c_133_3 : (zm_cd 133)[3]? = some ((5, .iload_n 1, 1, 1, 0, 0, 0, 0, []) : zm_E) := (congrArg (fun l => l[3]?) cd_133).trans rfl
theorem c_133_4 : (zm_cd 133)[4]? = some ((6, .invokestatic 29, 3, 36, 1, 1, 1, 0, []) : zm_E) := (congrArg (fun l => l[4]?) cd_133).trans rfl
theorem c_133_5 : (zm_cd 133)[5]? = some ((9, .ior, 1, 0, 0, 0, 0, 0, []) : zm_E) := (congrArg (fun l => l[5]?) cd_133).trans rfl
theorem c_133_6 : (zm_cd 133)[6]? = some ((10, .putfield 22, 3, 1, 1, 0, 0, 0, []) : zm_E) := (congrArg (fun l => l[6]?) cd_133).trans rfl
theorem c_133_7 : (zm_cd 133)[7]? = some ((13, .return_, 1, 0, 0, 0, 0, 0, []) : zm_E) := (congrArg (fun l => l[7]?) cd_133).trans rfl
theorem cd_134 : zm_cd 134 = zd_134 := rfl
theorem ml_134 : zm_ml 134 = 3 := rfl
theorem ht_134 : zm_ht 134 = [] := rfl
theorem c_134_0 : (zm_cd 134)[0]? = some ((0, .aload_n 0, 1, 0, 0, 0, 0, 0, []) : zm_E) := (congrArg (fun l => l[0]?) cd_134).trans rfl
theorem c_134_1 : (zm_cd 134)[1]? = some ((1, .iconst 0, 1, 0, 0, 0, 0, 0, []) : zm_E) := (congrArg (fun l => l[1]?) cd_134).trans rfl
theorem c_134_2 : (zm_cd 134)[2]? = some ((2, .putfield 22, 3, 1, 1, 0, 0, 0, []) : zm_E) := (congrArg (fun l => l[2]?) cd_134).trans rfl
theorem c_134_3 : (zm_cd 134)[3]? = some ((5, .iconst 0, 1, 0, 0, 0, 0, 0, []) : zm_E) := (congrArg (fun l => l[3]?) cd_134).trans rfl
theorem c_134_4 : (zm_cd 134)[4]? = some ((6, .istore_n 1, 1, 1, 0, 0, 0, 0, []) : zm_E) := (congrArg (fun l => l[4]?) cd_134).trans rfl
theorem c_134_5 : (zm_cd 134)[5]? = some ((7, .iconst 0, 1, 0, 0, 0, 0, 0, []) : zm_E) := (congrArg (fun l => l[5]?) cd_134).trans rfl
theorem c_134_6 : (zm_cd 134)[6]? = some ((8, .istore_n 2, 1, 2, 0, 0, 0, 0, []) : zm_E) := (congrArg (fun l => l[6]?) cd_134).trans rfl
theorem c_134_7 : (zm_cd 134)[7]? = some ((9, .iload_n 2, 1, 2, 0, 0, 0, 0, []) : zm_E) := (congrArg (fun l => l[7]?) cd_134).trans rfl
theorem c_134_8 : (zm_cd 134)[8]? = some ((10, .aload_n 0, 1, 0, 0, 0, 0, 0, []) : zm_E) := (congrArg (fun l => l[8]?) cd_134).trans rfl
theorem c_134_9 : (zm_cd 134)[9]? = some ((11, .getfield 18, 3, 1, 0, 0, 0, 0, []) : zm_E) := (congrArg (fun l => l[9]?) cd_134).trans rfl
theorem c_134_10 : (zm_cd 134)[10]? = some ((14, .if_icmp .ge 33, 3, 25, 0, 0, 0, 0, []) : zm_E) := (congrArg (fun l => l[10]?) cd_134).trans rfl
theorem c_134_11 : (zm_cd 134)[11]? = some ((17, .aload_n 0, 1, 0, 0, 0, 0, 0, []) : zm_E) := (congrArg (fun l => l[11]?) cd_134).trans rfl
theorem c_134_12 : (zm_cd 134)[12]? = some ((18, .getfield 15, 3, 1, 3, 1, 0, 0, []) : zm_E) := (congrArg (fun l => l[12]?) cd_134).trans rfl
theorem c_134_13 : (zm_cd 134)[13]? = some ((21, .iload_n 2, 1, 2, 0, 0, 0, 0, []) : zm_E) := (congrArg (fun l => l[13]?) cd_134).trans rfl
theorem c_134_14 : (zm_cd 134)[14]? = some ((22, .invokestatic 49, 3, 209, 2, 1, 1, 0, []) : zm_E) := (congrArg (fun l => l[14]?) cd_134).trans rfl
theorem c_134_15 : (zm_cd 134)[15]? = some ((25, .iload_n 2, 1, 2, 0, 0, 0, 0, []) : zm_E) := (congrArg (fun l => l[15]?) cd_134).trans rfl
theorem c_134_16 : (zm_cd 134)[16]? = some ((26, .if_icmp .eq 15, 3, 23, 0, 0, 0, 0, []) : zm_E) := (congrArg (fun l => l[16]?) cd_134).trans rfl
theorem c_134_17 : (zm_cd 134)[17]? = some ((29, .aload_n 0, 1, 0, 0, 0, 0, 0, []) : zm_E) := (congrArg (fun l => l[17]?) cd_134).trans rfl
theorem c_134_18 : (zm_cd 134)[18]? = some ((30, .getfield 15, 3, 1, 3, 1, 0, 0, []) : zm_E) := (congrArg (fun l => l[18]?) cd_134).trans rfl
theorem c_134_19 : (zm_cd 134)[19]? = some ((33, .iload_n 2, 1, 2, 0, 0, 0, 0, []) : zm_E) := (congrArg (fun l => l[19]?) cd_134).trans rfl
theorem c_134_20 : (zm_cd 134)[20]? = some ((34, .iload_n 2, 1, 2, 0, 0, 0, 0, []) : zm_E) := (congrArg (fun l => l[20]?) cd_134).trans rfl
theorem c_134_21 : (zm_cd 134)[21]? = some ((35, .invokestatic 57, 3, 210, 3, 0, 1, 0, []) : zm_E) := (congrArg (fun l => l[21]?) cd_134).trans rfl
theorem c_134_22 : (zm_cd 134)[22]? = some ((38, .iinc 1 1, 3, 1, 0, 0, 1, 0, []) : zm_E) := (congrArg (fun l => l[22]?) cd_134).trans rfl
theorem c_134_23 : (zm_cd 134)[23]? = some ((41, .iinc 2 1, 3, 2, 0, 0, 1, 0, []) : zm_E) := (congrArg (fun l => l[23]?) cd_134).trans rfl
theorem c_134_24 : (zm_cd 134)[24]? = some ((44, .goto (-35), 3, 7, 0, 0, 0, 0, []) : zm_E) := (congrArg (fun l => l[24]?) cd_134).trans rfl
theorem c_134_25 : (zm_cd 134)[25]? = some ((47, .iload_n 1, 1, 1, 0, 0, 0, 0, []) : zm_E) := (congrArg (fun l => l[25]?) cd_134).trans rfl
theorem c_134_26 : (zm_cd 134)[26]? = some ((48, .ireturn, 1, 0, 0, 0, 0, 0, []) : zm_E) := (congrArg (fun l => l[26]?) cd_134).trans rfl
theorem cd_135 : zm_cd 135 = zd_135 := rfl
theorem ml_135 : zm_ml 135 = 2 := rfl
theorem ht_135 : zm_ht 135 = [] := rfl
theorem c_135_0 : (zm_cd 135)[0]? = some ((0, .aload_n 0, 1, 0, 0, 0, 0, 0, []) : zm_E) := (congrArg (fun l => l[0]?) cd_135).trans rfl
theorem c_135_1 : (zm_cd 135)[1]? = some ((1, .iload_n 1, 1, 1, 0, 0, 0, 0, []) : zm_E) := (congrArg (fun l => l[1]?) cd_135).trans rfl
theorem c_135_2 : (zm_cd 135)[2]? = some ((2, .putfield 18, 3, 1, 0, 0, 0, 0, []) : zm_E) := (congrArg (fun l => l[2]?) cd_135).trans rfl
theorem c_135_3 : (zm_cd 135)[3]? = some ((5, .aload_n 0, 1, 0, 0, 0, 0, 0, []) : zm_E) := (congrArg (fun l => l[3]?) cd_135).trans rfl
theorem c_135_4 : (zm_cd 135)[4]? = some ((6, .invokevirtual 76, 3, 134, 0, 1, 0, 0, [1]) : zm_E) := (congrArg (fun l => l[4]?) cd_135).trans rfl
theorem c_135_5 : (zm_cd 135)[5]? = some ((9, .pop, 1, 0, 0, 0, 0, 0, []) : zm_E) := (congrArg (fun l => l[5]?) cd_135).trans rfl
theorem c_135_6 : (zm_cd 135)[6]? = some ((10, .return_, 1, 0, 0, 0, 0, 0, []) : zm_E) := (congrArg (fun l => l[6]?) cd_135).trans rfl
theorem cd_136 : zm_cd 136 = zd_136 := rfl
theorem ml_136 : zm_ml 136 = 3 := rfl
theorem ht_136 : zm_ht 136 = [] := rfl
theorem c_136_0 : (zm_cd 136)[0]? = some ((0, .aload_n 0, 1, 0, 0, 0, 0, 0, []) : zm_E) := (congrArg (fun l => l[0]?) cd_136).trans rfl
theorem c_136_1 : (zm_cd 136)[1]? = some ((1, .getfield 18, 3, 1, 0, 0, 0, 0, []) : zm_E) := (congrArg (fun l => l[1]?) cd_136).trans rfl
theorem c_136_2 : (zm_cd 136)[2]? = some ((4, .istore_n 1, 1, 1, 0, 0, 0, 0, []) : zm_E) := (congrArg (fun l => l[2]?) cd_136).trans rfl
theorem c_136_3 : (zm_cd 136)[3]? = some ((5, .aload_n 0, 1, 0, 0, 0, 0, 0, []) : zm_E) := (congrArg (fun l => l[3]?) cd_136).trans rfl
theorem c_136_4 : (zm_cd 136)[4]? = some ((6, .dup, 1, 0, 0, 0, 0, 0, []) : zm_E) := (congrArg (fun l => l[4]?) cd_136).trans rfl
theorem c_136_5 : (zm_cd 136)[5]? = some ((7, .getfield 18, 3, 1, 0, 0, 0, 0, []) : zm_E) := (congrArg (fun l => l[5]?) cd_136).trans rfl
theorem c_136_6 : (zm_cd 136)[6]? = some ((10, .iconst 1, 1, 0, 0, 0, 1, 0, []) : zm_E) := (congrArg (fun l => l[6]?) cd_136).trans rfl
theorem c_136_7 : (zm_cd 136)[7]? = some ((11, .iadd, 1, 0, 0, 0, 0, 0, []) : zm_E) := (congrArg (fun l => l[7]?) cd_136).trans rfl
theorem c_136_8 : (zm_cd 136)[8]? = some ((12, .putfield 18, 3, 1, 0, 0, 0, 0, []) : zm_E) := (congrArg (fun l => l[8]?) cd_136).trans rfl
theorem c_136_9 : (zm_cd 136)[9]? = some ((15, .aload_n 0, 1, 0, 0, 0, 0, 0, []) : zm_E) := (congrArg (fun l => l[9]?) cd_136).trans rfl
theorem c_136_10 : (zm_cd 136)[10]? = some ((16, .getfield 15, 3, 1, 3, 1, 0, 0, []) : zm_E) := (congrArg (fun l => l[10]?) cd_136).trans rfl
theorem c_136_11 : (zm_cd 136)[11]? = some ((19, .iload_n 1, 1, 1, 0, 0, 0, 0, []) : zm_E) := (congrArg (fun l => l[11]?) cd_136).trans rfl
theorem c_136_12 : (zm_cd 136)[12]? = some ((20, .iload_n 1, 1, 1, 0, 0, 0, 0, []) : zm_E) := (congrArg (fun l => l[12]?) cd_136).trans rfl
theorem c_136_13 : (zm_cd 136)[13]? = some ((21, .invokestatic 57, 3, 210, 3, 0, 1, 0, []) : zm_E) := (congrArg (fun l => l[13]?) cd_136).trans rfl
theorem c_136_14 : (zm_cd 136)[14]? = some ((24, .iconst 0, 1, 0, 0, 0, 0, 0, []) : zm_E) := (congrArg (fun l => l[14]?) cd_136).trans rfl
theorem c_136_15 : (zm_cd 136)[15]? = some ((25, .istore_n 2, 1, 2, 0, 0, 0, 0, []) : zm_E) := (congrArg (fun l => l[15]?) cd_136).trans rfl
theorem c_136_16 : (zm_cd 136)[16]? = some ((26, .iload_n 2, 1, 2, 0, 0, 0, 0, []) : zm_E) := (congrArg (fun l => l[16]?) cd_136).trans rfl
theorem c_136_17 : (zm_cd 136)[17]? = some ((27, .iload_n 1, 1, 1, 0, 0, 0, 0, []) : zm_E) := (congrArg (fun l => l[17]?) cd_136).trans rfl
theorem c_136_18 : (zm_cd 136)[18]? = some ((28, .if_icmp .ge 23, 3, 31, 0, 0, 0, 0, []) : zm_E) := (congrArg (fun l => l[18]?) cd_136).trans rfl
theorem c_136_19 : (zm_cd 136)[19]? = some ((31, .aload_n 0, 1, 0, 0, 0, 0, 0, []) : zm_E) := (congrArg (fun l => l[19]?) cd_136).trans rfl
theorem c_136_20 : (zm_cd 136)[20]? = some ((32, .iload_n 1, 1, 1, 0, 0, 0, 0, []) : zm_E) := (congrArg (fun l => l[20]?) cd_136).trans rfl
theorem c_136_21 : (zm_cd 136)[21]? = some ((33, .iload_n 2, 1, 2, 0, 0, 0, 0, []) : zm_E) := (congrArg (fun l => l[21]?) cd_136).trans rfl
theorem c_136_22 : (zm_cd 136)[22]? = some ((34, .iconst 5, 1, 0, 0, 0, 5, 0, []) : zm_E) := (congrArg (fun l => l[22]?) cd_136).trans rfl
theorem c_136_23 : (zm_cd 136)[23]? = some ((35, .invokevirtual 79, 3, 123, 3, 0, 0, 0, [1]) : zm_E) := (congrArg (fun l => l[23]?) cd_136).trans rfl
theorem c_136_24 : (zm_cd 136)[24]? = some ((38, .aload_n 0, 1, 0, 0, 0, 0, 0, []) : zm_E) := (congrArg (fun l => l[24]?) cd_136).trans rfl
theorem c_136_25 : (zm_cd 136)[25]? = some ((39, .iload_n 2, 1, 2, 0, 0, 0, 0, []) : zm_E) := (congrArg (fun l => l[25]?) cd_136).trans rfl
theorem c_136_26 : (zm_cd 136)[26]? = some ((40, .iload_n 1, 1, 1, 0, 0, 0, 0, []) : zm_E) := (congrArg (fun l => l[26]?) cd_136).trans rfl
theorem c_136_27 : (zm_cd 136)[27]? = some ((41, .iconst 5, 1, 0, 0, 0, 5, 0, []) : zm_E) := (congrArg (fun l => l[27]?) cd_136).trans rfl
theorem c_136_28 : (zm_cd 136)[28]? = some ((42, .invokevirtual 79, 3, 123, 3, 0, 0, 0, [1]) : zm_E) := (congrArg (fun l => l[28]?) cd_136).trans rfl
theorem c_136_29 : (zm_cd 136)[29]? = some ((45, .iinc 2 1, 3, 2, 0, 0, 1, 0, []) : zm_E) := (congrArg (fun l => l[29]?) cd_136).trans rfl
theorem c_136_30 : (zm_cd 136)[30]? = some ((48, .goto (-22), 3, 16, 0, 0, 0, 0, []) : zm_E) := (congrArg (fun l => l[30]?) cd_136).trans rfl
theorem c_136_31 : (zm_cd 136)[31]? = some ((51, .aload_n 0, 1, 0, 0, 0, 0, 0, []) : zm_E) := (congrArg (fun l => l[31]?) cd_136).trans rfl
theorem c_136_32 : (zm_cd 136)[32]? = some ((52, .iload_n 1, 1, 1, 0, 0, 0, 0, []) : zm_E) := (congrArg (fun l => l[32]?) cd_136).trans rfl
theorem c_136_33 : (zm_cd 136)[33]? = some ((53, .iload_n 1, 1, 1, 0, 0, 0, 0, []) : zm_E) := (congrArg (fun l => l[33]?) cd_136).trans rfl
theorem c_136_34 : (zm_cd 136)[34]? = some ((54, .bipush 6, 2, 0, 0, 0, 6, 0, []) : zm_E) := (congrArg (fun l => l[34]?) cd_136).trans rfl
theorem c_136_35 : (zm_cd 136)[35]? = some ((56, .invokevirtual 79, 3, 123, 3, 0, 0, 0, [1]) : zm_E) := (congrArg (fun l => l[35]?) cd_136).trans rfl
theorem c_136_36 : (zm_cd 136)[36]? = some ((59, .iload_n 1, 1, 1, 0, 0, 0, 0, []) : zm_E) := (congrArg (fun l => l[36]?) cd_136).trans rfl
theorem c_136_37 : (zm_cd 136)[37]? = some ((60, .ireturn, 1, 0, 0, 0, 0, 0, []) : zm_E) := (congrArg (fun l => l[37]?) cd_136).trans rfl
theorem cd_138 : zm_cd 138 = zd_138 := rfl
theorem ml_138 : zm_ml 138 = 7 := rfl
theorem ht_138 : zm_ht 138 = [] := rfl
theorem c_138_0 : (zm_cd 138)[0]? = some ((0, .aload_n 0, 1, 0, 0, 0, 0, 0, []) : zm_E) := (congrArg (fun l => l[0]?) cd_138).trans rfl
theorem c_138_1 : (zm_cd 138)[1]? = some ((1, .iload_n 1, 1, 1, 0, 0, 0, 0, []) : zm_E) := (congrArg (fun l => l[1]?) cd_138).trans rfl
theorem c_138_2 : (zm_cd 138)[2]? = some ((2, .iconst 4, 1, 0, 0, 0, 4, 0, []) : zm_E) := (congrArg (fun l => l[2]?) cd_138).trans rfl
theorem c_138_3 : (zm_cd 138)[3]? = some ((3, .invokestatic 13, 3, 1003, 2, 1, 0, 0, []) : zm_E) := (congrArg (fun l => l[3]?) cd_138).trans rfl
theorem c_138_4 : (zm_cd 138)[4]? = some ((6, .putfield 19, 3, 2, 1, 0, 0, 0, []) : zm_E) := (congrArg (fun l => l[4]?) cd_138).trans rfl
theorem c_138_5 : (zm_cd 138)[5]? = some ((9, .lload_n 2, 1, 2, 0, 0, 0, 0, []) : zm_E) := (congrArg (fun l => l[5]?) cd_138).trans rfl
theorem c_138_6 : (zm_cd 138)[6]? = some ((10, .lstore 4, 2, 4, 0, 0, 0, 0, []) : zm_E) := (congrArg (fun l => l[6]?) cd_138).trans rfl
theorem c_138_7 : (zm_cd 138)[7]? = some ((12, .aload_n 0, 1, 0, 0, 0, 0, 0, []) : zm_E) := (congrArg (fun l => l[7]?) cd_138).trans rfl
theorem c_138_8 : (zm_cd 138)[8]? = some ((13, .getfield 19, 3, 2, 1, 0, 0, 0, []) : zm_E) := (congrArg (fun l => l[8]?) cd_138).trans rfl
theorem c_138_9 : (zm_cd 138)[9]? = some ((16, .iconst 1, 1, 0, 0, 0, 1, 0, []) : zm_E) := (congrArg (fun l => l[9]?) cd_138).trans rfl
theorem c_138_10 : (zm_cd 138)[10]? = some ((17, .isub, 1, 0, 0, 0, 0, 0, []) : zm_E) := (congrArg (fun l => l[10]?) cd_138).trans rfl
theorem c_138_11 : (zm_cd 138)[11]? = some ((18, .istore 6, 2, 6, 0, 0, 0, 0, []) : zm_E) := (congrArg (fun l => l[11]?) cd_138).trans rfl
theorem c_138_12 : (zm_cd 138)[12]? = some ((20, .iload 6, 2, 6, 0, 0, 0, 0, []) : zm_E) := (congrArg (fun l => l[12]?) cd_138).trans rfl
theorem c_138_13 : (zm_cd 138)[13]? = some ((22, .ifCond .lt 33, 3, 28, 0, 0, 0, 0, []) : zm_E) := (congrArg (fun l => l[13]?) cd_138).trans rfl
theorem c_138_14 : (zm_cd 138)[14]? = some ((25, .aload_n 0, 1, 0, 0, 0, 0, 0, []) : zm_E) := (congrArg (fun l => l[14]?) cd_138).trans rfl
theorem c_138_15 : (zm_cd 138)[15]? = some ((26, .getfield 9, 3, 2, 0, 1, 0, 0, []) : zm_E) := (congrArg (fun l => l[15]?) cd_138).trans rfl
theorem c_138_16 : (zm_cd 138)[16]? = some ((29, .iload 6, 2, 6, 0, 0, 0, 0, []) : zm_E) := (congrArg (fun l => l[16]?) cd_138).trans rfl
theorem c_138_17 : (zm_cd 138)[17]? = some ((31, .lload 4, 2, 4, 0, 0, 0, 0, []) : zm_E) := (congrArg (fun l => l[17]?) cd_138).trans rfl
theorem c_138_18 : (zm_cd 138)[18]? = some ((33, .ldc2_w 23, 3, 0, 0, 0, 0, 10000, []) : zm_E) := (congrArg (fun l => l[18]?) cd_138).trans rfl
theorem c_138_19 : (zm_cd 138)[19]? = some ((36, .lrem, 1, 0, 0, 0, 0, 0, []) : zm_E) := (congrArg (fun l => l[19]?) cd_138).trans rfl
theorem c_138_20 : (zm_cd 138)[20]? = some ((37, .l2i, 1, 0, 0, 0, 0, 0, []) : zm_E) := (congrArg (fun l => l[20]?) cd_138).trans rfl
theorem c_138_21 : (zm_cd 138)[21]? = some ((38, .invokestatic 25, 3, 210, 3, 0, 1, 0, []) : zm_E) := (congrArg (fun l => l[21]?) cd_138).trans rfl
theorem c_138_22 : (zm_cd 138)[22]? = some ((41, .lload 4, 2, 4, 0, 0, 0, 0, []) : zm_E) := (congrArg (fun l => l[22]?) cd_138).trans rfl
theorem c_138_23 : (zm_cd 138)[23]? = some ((43, .ldc2_w 23, 3, 0, 0, 0, 0, 10000, []) : zm_E) := (congrArg (fun l => l[23]?) cd_138).trans rfl
theorem c_138_24 : (zm_cd 138)[24]? = some ((46, .ldiv, 1, 0, 0, 0, 0, 0, []) : zm_E) := (congrArg (fun l => l[24]?) cd_138).trans rfl
theorem c_138_25 : (zm_cd 138)[25]? = some ((47, .lstore 4, 2, 4, 0, 0, 0, 0, []) : zm_E) := (congrArg (fun l => l[25]?) cd_138).trans rfl
theorem c_138_26 : (zm_cd 138)[26]? = some ((49, .iinc 6 (-1), 3, 6, 0, 0, (-1), 0, []) : zm_E) := (congrArg (fun l => l[26]?) cd_138).trans rfl
theorem c_138_27 : (zm_cd 138)[27]? = some ((52, .goto (-32), 3, 12, 0, 0, 0, 0, []) : zm_E) := (congrArg (fun l => l[27]?) cd_138).trans rfl
theorem c_138_28 : (zm_cd 138)[28]? = some ((55, .lload 4, 2, 4, 0, 0, 0, 0, []) : zm_E) := (congrArg (fun l => l[28]?) cd_138).trans rfl
theorem c_138_29 : (zm_cd 138)[29]? = some ((57, .lconst 0, 1, 0, 0, 0, 0, 0, []) : zm_E) := (congrArg (fun l => l[29]?) cd_138).trans rfl
theorem c_138_30 : (zm_cd 138)[30]? = some ((58, .lcmp, 1, 0, 0, 0, 0, 0, []) : zm_E) := (congrArg (fun l => l[30]?) cd_138).trans rfl
theorem c_138_31 : (zm_cd 138)[31]? = some ((59, .ifCond .ne 7, 3, 34, 0, 0, 0, 0, []) : zm_E) := (congrArg (fun l => l[31]?) cd_138).trans rfl
theorem c_138_32 : (zm_cd 138)[32]? = some ((62, .iconst 1, 1, 0, 0, 0, 1, 0, []) : zm_E) := (congrArg (fun l => l[32]?) cd_138).trans rfl
theorem c_138_33 : (zm_cd 138)[33]? = some ((63, .goto 4, 3, 35, 0, 0, 0, 0, []) : zm_E) := (congrArg (fun l => l[33]?) cd_138).trans rfl
theorem c_138_34 : (zm_cd 138)[34]? = some ((66, .iconst 0, 1, 0, 0, 0, 0, 0, []) : zm_E) := (congrArg (fun l => l[34]?) cd_138).trans rfl
theorem c_138_35 : (zm_cd 138)[35]? = some ((67, .ireturn, 1, 1, 0, 0, 0, 0, []) : zm_E) := (congrArg (fun l => l[35]?) cd_138).trans rfl
theorem cd_139 : zm_cd 139 = zd_139 := rfl
theorem ml_139 : zm_ml 139 = 9 := rfl
theorem ht_139 : zm_ht 139 = [] := rfl
theorem c_139_0 : (zm_cd 139)[0]? = some ((0, .iload_n 1, 1, 1, 0, 0, 0, 0, []) : zm_E) := (congrArg (fun l => l[0]?) cd_139).trans rfl
theorem c_139_1 : (zm_cd 139)[1]? = some ((1, .ifCond .lt 22, 3, 11, 0, 0, 0, 0, []) : zm_E) := (congrArg (fun l => l[1]?) cd_139).trans rfl
theorem c_139_2 : (zm_cd 139)[2]? = some ((4, .iload_n 1, 1, 1, 0, 0, 0, 0, []) : zm_E) := (congrArg (fun l => l[2]?) cd_139).trans rfl
theorem c_139_3 : (zm_cd 139)[3]? = some ((5, .aload_n 0, 1, 0, 0, 0, 0, 0, []) : zm_E) := (congrArg (fun l => l[3]?) cd_139).trans rfl
theorem c_139_4 : (zm_cd 139)[4]? = some ((6, .getfield 19, 3, 2, 1, 0, 0, 0, []) : zm_E) := (congrArg (fun l => l[4]?) cd_139).trans rfl
theorem c_139_5 : (zm_cd 139)[5]? = some ((9, .if_icmp .ge 14, 3, 11, 0, 0, 0, 0, []) : zm_E) := (congrArg (fun l => l[5]?) cd_139).trans rfl
theorem c_139_6 : (zm_cd 139)[6]? = some ((12, .aload_n 0, 1, 0, 0, 0, 0, 0, []) : zm_E) := (congrArg (fun l => l[6]?) cd_139).trans rfl
theorem c_139_7 : (zm_cd 139)[7]? = some ((13, .getfield 9, 3, 2, 0, 1, 0, 0, []) : zm_E) := (congrArg (fun l => l[7]?) cd_139).trans rfl
theorem c_139_8 : (zm_cd 139)[8]? = some ((16, .iload_n 1, 1, 1, 0, 0, 0, 0, []) : zm_E) := (congrArg (fun l => l[8]?) cd_139).trans rfl
theorem c_139_9 : (zm_cd 139)[9]? = some ((17, .invokestatic 31, 3, 209, 2, 1, 1, 0, []) : zm_E) := (congrArg (fun l => l[9]?) cd_139).trans rfl
theorem c_139_10 : (zm_cd 139)[10]? = some ((20, .goto 4, 3, 12, 0, 0, 0, 0, []) : zm_E) := (congrArg (fun l => l[10]?) cd_139).trans rfl
theorem c_139_11 : (zm_cd 139)[11]? = some ((23, .iconst 0, 1, 0, 0, 0, 0, 0, []) : zm_E) := (congrArg (fun l => l[11]?) cd_139).trans rfl
theorem c_139_12 : (zm_cd 139)[12]? = some ((24, .istore 5, 2, 5, 0, 0, 0, 0, []) : zm_E) := (congrArg (fun l => l[12]?) cd_139).trans rfl
theorem c_139_13 : (zm_cd 139)[13]? = some ((26, .iload 5, 2, 5, 0, 0, 0, 0, []) : zm_E) := (congrArg (fun l => l[13]?) cd_139).trans rfl
theorem c_139_14 : (zm_cd 139)[14]? = some ((28, .bipush 100, 2, 0, 0, 0, 100, 0, []) : zm_E) := (congrArg (fun l => l[14]?) cd_139).trans rfl
theorem c_139_15 : (zm_cd 139)[15]? = some ((30, .idiv, 1, 0, 0, 0, 0, 0, []) : zm_E) := (congrArg (fun l => l[15]?) cd_139).trans rfl
theorem c_139_16 : (zm_cd 139)[16]? = some ((31, .bipush 10, 2, 0, 0, 0, 10, 0, []) : zm_E) := (congrArg (fun l => l[16]?) cd_139).trans rfl
theorem c_139_17 : (zm_cd 139)[17]? = some ((33, .irem, 1, 0, 0, 0, 0, 0, []) : zm_E) := (congrArg (fun l => l[17]?) cd_139).trans rfl
theorem c_139_18 : (zm_cd 139)[18]? = some ((34, .istore 6, 2, 6, 0, 0, 0, 0, []) : zm_E) := (congrArg (fun l => l[18]?) cd_139).trans rfl
theorem c_139_19 : (zm_cd 139)[19]? = some ((36, .iload 5, 2, 5, 0, 0, 0, 0, []) : zm_E) := (congrArg (fun l => l[19]?) cd_139).trans rfl
theorem c_139_20 : (zm_cd 139)[20]? = some ((38, .bipush 10, 2, 0, 0, 0, 10, 0, []) : zm_E) := (congrArg (fun l => l[20]?) cd_139).trans rfl
theorem c_139_21 : (zm_cd 139)[21]? = some ((40, .idiv, 1, 0, 0, 0, 0, 0, []) : zm_E) := (congrArg (fun l => l[21]?) cd_139).trans rfl
theorem c_139_22 : (zm_cd 139)[22]? = some ((41, .bipush 10, 2, 0, 0, 0, 10, 0, []) : zm_E) := (congrArg (fun l => l[22]?) cd_139).trans rfl
theorem c_139_23 : (zm_cd 139)[23]? = some ((43, .irem, 1, 0, 0, 0, 0, 0, []) : zm_E) := (congrArg (fun l => l[23]?) cd_139).trans rfl
theorem c_139_24 : (zm_cd 139)[24]? = some ((44, .istore 7, 2, 7, 0, 0, 0, 0, []) : zm_E) := (congrArg (fun l => l[24]?) cd_139).trans rfl
theorem c_139_25 : (zm_cd 139)[25]? = some ((46, .iload 5, 2, 5, 0, 0, 0, 0, []) : zm_E) := (congrArg (fun l => l[25]?) cd_139).trans rfl
theorem c_139_26 : (zm_cd 139)[26]? = some ((48, .bipush 10, 2, 0, 0, 0, 10, 0, []) : zm_E) := (congrArg (fun l => l[26]?) cd_139).trans rfl
theorem c_139_27 : (zm_cd 139)[27]? = some ((50, .irem, 1, 0, 0, 0, 0, 0, []) : zm_E) := (congrArg (fun l => l[27]?) cd_139).trans rfl
theorem c_139_28 : (zm_cd 139)[28]? = some ((51, .istore 8, 2, 8, 0, 0, 0, 0, []) : zm_E) := (congrArg (fun l => l[28]?) cd_139).trans rfl
theorem c_139_29 : (zm_cd 139)[29]? = some ((53, .iload 5, 2, 5, 0, 0, 0, 0, []) : zm_E) := (congrArg (fun l => l[29]?) cd_139).trans rfl
theorem c_139_30 : (zm_cd 139)[30]? = some ((55, .sipush 1000, 3, 0, 0, 0, 1000, 0, []) : zm_E) := (congrArg (fun l => l[30]?) cd_139).trans rfl
theorem c_139_31 : (zm_cd 139)[31]? = some ((58, .idiv, 1, 0, 0, 0, 0, 0, []) : zm_E) := (congrArg (fun l => l[31]?) cd_139).trans rfl
theorem c_139_32 : (zm_cd 139)[32]? = some ((59, .tableswitch 298 1 9 #[49, 71, 97, 126, 151, 162, 190, 233, 259], 49, 156, 0, 0, 1, 0, [33, 44, 57, 71, 83, 89, 102, 122, 136]) : zm_E) := (congrArg (fun l => l[32]?) cd_139).trans rfl
theorem c_139_33 : (zm_cd 139)[33]? = some ((108, .iload 8, 2, 8, 0, 0, 0, 0, []) : zm_E) := (congrArg (fun l => l[33]?) cd_139).trans rfl
theorem c_139_34 : (zm_cd 139)[34]? = some ((110, .ifCond .ne 18, 3, 42, 0, 0, 0, 0, []) : zm_E) := (congrArg (fun l => l[34]?) cd_139).trans rfl
theorem c_139_35 : (zm_cd 139)[35]? = some ((113, .aload_n 2, 1, 2, 0, 0, 0, 0, []) : zm_E) := (congrArg (fun l => l[35]?) cd_139).trans rfl
theorem c_139_36 : (zm_cd 139)[36]? = some ((114, .iload 6, 2, 6, 0, 0, 0, 0, []) : zm_E) := (congrArg (fun l => l[36]?) cd_139).trans rfl
theorem c_139_37 : (zm_cd 139)[37]? = some ((116, .iload 7, 2, 7, 0, 0, 0, 0, []) : zm_E) := (congrArg (fun l => l[37]?) cd_139).trans rfl
theorem c_139_38 : (zm_cd 139)[38]? = some ((118, .invokestatic 35, 3, 140, 3, 1, 0, 0, []) : zm_E) := (congrArg (fun l => l[38]?) cd_139).trans rfl
theorem c_139_39 : (zm_cd 139)[39]? = some ((121, .ifCond .eq 7, 3, 42, 0, 0, 0, 0, []) : zm_E) := (congrArg (fun l => l[39]?) cd_139).trans rfl
theorem c_139_40 : (zm_cd 139)[40]? = some ((124, .iconst 1, 1, 0, 0, 0, 1, 0, []) : zm_E) := (congrArg (fun l => l[40]?) cd_139).trans rfl
theorem c_139_41 : (zm_cd 139)[41]? = some ((125, .goto 4, 3, 43, 0, 0, 0, 0, []) : zm_E) := (congrArg (fun l => l[41]?) cd_139).trans rfl
theorem c_139_42 : (zm_cd 139)[42]? = some ((128, .iconst 0, 1, 0, 0, 0, 0, 0, []) : zm_E) := (congrArg (fun l => l[42]?) cd_139).trans rfl
theorem c_139_43 : (zm_cd 139)[43]? = some ((129, .ireturn, 1, 1, 0, 0, 0, 0, []) : zm_E) := (congrArg (fun l => l[43]?) cd_139).trans rfl
theorem c_139_44 : (zm_cd 139)[44]? = some ((130, .iload 7, 2, 7, 0, 0, 0, 0, []) : zm_E) := (congrArg (fun l => l[44]?) cd_139).trans rfl
theorem c_139_45 : (zm_cd 139)[45]? = some ((132, .ifCond .ne 22, 3, 55, 0, 0, 0, 0, []) : zm_E) := (congrArg (fun l => l[45]?) cd_139).trans rfl
theorem c_139_46 : (zm_cd 139)[46]? = some ((135, .iload 8, 2, 8, 0, 0, 0, 0, []) : zm_E) := (congrArg (fun l => l[46]?) cd_139).trans rfl
theorem c_139_47 : (zm_cd 139)[47]? = some ((137, .ifCond .ne 17, 3, 55, 0, 0, 0, 0, []) : zm_E) := (congrArg (fun l => l[47]?) cd_139).trans rfl
theorem c_139_48 : (zm_cd 139)[48]? = some ((140, .aload_n 2, 1, 2, 0, 0, 0, 0, []) : zm_E) := (congrArg (fun l => l[48]?) cd_139).trans rfl
theorem c_139_49 : (zm_cd 139)[49]? = some ((141, .aload_n 3, 1, 3, 0, 0, 0, 0, []) : zm_E) := (congrArg (fun l => l[49]?) cd_139).trans rfl
theorem c_139_50 : (zm_cd 139)[50]? = some ((142, .iload 6, 2, 6, 0, 0, 0, 0, []) : zm_E) := (congrArg (fun l => l[50]?) cd_139).trans rfl
theorem c_139_51 : (zm_cd 139)[51]? = some ((144, .invokestatic 39, 3, 141, 3, 1, 0, 0, []) : zm_E) := (congrArg (fun l => l[51]?) cd_139).trans rfl
theorem c_139_52 : (zm_cd 139)[52]? = some ((147, .ifCond .eq 7, 3, 55, 0, 0, 0, 0, []) : zm_E) := (congrArg (fun l => l[52]?) cd_139).trans rfl
theorem c_139_53 : (zm_cd 139)[53]? = some ((150, .iconst 1, 1, 0, 0, 0, 1, 0, []) : zm_E) := (congrArg (fun l => l[53]?) cd_139).trans rfl
theorem c_139_54 : (zm_cd 139)[54]? = some ((151, .goto 4, 3, 56, 0, 0, 0, 0, []) : zm_E) := (congrArg (fun l => l[54]?) cd_139).trans rfl
theorem c_139_55 : (zm_cd 139)[55]? = some ((154, .iconst 0, 1, 0, 0, 0, 0, 0, []) : zm_E) := (congrArg (fun l => l[55]?) cd_139).trans rfl
theorem c_139_56 : (zm_cd 139)[56]? = some ((155, .ireturn, 1, 1, 0, 0, 0, 0, []) : zm_E) := (congrArg (fun l => l[56]?) cd_139).trans rfl
theorem c_139_57 : (zm_cd 139)[57]? = some ((156, .iload 6, 2, 6, 0, 0, 0, 0, []) : zm_E) := (congrArg (fun l => l[57]?) cd_139).trans rfl
theorem c_139_58 : (zm_cd 139)[58]? = some ((158, .ifCond .ne 25, 3, 69, 0, 0, 0, 0, []) : zm_E) := (congrArg (fun l => l[58]?) cd_139).trans rfl
theorem c_139_59 : (zm_cd 139)[59]? = some ((161, .iload 7, 2, 7, 0, 0, 0, 0, []) : zm_E) := (congrArg (fun l => l[59]?) cd_139).trans rfl
theorem c_139_60 : (zm_cd 139)[60]? = some ((163, .ifCond .ne 20, 3, 69, 0, 0, 0, 0, []) : zm_E) := (congrArg (fun l => l[60]?) cd_139).trans rfl
theorem c_139_61 : (zm_cd 139)[61]? = some ((166, .iload 8, 2, 8, 0, 0, 0, 0, []) : zm_E) := (congrArg (fun l => l[61]?) cd_139).trans rfl
theorem c_139_62 : (zm_cd 139)[62]? = some ((168, .ifCond .ne 15, 3, 69, 0, 0, 0, 0, []) : zm_E) := (congrArg (fun l => l[62]?) cd_139).trans rfl
theorem c_139_63 : (zm_cd 139)[63]? = some ((171, .aload_n 2, 1, 2, 0, 0, 0, 0, []) : zm_E) := (congrArg (fun l => l[63]?) cd_139).trans rfl
theorem c_139_64 : (zm_cd 139)[64]? = some ((172, .aload_n 3, 1, 3, 0, 0, 0, 0, []) : zm_E) := (congrArg (fun l => l[64]?) cd_139).trans rfl
theorem c_139_65 : (zm_cd 139)[65]? = some ((173, .invokestatic 43, 3, 142, 2, 1, 0, 0, []) : zm_E) := (congrArg (fun l => l[65]?) cd_139).trans rfl
theorem c_139_66 : (zm_cd 139)[66]? = some ((176, .ifCond .eq 7, 3, 69, 0, 0, 0, 0, []) : zm_E) := (congrArg (fun l => l[66]?) cd_139).trans rfl
theorem c_139_67 : (zm_cd 139)[67]? = some ((179, .iconst 1, 1, 0, 0, 0, 1, 0, []) : zm_E) := (congrArg (fun l => l[67]?) cd_139).trans rfl
theorem c_139_68 : (zm_cd 139)[68]? = some ((180, .goto 4, 3, 70, 0, 0, 0, 0, []) : zm_E) := (congrArg (fun l => l[68]?) cd_139).trans rfl
theorem c_139_69 : (zm_cd 139)[69]? = some ((183, .iconst 0, 1, 0, 0, 0, 0, 0, []) : zm_E) := (congrArg (fun l => l[69]?) cd_139).trans rfl
theorem c_139_70 : (zm_cd 139)[70]? = some ((184, .ireturn, 1, 1, 0, 0, 0, 0, []) : zm_E) := (congrArg (fun l => l[70]?) cd_139).trans rfl
theorem c_139_71 : (zm_cd 139)[71]? = some ((185, .iload 7, 2, 7, 0, 0, 0, 0, []) : zm_E) := (congrArg (fun l => l[71]?) cd_139).trans rfl
theorem c_139_72 : (zm_cd 139)[72]? = some ((187, .ifCond .ne 21, 3, 81, 0, 0, 0, 0, []) : zm_E) := (congrArg (fun l => l[72]?) cd_139).trans rfl
theorem c_139_73 : (zm_cd 139)[73]? = some ((190, .iload 8, 2, 8, 0, 0, 0, 0, []) : zm_E) := (congrArg (fun l => l[73]?) cd_139).trans rfl
theorem c_139_74 : (zm_cd 139)[74]? = some ((192, .ifCond .ne 16, 3, 81, 0, 0, 0, 0, []) : zm_E) := (congrArg (fun l => l[74]?) cd_139).trans rfl
theorem c_139_75 : (zm_cd 139)[75]? = some ((195, .aload_n 2, 1, 2, 0, 0, 0, 0, []) : zm_E) := (congrArg (fun l => l[75]?) cd_139).trans rfl
theorem c_139_76 : (zm_cd 139)[76]? = some ((196, .iload 6, 2, 6, 0, 0, 0, 0, []) : zm_E) := (congrArg (fun l => l[76]?) cd_139).trans rfl
theorem c_139_77 : (zm_cd 139)[77]? = some ((198, .invokestatic 47, 3, 143, 2, 1, 0, 0, []) : zm_E) := (congrArg (fun l => l[77]?) cd_139).trans rfl
theorem c_139_78 : (zm_cd 139)[78]? = some ((201, .ifCond .eq 7, 3, 81, 0, 0, 0, 0, []) : zm_E) := (congrArg (fun l => l[78]?) cd_139).trans rfl
theorem c_139_79 : (zm_cd 139)[79]? = some ((204, .iconst 1, 1, 0, 0, 0, 1, 0, []) : zm_E) := (congrArg (fun l => l[79]?) cd_139).trans rfl
theorem c_139_80 : (zm_cd 139)[80]? = some ((205, .goto 4, 3, 82, 0, 0, 0, 0, []) : zm_E) := (congrArg (fun l => l[80]?) cd_139).trans rfl
theorem c_139_81 : (zm_cd 139)[81]? = some ((208, .iconst 0, 1, 0, 0, 0, 0, 0, []) : zm_E) := (congrArg (fun l => l[81]?) cd_139).trans rfl
theorem c_139_82 : (zm_cd 139)[82]? = some ((209, .ireturn, 1, 1, 0, 0, 0, 0, []) : zm_E) := (congrArg (fun l => l[82]?) cd_139).trans rfl
theorem c_139_83 : (zm_cd 139)[83]? = some ((210, .aload_n 2, 1, 2, 0, 0, 0, 0, []) : zm_E) := (congrArg (fun l => l[83]?) cd_139).trans rfl
theorem c_139_84 : (zm_cd 139)[84]? = some ((211, .iload 6, 2, 6, 0, 0, 0, 0, []) : zm_E) := (congrArg (fun l => l[84]?) cd_139).trans rfl
theorem c_139_85 : (zm_cd 139)[85]? = some ((213, .iload 7, 2, 7, 0, 0, 0, 0, []) : zm_E) := (congrArg (fun l => l[85]?) cd_139).trans rfl
theorem c_139_86 : (zm_cd 139)[86]? = some ((215, .iload 8, 2, 8, 0, 0, 0, 0, []) : zm_E) := (congrArg (fun l => l[86]?) cd_139).trans rfl
theorem c_139_87 : (zm_cd 139)[87]? = some ((217, .invokestatic 51, 3, 144, 4, 1, 0, 0, []) : zm_E) := (congrArg (fun l => l[87]?) cd_139).trans rfl
theorem c_139_88 : (zm_cd 139)[88]? = some ((220, .ireturn, 1, 1, 0, 0, 0, 0, []) : zm_E) := (congrArg (fun l => l[88]?) cd_139).trans rfl
theorem c_139_89 : (zm_cd 139)[89]? = some ((221, .iload 6, 2, 6, 0, 0, 0, 0, []) : zm_E) := (congrArg (fun l => l[89]?) cd_139).trans rfl
theorem c_139_90 : (zm_cd 139)[90]? = some ((223, .ifCond .ne 24, 3, 100, 0, 0, 0, 0, []) : zm_E) := (congrArg (fun l => l[90]?) cd_139).trans rfl
theorem c_139_91 : (zm_cd 139)[91]? = some ((226, .iload 7, 2, 7, 0, 0, 0, 0, []) : zm_E) := (congrArg (fun l => l[91]?) cd_139).trans rfl
theorem c_139_92 : (zm_cd 139)[92]? = some ((228, .ifCond .ne 19, 3, 100, 0, 0, 0, 0, []) : zm_E) := (congrArg (fun l => l[92]?) cd_139).trans rfl
theorem c_139_93 : (zm_cd 139)[93]? = some ((231, .iload 8, 2, 8, 0, 0, 0, 0, []) : zm_E) := (congrArg (fun l => l[93]?) cd_139).trans rfl
theorem c_139_94 : (zm_cd 139)[94]? = some ((233, .ifCond .ne 14, 3, 100, 0, 0, 0, 0, []) : zm_E) := (congrArg (fun l => l[94]?) cd_139).trans rfl
theorem c_139_95 : (zm_cd 139)[95]? = some ((236, .aload_n 2, 1, 2, 0, 0, 0, 0, []) : zm_E) := (congrArg (fun l => l[95]?) cd_139).trans rfl
theorem c_139_96 : (zm_cd 139)[96]? = some ((237, .invokestatic 55, 3, 145, 1, 1, 0, 0, []) : zm_E) := (congrArg (fun l => l[96]?) cd_139).trans rfl
theorem c_139_97 : (zm_cd 139)[97]? = some ((240, .ifCond .eq 7, 3, 100, 0, 0, 0, 0, []) : zm_E) := (congrArg (fun l => l[97]?) cd_139).trans rfl
theorem c_139_98 : (zm_cd 139)[98]? = some ((243, .iconst 1, 1, 0, 0, 0, 1, 0, []) : zm_E) := (congrArg (fun l => l[98]?) cd_139).trans rfl
theorem c_139_99 : (zm_cd 139)[99]? = some ((244, .goto 4, 3, 101, 0, 0, 0, 0, []) : zm_E) := (congrArg (fun l => l[99]?) cd_139).trans rfl
theorem c_139_100 : (zm_cd 139)[100]? = some ((247, .iconst 0, 1, 0, 0, 0, 0, 0, []) : zm_E) := (congrArg (fun l => l[100]?) cd_139).trans rfl
theorem c_139_101 : (zm_cd 139)[101]? = some ((248, .ireturn, 1, 1, 0, 0, 0, 0, []) : zm_E) := (congrArg (fun l => l[101]?) cd_139).trans rfl
theorem c_139_102 : (zm_cd 139)[102]? = some ((249, .iload 8, 2, 8, 0, 0, 0, 0, []) : zm_E) := (congrArg (fun l => l[102]?) cd_139).trans rfl
theorem c_139_103 : (zm_cd 139)[103]? = some ((251, .ifCond .ne 39, 3, 120, 0, 0, 0, 0, []) : zm_E) := (congrArg (fun l => l[103]?) cd_139).trans rfl
theorem c_139_104 : (zm_cd 139)[104]? = some ((254, .aload_n 2, 1, 2, 0, 0, 0, 0, []) : zm_E) := (congrArg (fun l => l[104]?) cd_139).trans rfl
theorem c_139_105 : (zm_cd 139)[105]? = some ((255, .iload 6, 2, 6, 0, 0, 0, 0, []) : zm_E) := (congrArg (fun l => l[105]?) cd_139).trans rfl
theorem c_139_106 : (zm_cd 139)[106]? = some ((257, .invokevirtual 59, 3, 116, 1, 1, 0, 0, [1]) : zm_E) := (congrArg (fun l => l[106]?) cd_139).trans rfl
theorem c_139_107 : (zm_cd 139)[107]? = some ((260, .ifCond .eq 30, 3, 120, 0, 0, 0, 0, []) : zm_E) := (congrArg (fun l => l[107]?) cd_139).trans rfl
theorem c_139_108 : (zm_cd 139)[108]? = some ((263, .aload_n 2, 1, 2, 0, 0, 0, 0, []) : zm_E) := (congrArg (fun l => l[108]?) cd_139).trans rfl
theorem c_139_109 : (zm_cd 139)[109]? = some ((264, .iload 7, 2, 7, 0, 0, 0, 0, []) : zm_E) := (congrArg (fun l => l[109]?) cd_139).trans rfl
theorem c_139_110 : (zm_cd 139)[110]? = some ((266, .invokevirtual 59, 3, 116, 1, 1, 0, 0, [1]) : zm_E) := (congrArg (fun l => l[110]?) cd_139).trans rfl
theorem c_139_111 : (zm_cd 139)[111]? = some ((269, .ifCond .eq 21, 3, 120, 0, 0, 0, 0, []) : zm_E) := (congrArg (fun l => l[111]?) cd_139).trans rfl
theorem c_139_112 : (zm_cd 139)[112]? = some ((272, .aload_n 2, 1, 2, 0, 0, 0, 0, []) : zm_E) := (congrArg (fun l => l[112]?) cd_139).trans rfl
theorem c_139_113 : (zm_cd 139)[113]? = some ((273, .getfield 65, 3, 1, 3, 1, 0, 0, []) : zm_E) := (congrArg (fun l => l[113]?) cd_139).trans rfl
theorem c_139_114 : (zm_cd 139)[114]? = some ((276, .iload 6, 2, 6, 0, 0, 0, 0, []) : zm_E) := (congrArg (fun l => l[114]?) cd_139).trans rfl
theorem c_139_115 : (zm_cd 139)[115]? = some ((278, .invokestatic 31, 3, 209, 2, 1, 1, 0, []) : zm_E) := (congrArg (fun l => l[115]?) cd_139).trans rfl
theorem c_139_116 : (zm_cd 139)[116]? = some ((281, .iload 7, 2, 7, 0, 0, 0, 0, []) : zm_E) := (congrArg (fun l => l[116]?) cd_139).trans rfl
theorem c_139_117 : (zm_cd 139)[117]? = some ((283, .if_icmp .ne 7, 3, 120, 0, 0, 0, 0, []) : zm_E) := (congrArg (fun l => l[117]?) cd_139).trans rfl
theorem c_139_118 : (zm_cd 139)[118]? = some ((286, .iconst 1, 1, 0, 0, 0, 1, 0, []) : zm_E) := (congrArg (fun l => l[118]?) cd_139).trans rfl
theorem c_139_119 : (zm_cd 139)[119]? = some ((287, .goto 4, 3, 121, 0, 0, 0, 0, []) : zm_E) := (congrArg (fun l => l[119]?) cd_139).trans rfl
theorem c_139_120 : (zm_cd 139)[120]? = some ((290, .iconst 0, 1, 0, 0, 0, 0, 0, []) : zm_E) := (congrArg (fun l => l[120]?) cd_139).trans rfl
theorem c_139_121 : (zm_cd 139)[121]? = some ((291, .ireturn, 1, 1, 0, 0, 0, 0, []) : zm_E) := (congrArg (fun l => l[121]?) cd_139).trans rfl
theorem c_139_122 : (zm_cd 139)[122]? = some ((292, .iload 6, 2, 6, 0, 0, 0, 0, []) : zm_E) := (congrArg (fun l => l[122]?) cd_139).trans rfl
theorem c_139_123 : (zm_cd 139)[123]? = some ((294, .ifCond .ne 22, 3, 134, 0, 0, 0, 0, []) : zm_E) := (congrArg (fun l => l[123]?) cd_139).trans rfl
theorem c_139_124 : (zm_cd 139)[124]? = some ((297, .aload_n 2, 1, 2, 0, 0, 0, 0, []) : zm_E) := (congrArg (fun l => l[124]?) cd_139).trans rfl
theorem c_139_125 : (zm_cd 139)[125]? = some ((298, .invokevirtual 68, 3, 128, 0, 1, 0, 0, [1]) : zm_E) := (congrArg (fun l => l[125]?) cd_139).trans rfl
theorem c_139_126 : (zm_cd 139)[126]? = some ((301, .iload 7, 2, 7, 0, 0, 0, 0, []) : zm_E) := (congrArg (fun l => l[126]?) cd_139).trans rfl
theorem c_139_127 : (zm_cd 139)[127]? = some ((303, .bipush 10, 2, 0, 0, 0, 10, 0, []) : zm_E) := (congrArg (fun l => l[127]?) cd_139).trans rfl
theorem c_139_128 : (zm_cd 139)[128]? = some ((305, .imul, 1, 0, 0, 0, 0, 0, []) : zm_E) := (congrArg (fun l => l[128]?) cd_139).trans rfl
theorem c_139_129 : (zm_cd 139)[129]? = some ((306, .iload 8, 2, 8, 0, 0, 0, 0, []) : zm_E) := (congrArg (fun l => l[129]?) cd_139).trans rfl
theorem c_139_130 : (zm_cd 139)[130]? = some ((308, .iadd, 1, 0, 0, 0, 0, 0, []) : zm_E) := (congrArg (fun l => l[130]?) cd_139).trans rfl
theorem c_139_131 : (zm_cd 139)[131]? = some ((309, .if_icmp .gt 7, 3, 134, 0, 0, 0, 0, []) : zm_E) := (congrArg (fun l => l[131]?) cd_139).trans rfl
theorem c_139_132 : (zm_cd 139)[132]? = some ((312, .iconst 1, 1, 0, 0, 0, 1, 0, []) : zm_E) := (congrArg (fun l => l[132]?) cd_139).trans rfl
theorem c_139_133 : (zm_cd 139)[133]? = some ((313, .goto 4, 3, 135, 0, 0, 0, 0, []) : zm_E) := (congrArg (fun l => l[133]?) cd_139).trans rfl
theorem c_139_134 : (zm_cd 139)[134]? = some ((316, .iconst 0, 1, 0, 0, 0, 0, 0, []) : zm_E) := (congrArg (fun l => l[134]?) cd_139).trans rfl
theorem c_139_135 : (zm_cd 139)[135]? = some ((317, .ireturn, 1, 1, 0, 0, 0, 0, []) : zm_E) := (congrArg (fun l => l[135]?) cd_139).trans rfl
theorem c_139_136 : (zm_cd 139)[136]? = some ((318, .iload 6, 2, 6, 0, 0, 0, 0, []) : zm_E) := (congrArg (fun l => l[136]?) cd_139).trans rfl
theorem c_139_137 : (zm_cd 139)[137]? = some ((320, .ifCond .ne 35, 3, 154, 0, 0, 0, 0, []) : zm_E) := (congrArg (fun l => l[137]?) cd_139).trans rfl
theorem c_139_138 : (zm_cd 139)[138]? = some ((323, .iload 7, 2, 7, 0, 0, 0, 0, []) : zm_E) := (congrArg (fun l => l[138]?) cd_139).trans rfl
theorem c_139_139 : (zm_cd 139)[139]? = some ((325, .iconst 1, 1, 0, 0, 0, 1, 0, []) : zm_E) := (congrArg (fun l => l[139]?) cd_139).trans rfl
theorem c_139_140 : (zm_cd 139)[140]? = some ((326, .if_icmp .gt 29, 3, 154, 0, 0, 0, 0, []) : zm_E) := (congrArg (fun l => l[140]?) cd_139).trans rfl
theorem c_139_141 : (zm_cd 139)[141]? = some ((329, .aload 4, 2, 4, 0, 0, 0, 0, []) : zm_E) := (congrArg (fun l => l[141]?) cd_139).trans rfl
theorem c_139_142 : (zm_cd 139)[142]? = some ((331, .aload_n 2, 1, 2, 0, 0, 0, 0, []) : zm_E) := (congrArg (fun l => l[142]?) cd_139).trans rfl
theorem c_139_143 : (zm_cd 139)[143]? = some ((332, .iload 7, 2, 7, 0, 0, 0, 0, []) : zm_E) := (congrArg (fun l => l[143]?) cd_139).trans rfl
theorem c_139_144 : (zm_cd 139)[144]? = some ((334, .iconst 1, 1, 0, 0, 0, 1, 0, []) : zm_E) := (congrArg (fun l => l[144]?) cd_139).trans rfl
theorem c_139_145 : (zm_cd 139)[145]? = some ((335, .if_icmp .ne 7, 3, 148, 0, 0, 0, 0, []) : zm_E) := (congrArg (fun l => l[145]?) cd_139).trans rfl
theorem c_139_146 : (zm_cd 139)[146]? = some ((338, .iconst 1, 1, 0, 0, 0, 1, 0, []) : zm_E) := (congrArg (fun l => l[146]?) cd_139).trans rfl
theorem c_139_147 : (zm_cd 139)[147]? = some ((339, .goto 4, 3, 149, 0, 0, 0, 0, []) : zm_E) := (congrArg (fun l => l[147]?) cd_139).trans rfl
theorem c_139_148 : (zm_cd 139)[148]? = some ((342, .iconst 0, 1, 0, 0, 0, 0, 0, []) : zm_E) := (congrArg (fun l => l[148]?) cd_139).trans rfl
theorem c_139_149 : (zm_cd 139)[149]? = some ((343, .invokevirtual 72, 3, 155, 2, 1, 0, 0, [4]) : zm_E) := (congrArg (fun l => l[149]?) cd_139).trans rfl
theorem c_139_150 : (zm_cd 139)[150]? = some ((346, .iload 8, 2, 8, 0, 0, 0, 0, []) : zm_E) := (congrArg (fun l => l[150]?) cd_139).trans rfl
theorem c_139_151 : (zm_cd 139)[151]? = some ((348, .if_icmp .gt 7, 3, 154, 0, 0, 0, 0, []) : zm_E) := (congrArg (fun l => l[151]?) cd_139).trans rfl
theorem c_139_152 : (zm_cd 139)[152]? = some ((351, .iconst 1, 1, 0, 0, 0, 1, 0, []) : zm_E) := (congrArg (fun l => l[152]?) cd_139).trans rfl
theorem c_139_153 : (zm_cd 139)[153]? = some ((352, .goto 4, 3, 155, 0, 0, 0, 0, []) : zm_E) := (congrArg (fun l => l[153]?) cd_139).trans rfl
theorem c_139_154 : (zm_cd 139)[154]? = some ((355, .iconst 0, 1, 0, 0, 0, 0, 0, []) : zm_E) := (congrArg (fun l => l[154]?) cd_139).trans rfl
theorem c_139_155 : (zm_cd 139)[155]? = some ((356, .ireturn, 1, 1, 0, 0, 0, 0, []) : zm_E) := (congrArg (fun l => l[155]?) cd_139).trans rfl
theorem c_139_156 : (zm_cd 139)[156]? = some ((357, .iconst 0, 1, 0, 0, 0, 0, 0, []) : zm_E) := (congrArg (fun l => l[156]?) cd_139).trans rfl
theorem c_139_157 : (zm_cd 139)[157]? = some ((358, .ireturn, 1, 1, 0, 0, 0, 0, []) : zm_E) := (congrArg (fun l => l[157]?) cd_139).trans rfl
theorem cd_140 : zm_cd 140 = zd_140 := rfl
theorem ml_140 : zm_ml 140 = 3 := rfl
theorem ht_140 : zm_ht 140 = [] := rfl
theorem c_140_0 : (zm_cd 140)[0]? = some ((0, .aload_n 0, 1, 0, 0, 0, 0, 0, []) : zm_E) := (congrArg (fun l => l[0]?) cd_140).trans rfl
theorem c_140_1 : (zm_cd 140)[1]? = some ((1, .iload_n 1, 1, 1, 0, 0, 0, 0, []) : zm_E) := (congrArg (fun l => l[1]?) cd_140).trans rfl
theorem c_140_2 : (zm_cd 140)[2]? = some ((2, .invokevirtual 59, 3, 116, 1, 1, 0, 0, [1]) : zm_E) := (congrArg (fun l => l[2]?) cd_140).trans rfl
theorem c_140_3 : (zm_cd 140)[3]? = some ((5, .ifCond .eq 20, 3, 13, 0, 0, 0, 0, []) : zm_E) := (congrArg (fun l => l[3]?) cd_140).trans rfl
theorem c_140_4 : (zm_cd 140)[4]? = some ((8, .aload_n 0, 1, 0, 0, 0, 0, 0, []) : zm_E) := (congrArg (fun l => l[4]?) cd_140).trans rfl
theorem c_140_5 : (zm_cd 140)[5]? = some ((9, .iload_n 2, 1, 2, 0, 0, 0, 0, []) : zm_E) := (congrArg (fun l => l[5]?) cd_140).trans rfl
theorem c_140_6 : (zm_cd 140)[6]? = some ((10, .invokevirtual 59, 3, 116, 1, 1, 0, 0, [1]) : zm_E) := (congrArg (fun l => l[6]?) cd_140).trans rfl
theorem c_140_7 : (zm_cd 140)[7]? = some ((13, .ifCond .eq 12, 3, 13, 0, 0, 0, 0, []) : zm_E) := (congrArg (fun l => l[7]?) cd_140).trans rfl
theorem c_140_8 : (zm_cd 140)[8]? = some ((16, .aload_n 0, 1, 0, 0, 0, 0, 0, []) : zm_E) := (congrArg (fun l => l[8]?) cd_140).trans rfl
theorem c_140_9 : (zm_cd 140)[9]? = some ((17, .iload_n 1, 1, 1, 0, 0, 0, 0, []) : zm_E) := (congrArg (fun l => l[9]?) cd_140).trans rfl
theorem c_140_10 : (zm_cd 140)[10]? = some ((18, .iload_n 2, 1, 2, 0, 0, 0, 0, []) : zm_E) := (congrArg (fun l => l[10]?) cd_140).trans rfl
theorem c_140_11 : (zm_cd 140)[11]? = some ((19, .invokevirtual 78, 3, 130, 2, 1, 0, 0, [1]) : zm_E) := (congrArg (fun l => l[11]?) cd_140).trans rfl
theorem c_140_12 : (zm_cd 140)[12]? = some ((22, .ifCond .eq 5, 3, 15, 0, 0, 0, 0, []) : zm_E) := (congrArg (fun l => l[12]?) cd_140).trans rfl
theorem c_140_13 : (zm_cd 140)[13]? = some ((25, .iconst 0, 1, 0, 0, 0, 0, 0, []) : zm_E) := (congrArg (fun l => l[13]?) cd_140).trans rfl
theorem c_140_14 : (zm_cd 140)[14]? = some ((26, .ireturn, 1, 1, 0, 0, 0, 0, []) : zm_E) := (congrArg (fun l => l[14]?) cd_140).trans rfl
theorem c_140_15 : (zm_cd 140)[15]? = some ((27, .aload_n 0, 1, 0, 0, 0, 0, 0, []) : zm_E) := (congrArg (fun l => l[15]?) cd_140).trans rfl
theorem c_140_16 : (zm_cd 140)[16]? = some ((28, .iload_n 1, 1, 1, 0, 0, 0, 0, []) : zm_E) := (congrArg (fun l => l[16]?) cd_140).trans rfl
theorem c_140_17 : (zm_cd 140)[17]? = some ((29, .iload_n 2, 1, 2, 0, 0, 0, 0, []) : zm_E) := (congrArg (fun l => l[17]?) cd_140).trans rfl
theorem c_140_18 : (zm_cd 140)[18]? = some ((30, .invokevirtual 81, 3, 131, 2, 0, 0, 0, [1]) : zm_E) := (congrArg (fun l => l[18]?) cd_140).trans rfl
theorem c_140_19 : (zm_cd 140)[19]? = some ((33, .iconst 1, 1, 0, 0, 0, 1, 0, []) : zm_E) := (congrArg (fun l => l[19]?) cd_140).trans rfl
theorem c_140_20 : (zm_cd 140)[20]? = some ((34, .ireturn, 1, 1, 0, 0, 0, 0, []) : zm_E) := (congrArg (fun l => l[20]?) cd_140).trans rfl
theorem cd_141 : zm_cd 141 = zd_141 := rfl
theorem ml_141 : zm_ml 141 = 3 := rfl
theorem ht_141 : zm_ht 141 = [] := rfl
theorem c_141_0 : (zm_cd 141)[0]? = some ((0, .aload_n 1, 1, 1, 0, 0, 0, 0, []) : zm_E) := (congrArg (fun l => l[0]?) cd_141).trans rfl
theorem c_141_1 : (zm_cd 141)[1]? = some ((1, .aload_n 0, 1, 0, 0, 0, 0, 0, []) : zm_E) := (congrArg (fun l => l[1]?) cd_141).trans rfl
theorem c_141_2 : (zm_cd 141)[2]? = some ((2, .aload_n 0, 1, 0, 0, 0, 0, 0, []) : zm_E) := (congrArg (fun l => l[2]?) cd_141).trans rfl
theorem c_141_3 : (zm_cd 141)[3]? = some ((3, .invokevirtual 85, 3, 118, 0, 1, 0, 0, [1]) : zm_E) := (congrArg (fun l => l[3]?) cd_141).trans rfl
theorem c_141_4 : (zm_cd 141)[4]? = some ((6, .invokevirtual 88, 3, 175, 2, 0, 0, 0, [6]) : zm_E) := (congrArg (fun l => l[4]?) cd_141).trans rfl
theorem c_141_5 : (zm_cd 141)[5]? = some ((9, .aload_n 1, 1, 1, 0, 0, 0, 0, []) : zm_E) := (congrArg (fun l => l[5]?) cd_141).trans rfl
theorem c_141_6 : (zm_cd 141)[6]? = some ((10, .iload_n 2, 1, 2, 0, 0, 0, 0, []) : zm_E) := (congrArg (fun l => l[6]?) cd_141).trans rfl
theorem c_141_7 : (zm_cd 141)[7]? = some ((11, .invokevirtual 94, 3, 176, 1, 1, 0, 0, [6]) : zm_E) := (congrArg (fun l => l[7]?) cd_141).trans rfl
theorem c_141_8 : (zm_cd 141)[8]? = some ((14, .ifCond .ne 5, 3, 11, 0, 0, 0, 0, []) : zm_E) := (congrArg (fun l => l[8]?) cd_141).trans rfl
theorem c_141_9 : (zm_cd 141)[9]? = some ((17, .iconst 0, 1, 0, 0, 0, 0, 0, []) : zm_E) := (congrArg (fun l => l[9]?) cd_141).trans rfl
theorem c_141_10 : (zm_cd 141)[10]? = some ((18, .ireturn, 1, 1, 0, 0, 0, 0, []) : zm_E) := (congrArg (fun l => l[10]?) cd_141).trans rfl
theorem c_141_11 : (zm_cd 141)[11]? = some ((19, .aload_n 0, 1, 0, 0, 0, 0, 0, []) : zm_E) := (congrArg (fun l => l[11]?) cd_141).trans rfl
theorem c_141_12 : (zm_cd 141)[12]? = some ((20, .aload_n 1, 1, 1, 0, 0, 0, 0, []) : zm_E) := (congrArg (fun l => l[12]?) cd_141).trans rfl
theorem c_141_13 : (zm_cd 141)[13]? = some ((21, .aload_n 1, 1, 1, 0, 0, 0, 0, []) : zm_E) := (congrArg (fun l => l[13]?) cd_141).trans rfl
theorem c_141_14 : (zm_cd 141)[14]? = some ((22, .getfield 97, 3, 6, 6, 1, 0, 0, []) : zm_E) := (congrArg (fun l => l[14]?) cd_141).trans rfl
theorem c_141_15 : (zm_cd 141)[15]? = some ((25, .iload_n 2, 1, 2, 0, 0, 0, 0, []) : zm_E) := (congrArg (fun l => l[15]?) cd_141).trans rfl
theorem c_141_16 : (zm_cd 141)[16]? = some ((26, .invokestatic 31, 3, 209, 2, 1, 1, 0, []) : zm_E) := (congrArg (fun l => l[16]?) cd_141).trans rfl
theorem c_141_17 : (zm_cd 141)[17]? = some ((29, .invokevirtual 100, 3, 132, 2, 1, 0, 0, [1]) : zm_E) := (congrArg (fun l => l[17]?) cd_141).trans rfl
theorem c_141_18 : (zm_cd 141)[18]? = some ((32, .pop, 1, 0, 0, 0, 0, 0, []) : zm_E) := (congrArg (fun l => l[18]?) cd_141).trans rfl
theorem c_141_19 : (zm_cd 141)[19]? = some ((33, .iconst 1, 1, 0, 0, 0, 1, 0, []) : zm_E) := (congrArg (fun l => l[19]?) cd_141).trans rfl
theorem c_141_20 : (zm_cd 141)[20]? = some ((34, .ireturn, 1, 1, 0, 0, 0, 0, []) : zm_E) := (congrArg (fun l => l[20]?) cd_141).trans rfl
theorem cd_142 : zm_cd 142 = zd_142 := rfl
theorem ml_142 : zm_ml 142 = 2 := rfl
theorem ht_142 : zm_ht 142 = [] := rfl
theorem c_142_0 : (zm_cd 142)[0]? = some ((0, .aload_n 1, 1, 1, 0, 0, 0, 0, []) : zm_E) := (congrArg (fun l => l[0]?) cd_142).trans rfl
theorem c_142_1 : (zm_cd 142)[1]? = some ((1, .aload_n 0, 1, 0, 0, 0, 0, 0, []) : zm_E) := (congrArg (fun l => l[1]?) cd_142).trans rfl
theorem c_142_2 : (zm_cd 142)[2]? = some ((2, .aload_n 0, 1, 0, 0, 0, 0, 0, []) : zm_E) := (congrArg (fun l => l[2]?) cd_142).trans rfl
theorem c_142_3 : (zm_cd 142)[3]? = some ((3, .invokevirtual 85, 3, 118, 0, 1, 0, 0, [1]) : zm_E) := (congrArg (fun l => l[3]?) cd_142).trans rfl
theorem c_142_4 : (zm_cd 142)[4]? = some ((6, .invokevirtual 88, 3, 175, 2, 0, 0, 0, [6]) : zm_E) := (congrArg (fun l => l[4]?) cd_142).trans rfl
theorem c_142_5 : (zm_cd 142)[5]? = some ((9, .aload_n 0, 1, 0, 0, 0, 0, 0, []) : zm_E) := (congrArg (fun l => l[5]?) cd_142).trans rfl
theorem c_142_6 : (zm_cd 142)[6]? = some ((10, .aload_n 1, 1, 1, 0, 0, 0, 0, []) : zm_E) := (congrArg (fun l => l[6]?) cd_142).trans rfl
theorem c_142_7 : (zm_cd 142)[7]? = some ((11, .aload_n 0, 1, 0, 0, 0, 0, 0, []) : zm_E) := (congrArg (fun l => l[7]?) cd_142).trans rfl
theorem c_142_8 : (zm_cd 142)[8]? = some ((12, .invokevirtual 85, 3, 118, 0, 1, 0, 0, [1]) : zm_E) := (congrArg (fun l => l[8]?) cd_142).trans rfl
theorem c_142_9 : (zm_cd 142)[9]? = some ((15, .invokevirtual 100, 3, 132, 2, 1, 0, 0, [1]) : zm_E) := (congrArg (fun l => l[9]?) cd_142).trans rfl
theorem c_142_10 : (zm_cd 142)[10]? = some ((18, .pop, 1, 0, 0, 0, 0, 0, []) : zm_E) := (congrArg (fun l => l[10]?) cd_142).trans rfl
theorem c_142_11 : (zm_cd 142)[11]? = some ((19, .iconst 1, 1, 0, 0, 0, 1, 0, []) : zm_E) := (congrArg (fun l => l[11]?) cd_142).trans rfl
theorem c_142_12 : (zm_cd 142)[12]? = some ((20, .ireturn, 1, 1, 0, 0, 0, 0, []) : zm_E) := (congrArg (fun l => l[12]?) cd_142).trans rfl
theorem cd_143 : zm_cd 143 = zd_143 := rfl
theorem ml_143 : zm_ml 143 = 2 := rfl
theorem ht_143 : zm_ht 143 = [] := rfl
theorem c_143_0 : (zm_cd 143)[0]? = some ((0, .aload_n 0, 1, 0, 0, 0, 0, 0, []) : zm_E) := (congrArg (fun l => l[0]?) cd_143).trans rfl
theorem c_143_1 : (zm_cd 143)[1]? = some ((1, .iload_n 1, 1, 1, 0, 0, 0, 0, []) : zm_E) := (congrArg (fun l => l[1]?) cd_143).trans rfl
theorem c_143_2 : (zm_cd 143)[2]? = some ((2, .invokevirtual 59, 3, 116, 1, 1, 0, 0, [1]) : zm_E) := (congrArg (fun l => l[2]?) cd_143).trans rfl
theorem c_143_3 : (zm_cd 143)[3]? = some ((5, .ifCond .eq 11, 3, 8, 0, 0, 0, 0, []) : zm_E) := (congrArg (fun l => l[3]?) cd_143).trans rfl
theorem c_143_4 : (zm_cd 143)[4]? = some ((8, .aload_n 0, 1, 0, 0, 0, 0, 0, []) : zm_E) := (congrArg (fun l => l[4]?) cd_143).trans rfl
theorem c_143_5 : (zm_cd 143)[5]? = some ((9, .iload_n 1, 1, 1, 0, 0, 0, 0, []) : zm_E) := (congrArg (fun l => l[5]?) cd_143).trans rfl
theorem c_143_6 : (zm_cd 143)[6]? = some ((10, .invokevirtual 104, 3, 119, 1, 1, 0, 0, [1]) : zm_E) := (congrArg (fun l => l[6]?) cd_143).trans rfl
theorem c_143_7 : (zm_cd 143)[7]? = some ((13, .ifCond .ne 5, 3, 10, 0, 0, 0, 0, []) : zm_E) := (congrArg (fun l => l[7]?) cd_143).trans rfl
theorem c_143_8 : (zm_cd 143)[8]? = some ((16, .iconst 0, 1, 0, 0, 0, 0, 0, []) : zm_E) := (congrArg (fun l => l[8]?) cd_143).trans rfl
theorem c_143_9 : (zm_cd 143)[9]? = some ((17, .ireturn, 1, 1, 0, 0, 0, 0, []) : zm_E) := (congrArg (fun l => l[9]?) cd_143).trans rfl
theorem c_143_10 : (zm_cd 143)[10]? = some ((18, .aload_n 0, 1, 0, 0, 0, 0, 0, []) : zm_E) := (congrArg (fun l => l[10]?) cd_143).trans rfl
theorem c_143_11 : (zm_cd 143)[11]? = some ((19, .iload_n 1, 1, 1, 0, 0, 0, 0, []) : zm_E) := (congrArg (fun l => l[11]?) cd_143).trans rfl
theorem c_143_12 : (zm_cd 143)[12]? = some ((20, .invokevirtual 107, 3, 133, 1, 0, 0, 0, [1]) : zm_E) := (congrArg (fun l => l[12]?) cd_143).trans rfl
theorem c_143_13 : (zm_cd 143)[13]? = some ((23, .iconst 1, 1, 0, 0, 0, 1, 0, []) : zm_E) := (congrArg (fun l => l[13]?) cd_143).trans rfl
theorem c_143_14 : (zm_cd 143)[14]? = some ((24, .ireturn, 1, 1, 0, 0, 0, 0, []) : zm_E) := (congrArg (fun l => l[14]?) cd_143).trans rfl
theorem cd_144 : zm_cd 144 = zd_144 := rfl
theorem ml_144 : zm_ml 144 = 4 := rfl
theorem ht_144 : zm_ht 144 = [] := rfl
theorem c_144_0 : (zm_cd 144)[0]? = some ((0, .aload_n 0, 1, 0, 0, 0, 0, 0, []) : zm_E) := (congrArg (fun l => l[0]?) cd_144).trans rfl
theorem c_144_1 : (zm_cd 144)[1]? = some ((1, .iload_n 1, 1, 1, 0, 0, 0, 0, []) : zm_E) := (congrArg (fun l => l[1]?) cd_144).trans rfl
theorem c_144_2 : (zm_cd 144)[2]? = some ((2, .invokevirtual 59, 3, 116, 1, 1, 0, 0, [1]) : zm_E) := (congrArg (fun l => l[2]?) cd_144).trans rfl
theorem c_144_3 : (zm_cd 144)[3]? = some ((5, .ifCond .eq 11, 3, 8, 0, 0, 0, 0, []) : zm_E) := (congrArg (fun l => l[3]?) cd_144).trans rfl
theorem c_144_4 : (zm_cd 144)[4]? = some ((8, .aload_n 0, 1, 0, 0, 0, 0, 0, []) : zm_E) := (congrArg (fun l => l[4]?) cd_144).trans rfl
theorem c_144_5 : (zm_cd 144)[5]? = some ((9, .iload_n 2, 1, 2, 0, 0, 0, 0, []) : zm_E) := (congrArg (fun l => l[5]?) cd_144).trans rfl
theorem c_144_6 : (zm_cd 144)[6]? = some ((10, .invokevirtual 59, 3, 116, 1, 1, 0, 0, [1]) : zm_E) := (congrArg (fun l => l[6]?) cd_144).trans rfl
theorem c_144_7 : (zm_cd 144)[7]? = some ((13, .ifCond .ne 5, 3, 10, 0, 0, 0, 0, []) : zm_E) := (congrArg (fun l => l[7]?) cd_144).trans rfl
theorem c_144_8 : (zm_cd 144)[8]? = some ((16, .iconst 0, 1, 0, 0, 0, 0, 0, []) : zm_E) := (congrArg (fun l => l[8]?) cd_144).trans rfl
theorem c_144_9 : (zm_cd 144)[9]? = some ((17, .ireturn, 1, 1, 0, 0, 0, 0, []) : zm_E) := (congrArg (fun l => l[9]?) cd_144).trans rfl
theorem c_144_10 : (zm_cd 144)[10]? = some ((18, .aload_n 0, 1, 0, 0, 0, 0, 0, []) : zm_E) := (congrArg (fun l => l[10]?) cd_144).trans rfl
theorem c_144_11 : (zm_cd 144)[11]? = some ((19, .iload_n 1, 1, 1, 0, 0, 0, 0, []) : zm_E) := (congrArg (fun l => l[11]?) cd_144).trans rfl
theorem c_144_12 : (zm_cd 144)[12]? = some ((20, .iload_n 2, 1, 2, 0, 0, 0, 0, []) : zm_E) := (congrArg (fun l => l[12]?) cd_144).trans rfl
theorem c_144_13 : (zm_cd 144)[13]? = some ((21, .iload_n 3, 1, 3, 0, 0, 0, 0, []) : zm_E) := (congrArg (fun l => l[13]?) cd_144).trans rfl
theorem c_144_14 : (zm_cd 144)[14]? = some ((22, .invokevirtual 111, 3, 123, 3, 0, 0, 0, [1]) : zm_E) := (congrArg (fun l => l[14]?) cd_144).trans rfl
theorem c_144_15 : (zm_cd 144)[15]? = some ((25, .iconst 1, 1, 0, 0, 0, 1, 0, []) : zm_E) := (congrArg (fun l => l[15]?) cd_144).trans rfl
theorem c_144_16 : (zm_cd 144)[16]? = some ((26, .ireturn, 1, 1, 0, 0, 0, 0, []) : zm_E) := (congrArg (fun l => l[16]?) cd_144).trans rfl
theorem cd_145 : zm_cd 145 = zd_145 := rfl
theorem ml_145 : zm_ml 145 = 1 := rfl
theorem ht_145 : zm_ht 145 = [] := rfl
theorem c_145_0 : (zm_cd 145)[0]? = some ((0, .aload_n 0, 1, 0, 0, 0, 0, 0, []) : zm_E) := (congrArg (fun l => l[0]?) cd_145).trans rfl
theorem c_145_1 : (zm_cd 145)[1]? = some ((1, .invokevirtual 115, 3, 134, 0, 1, 0, 0, [1]) : zm_E) := (congrArg (fun l => l[1]?) cd_145).trans rfl
theorem c_145_2 : (zm_cd 145)[2]? = some ((4, .pop, 1, 0, 0, 0, 0, 0, []) : zm_E) := (congrArg (fun l => l[2]?) cd_145).trans rfl
theorem c_145_3 : (zm_cd 145)[3]? = some ((5, .iconst 1, 1, 0, 0, 0, 1, 0, []) : zm_E) := (congrArg (fun l => l[3]?) cd_145).trans rfl
theorem c_145_4 : (zm_cd 145)[4]? = some ((6, .ireturn, 1, 1, 0, 0, 0, 0, []) : zm_E) := (congrArg (fun l => l[4]?) cd_145).trans rfl
theorem cd_147 : zm_cd 147 = zd_147 := rfl
theorem ml_147 : zm_ml 147 = 7 := rfl
theorem ht_147 : zm_ht 147 = [] := rfl
theorem c_147_0 : (zm_cd 147)[0]? = some ((0, .aload_n 1, 1, 1, 0, 0, 0, 0, []) : zm_E) := (congrArg (fun l => l[0]?) cd_147).trans rfl
theorem c_147_1 : (zm_cd 147)[1]? = some ((1, .iload_n 2, 1, 2, 0, 0, 0, 0, []) : zm_E) := (congrArg (fun l => l[1]?) cd_147).trans rfl
theorem c_147_2 : (zm_cd 147)[2]? = some ((2, .invokevirtual 19, 3, 119, 1, 1, 0, 0, [1]) : zm_E) := (congrArg (fun l => l[2]?) cd_147).trans rfl
theorem c_147_3 : (zm_cd 147)[3]? = some ((5, .ifCond .ne 6, 3, 6, 0, 0, 0, 0, []) : zm_E) := (congrArg (fun l => l[3]?) cd_147).trans rfl
theorem c_147_4 : (zm_cd 147)[4]? = some ((8, .bipush (-9), 2, 0, 0, 0, (-9), 0, []) : zm_E) := (congrArg (fun l => l[4]?) cd_147).trans rfl
theorem c_147_5 : (zm_cd 147)[5]? = some ((10, .ireturn, 1, 0, 0, 0, 0, 0, []) : zm_E) := (congrArg (fun l => l[5]?) cd_147).trans rfl
theorem c_147_6 : (zm_cd 147)[6]? = some ((11, .aload_n 1, 1, 1, 0, 0, 0, 0, []) : zm_E) := (congrArg (fun l => l[6]?) cd_147).trans rfl
theorem c_147_7 : (zm_cd 147)[7]? = some ((12, .getfield 25, 3, 1, 3, 1, 0, 0, []) : zm_E) := (congrArg (fun l => l[7]?) cd_147).trans rfl
theorem c_147_8 : (zm_cd 147)[8]? = some ((15, .iload_n 2, 1, 2, 0, 0, 0, 0, []) : zm_E) := (congrArg (fun l => l[8]?) cd_147).trans rfl
theorem c_147_9 : (zm_cd 147)[9]? = some ((16, .invokestatic 28, 3, 209, 2, 1, 1, 0, []) : zm_E) := (congrArg (fun l => l[9]?) cd_147).trans rfl
theorem c_147_10 : (zm_cd 147)[10]? = some ((19, .iload_n 3, 1, 3, 0, 0, 0, 0, []) : zm_E) := (congrArg (fun l => l[10]?) cd_147).trans rfl
theorem c_147_11 : (zm_cd 147)[11]? = some ((20, .if_icmp .ne 5, 3, 14, 0, 0, 0, 0, []) : zm_E) := (congrArg (fun l => l[11]?) cd_147).trans rfl
theorem c_147_12 : (zm_cd 147)[12]? = some ((23, .iconst 0, 1, 0, 0, 0, 0, 0, []) : zm_E) := (congrArg (fun l => l[12]?) cd_147).trans rfl
theorem c_147_13 : (zm_cd 147)[13]? = some ((24, .ireturn, 1, 0, 0, 0, 0, 0, []) : zm_E) := (congrArg (fun l => l[13]?) cd_147).trans rfl
theorem c_147_14 : (zm_cd 147)[14]? = some ((25, .aload_n 0, 1, 0, 0, 0, 0, 0, []) : zm_E) := (congrArg (fun l => l[14]?) cd_147).trans rfl
theorem c_147_15 : (zm_cd 147)[15]? = some ((26, .iconst 0, 1, 0, 0, 0, 0, 0, []) : zm_E) := (congrArg (fun l => l[15]?) cd_147).trans rfl
theorem c_147_16 : (zm_cd 147)[16]? = some ((27, .putfield 32, 3, 3, 1, 0, 0, 0, []) : zm_E) := (congrArg (fun l => l[16]?) cd_147).trans rfl
theorem c_147_17 : (zm_cd 147)[17]? = some ((30, .aload_n 0, 1, 0, 0, 0, 0, 0, []) : zm_E) := (congrArg (fun l => l[17]?) cd_147).trans rfl
theorem c_147_18 : (zm_cd 147)[18]? = some ((31, .getfield 15, 3, 3, 2, 1, 0, 0, []) : zm_E) := (congrArg (fun l => l[18]?) cd_147).trans rfl
theorem c_147_19 : (zm_cd 147)[19]? = some ((34, .lconst 0, 1, 0, 0, 0, 0, 0, []) : zm_E) := (congrArg (fun l => l[19]?) cd_147).trans rfl
theorem c_147_20 : (zm_cd 147)[20]? = some ((35, .invokestatic 36, 3, 208, 2, 0, 0, 0, []) : zm_E) := (congrArg (fun l => l[20]?) cd_147).trans rfl
theorem c_147_21 : (zm_cd 147)[21]? = some ((38, .aload_n 0, 1, 0, 0, 0, 0, 0, []) : zm_E) := (congrArg (fun l => l[21]?) cd_147).trans rfl
theorem c_147_22 : (zm_cd 147)[22]? = some ((39, .aload_n 1, 1, 1, 0, 0, 0, 0, []) : zm_E) := (congrArg (fun l => l[22]?) cd_147).trans rfl
theorem c_147_23 : (zm_cd 147)[23]? = some ((40, .iconst 0, 1, 0, 0, 0, 0, 0, []) : zm_E) := (congrArg (fun l => l[23]?) cd_147).trans rfl
theorem c_147_24 : (zm_cd 147)[24]? = some ((41, .invokevirtual 42, 3, 149, 2, 0, 0, 0, [3]) : zm_E) := (congrArg (fun l => l[24]?) cd_147).trans rfl
theorem c_147_25 : (zm_cd 147)[25]? = some ((44, .iconst 0, 1, 0, 0, 0, 0, 0, []) : zm_E) := (congrArg (fun l => l[25]?) cd_147).trans rfl
theorem c_147_26 : (zm_cd 147)[26]? = some ((45, .istore 4, 2, 4, 0, 0, 0, 0, []) : zm_E) := (congrArg (fun l => l[26]?) cd_147).trans rfl
theorem c_147_27 : (zm_cd 147)[27]? = some ((47, .iload 4, 2, 4, 0, 0, 0, 0, []) : zm_E) := (congrArg (fun l => l[27]?) cd_147).trans rfl
theorem c_147_28 : (zm_cd 147)[28]? = some ((49, .aload_n 0, 1, 0, 0, 0, 0, 0, []) : zm_E) := (congrArg (fun l => l[28]?) cd_147).trans rfl
theorem c_147_29 : (zm_cd 147)[29]? = some ((50, .getfield 32, 3, 3, 1, 0, 0, 0, []) : zm_E) := (congrArg (fun l => l[29]?) cd_147).trans rfl
theorem c_147_30 : (zm_cd 147)[30]? = some ((53, .if_icmp .ge 58, 3, 59, 0, 0, 0, 0, []) : zm_E) := (congrArg (fun l => l[30]?) cd_147).trans rfl
theorem c_147_31 : (zm_cd 147)[31]? = some ((56, .iload 4, 2, 4, 0, 0, 0, 0, []) : zm_E) := (congrArg (fun l => l[31]?) cd_147).trans rfl
theorem c_147_32 : (zm_cd 147)[32]? = some ((58, .sipush 5040, 3, 0, 0, 0, 5040, 0, []) : zm_E) := (congrArg (fun l => l[32]?) cd_147).trans rfl
theorem c_147_33 : (zm_cd 147)[33]? = some ((61, .if_icmp .ge 50, 3, 59, 0, 0, 0, 0, []) : zm_E) := (congrArg (fun l => l[33]?) cd_147).trans rfl
theorem c_147_34 : (zm_cd 147)[34]? = some ((64, .aload_n 0, 1, 0, 0, 0, 0, 0, []) : zm_E) := (congrArg (fun l => l[34]?) cd_147).trans rfl
theorem c_147_35 : (zm_cd 147)[35]? = some ((65, .getfield 11, 3, 3, 0, 1, 0, 0, []) : zm_E) := (congrArg (fun l => l[35]?) cd_147).trans rfl
theorem c_147_36 : (zm_cd 147)[36]? = some ((68, .iload 4, 2, 4, 0, 0, 0, 0, []) : zm_E) := (congrArg (fun l => l[36]?) cd_147).trans rfl
theorem c_147_37 : (zm_cd 147)[37]? = some ((70, .invokestatic 28, 3, 209, 2, 1, 1, 0, []) : zm_E) := (congrArg (fun l => l[37]?) cd_147).trans rfl
theorem c_147_38 : (zm_cd 147)[38]? = some ((73, .istore 5, 2, 5, 0, 0, 0, 0, []) : zm_E) := (congrArg (fun l => l[38]?) cd_147).trans rfl
theorem c_147_39 : (zm_cd 147)[39]? = some ((75, .iload 5, 2, 5, 0, 0, 0, 0, []) : zm_E) := (congrArg (fun l => l[39]?) cd_147).trans rfl
theorem c_147_40 : (zm_cd 147)[40]? = some ((77, .bipush 21, 2, 0, 0, 0, 21, 0, []) : zm_E) := (congrArg (fun l => l[40]?) cd_147).trans rfl
theorem c_147_41 : (zm_cd 147)[41]? = some ((79, .ishr, 1, 0, 0, 0, 0, 0, []) : zm_E) := (congrArg (fun l => l[41]?) cd_147).trans rfl
theorem c_147_42 : (zm_cd 147)[42]? = some ((80, .iconst 1, 1, 0, 0, 0, 1, 0, []) : zm_E) := (congrArg (fun l => l[42]?) cd_147).trans rfl
theorem c_147_43 : (zm_cd 147)[43]? = some ((81, .iadd, 1, 0, 0, 0, 0, 0, []) : zm_E) := (congrArg (fun l => l[43]?) cd_147).trans rfl
theorem c_147_44 : (zm_cd 147)[44]? = some ((82, .istore 6, 2, 6, 0, 0, 0, 0, []) : zm_E) := (congrArg (fun l => l[44]?) cd_147).trans rfl
theorem c_147_45 : (zm_cd 147)[45]? = some ((84, .iload 5, 2, 5, 0, 0, 0, 0, []) : zm_E) := (congrArg (fun l => l[45]?) cd_147).trans rfl
theorem c_147_46 : (zm_cd 147)[46]? = some ((86, .aload_n 1, 1, 1, 0, 0, 0, 0, []) : zm_E) := (congrArg (fun l => l[46]?) cd_147).trans rfl
theorem c_147_47 : (zm_cd 147)[47]? = some ((87, .invokestatic 46, 3, 152, 2, 0, 0, 0, []) : zm_E) := (congrArg (fun l => l[47]?) cd_147).trans rfl
theorem c_147_48 : (zm_cd 147)[48]? = some ((90, .aload_n 0, 1, 0, 0, 0, 0, 0, []) : zm_E) := (congrArg (fun l => l[48]?) cd_147).trans rfl
theorem c_147_49 : (zm_cd 147)[49]? = some ((91, .aload_n 1, 1, 1, 0, 0, 0, 0, []) : zm_E) := (congrArg (fun l => l[49]?) cd_147).trans rfl
theorem c_147_50 : (zm_cd 147)[50]? = some ((92, .iload 6, 2, 6, 0, 0, 0, 0, []) : zm_E) := (congrArg (fun l => l[50]?) cd_147).trans rfl
theorem c_147_51 : (zm_cd 147)[51]? = some ((94, .iload_n 2, 1, 2, 0, 0, 0, 0, []) : zm_E) := (congrArg (fun l => l[51]?) cd_147).trans rfl
theorem c_147_52 : (zm_cd 147)[52]? = some ((95, .iload_n 3, 1, 3, 0, 0, 0, 0, []) : zm_E) := (congrArg (fun l => l[52]?) cd_147).trans rfl
theorem c_147_53 : (zm_cd 147)[53]? = some ((96, .invokevirtual 50, 3, 148, 4, 1, 0, 0, [3]) : zm_E) := (congrArg (fun l => l[53]?) cd_147).trans rfl
theorem c_147_54 : (zm_cd 147)[54]? = some ((99, .ifCond .eq 6, 3, 57, 0, 0, 0, 0, []) : zm_E) := (congrArg (fun l => l[54]?) cd_147).trans rfl
theorem c_147_55 : (zm_cd 147)[55]? = some ((102, .iload 6, 2, 6, 0, 0, 0, 0, []) : zm_E) := (congrArg (fun l => l[55]?) cd_147).trans rfl
theorem c_147_56 : (zm_cd 147)[56]? = some ((104, .ireturn, 1, 0, 0, 0, 0, 0, []) : zm_E) := (congrArg (fun l => l[56]?) cd_147).trans rfl
theorem c_147_57 : (zm_cd 147)[57]? = some ((105, .iinc 4 1, 3, 4, 0, 0, 1, 0, []) : zm_E) := (congrArg (fun l => l[57]?) cd_147).trans rfl
theorem c_147_58 : (zm_cd 147)[58]? = some ((108, .goto (-61), 3, 27, 0, 0, 0, 0, []) : zm_E) := (congrArg (fun l => l[58]?) cd_147).trans rfl
theorem c_147_59 : (zm_cd 147)[59]? = some ((111, .bipush (-9), 2, 0, 0, 0, (-9), 0, []) : zm_E) := (congrArg (fun l => l[59]?) cd_147).trans rfl
theorem c_147_60 : (zm_cd 147)[60]? = some ((113, .ireturn, 1, 0, 0, 0, 0, 0, []) : zm_E) := (congrArg (fun l => l[60]?) cd_147).trans rfl
theorem cd_148 : zm_cd 148 = zd_148 := rfl
theorem ml_148 : zm_ml 148 = 7 := rfl
theorem ht_148 : zm_ht 148 = [] := rfl
theorem c_148_0 : (zm_cd 148)[0]? = some ((0, .iconst 0, 1, 0, 0, 0, 0, 0, []) : zm_E) := (congrArg (fun l => l[0]?) cd_148).trans rfl
theorem c_148_1 : (zm_cd 148)[1]? = some ((1, .istore 5, 2, 5, 0, 0, 0, 0, []) : zm_E) := (congrArg (fun l => l[1]?) cd_148).trans rfl
theorem c_148_2 : (zm_cd 148)[2]? = some ((3, .iload 5, 2, 5, 0, 0, 0, 0, []) : zm_E) := (congrArg (fun l => l[2]?) cd_148).trans rfl
theorem c_148_3 : (zm_cd 148)[3]? = some ((5, .aload_n 1, 1, 1, 0, 0, 0, 0, []) : zm_E) := (congrArg (fun l => l[3]?) cd_148).trans rfl
theorem c_148_4 : (zm_cd 148)[4]? = some ((6, .getfield 54, 3, 1, 0, 0, 0, 0, []) : zm_E) := (congrArg (fun l => l[4]?) cd_148).trans rfl
theorem c_148_5 : (zm_cd 148)[5]? = some ((9, .if_icmp .ge 78, 3, 43, 0, 0, 0, 0, []) : zm_E) := (congrArg (fun l => l[5]?) cd_148).trans rfl
theorem c_148_6 : (zm_cd 148)[6]? = some ((12, .iload 5, 2, 5, 0, 0, 0, 0, []) : zm_E) := (congrArg (fun l => l[6]?) cd_148).trans rfl
theorem c_148_7 : (zm_cd 148)[7]? = some ((14, .iconst 1, 1, 0, 0, 0, 1, 0, []) : zm_E) := (congrArg (fun l => l[7]?) cd_148).trans rfl
theorem c_148_8 : (zm_cd 148)[8]? = some ((15, .iadd, 1, 0, 0, 0, 0, 0, []) : zm_E) := (congrArg (fun l => l[8]?) cd_148).trans rfl
theorem c_148_9 : (zm_cd 148)[9]? = some ((16, .istore 6, 2, 6, 0, 0, 0, 0, []) : zm_E) := (congrArg (fun l => l[9]?) cd_148).trans rfl
theorem c_148_10 : (zm_cd 148)[10]? = some ((18, .iload 6, 2, 6, 0, 0, 0, 0, []) : zm_E) := (congrArg (fun l => l[10]?) cd_148).trans rfl
theorem c_148_11 : (zm_cd 148)[11]? = some ((20, .aload_n 1, 1, 1, 0, 0, 0, 0, []) : zm_E) := (congrArg (fun l => l[11]?) cd_148).trans rfl
theorem c_148_12 : (zm_cd 148)[12]? = some ((21, .getfield 54, 3, 1, 0, 0, 0, 0, []) : zm_E) := (congrArg (fun l => l[12]?) cd_148).trans rfl
theorem c_148_13 : (zm_cd 148)[13]? = some ((24, .if_icmp .ge 57, 3, 41, 0, 0, 0, 0, []) : zm_E) := (congrArg (fun l => l[13]?) cd_148).trans rfl
theorem c_148_14 : (zm_cd 148)[14]? = some ((27, .aload_n 1, 1, 1, 0, 0, 0, 0, []) : zm_E) := (congrArg (fun l => l[14]?) cd_148).trans rfl
theorem c_148_15 : (zm_cd 148)[15]? = some ((28, .iload 5, 2, 5, 0, 0, 0, 0, []) : zm_E) := (congrArg (fun l => l[15]?) cd_148).trans rfl
theorem c_148_16 : (zm_cd 148)[16]? = some ((30, .iload 6, 2, 6, 0, 0, 0, 0, []) : zm_E) := (congrArg (fun l => l[16]?) cd_148).trans rfl
theorem c_148_17 : (zm_cd 148)[17]? = some ((32, .invokevirtual 57, 3, 130, 2, 1, 0, 0, [1]) : zm_E) := (congrArg (fun l => l[17]?) cd_148).trans rfl
theorem c_148_18 : (zm_cd 148)[18]? = some ((35, .ifCond .ne 40, 3, 39, 0, 0, 0, 0, []) : zm_E) := (congrArg (fun l => l[18]?) cd_148).trans rfl
theorem c_148_19 : (zm_cd 148)[19]? = some ((38, .aload_n 1, 1, 1, 0, 0, 0, 0, []) : zm_E) := (congrArg (fun l => l[19]?) cd_148).trans rfl
theorem c_148_20 : (zm_cd 148)[20]? = some ((39, .iload 5, 2, 5, 0, 0, 0, 0, []) : zm_E) := (congrArg (fun l => l[20]?) cd_148).trans rfl
theorem c_148_21 : (zm_cd 148)[21]? = some ((41, .iload 6, 2, 6, 0, 0, 0, 0, []) : zm_E) := (congrArg (fun l => l[21]?) cd_148).trans rfl
theorem c_148_22 : (zm_cd 148)[22]? = some ((43, .invokevirtual 61, 3, 131, 2, 0, 0, 0, [1]) : zm_E) := (congrArg (fun l => l[22]?) cd_148).trans rfl
theorem c_148_23 : (zm_cd 148)[23]? = some ((46, .aload_n 1, 1, 1, 0, 0, 0, 0, []) : zm_E) := (congrArg (fun l => l[23]?) cd_148).trans rfl
theorem c_148_24 : (zm_cd 148)[24]? = some ((47, .getfield 25, 3, 1, 3, 1, 0, 0, []) : zm_E) := (congrArg (fun l => l[24]?) cd_148).trans rfl
theorem c_148_25 : (zm_cd 148)[25]? = some ((50, .iload_n 3, 1, 3, 0, 0, 0, 0, []) : zm_E) := (congrArg (fun l => l[25]?) cd_148).trans rfl
theorem c_148_26 : (zm_cd 148)[26]? = some ((51, .invokestatic 28, 3, 209, 2, 1, 1, 0, []) : zm_E) := (congrArg (fun l => l[26]?) cd_148).trans rfl
theorem c_148_27 : (zm_cd 148)[27]? = some ((54, .iload 4, 2, 4, 0, 0, 0, 0, []) : zm_E) := (congrArg (fun l => l[27]?) cd_148).trans rfl
theorem c_148_28 : (zm_cd 148)[28]? = some ((56, .if_icmp .ne 5, 3, 31, 0, 0, 0, 0, []) : zm_E) := (congrArg (fun l => l[28]?) cd_148).trans rfl
theorem c_148_29 : (zm_cd 148)[29]? = some ((59, .iconst 1, 1, 0, 0, 0, 1, 0, []) : zm_E) := (congrArg (fun l => l[29]?) cd_148).trans rfl
theorem c_148_30 : (zm_cd 148)[30]? = some ((60, .ireturn, 1, 1, 0, 0, 0, 0, []) : zm_E) := (congrArg (fun l => l[30]?) cd_148).trans rfl
theorem c_148_31 : (zm_cd 148)[31]? = some ((61, .aload_n 0, 1, 0, 0, 0, 0, 0, []) : zm_E) := (congrArg (fun l => l[31]?) cd_148).trans rfl
theorem c_148_32 : (zm_cd 148)[32]? = some ((62, .aload_n 1, 1, 1, 0, 0, 0, 0, []) : zm_E) := (congrArg (fun l => l[32]?) cd_148).trans rfl
theorem c_148_33 : (zm_cd 148)[33]? = some ((63, .iload_n 2, 1, 2, 0, 0, 0, 0, []) : zm_E) := (congrArg (fun l => l[33]?) cd_148).trans rfl
theorem c_148_34 : (zm_cd 148)[34]? = some ((64, .invokevirtual 42, 3, 149, 2, 0, 0, 0, [3]) : zm_E) := (congrArg (fun l => l[34]?) cd_148).trans rfl
theorem c_148_35 : (zm_cd 148)[35]? = some ((67, .aload_n 1, 1, 1, 0, 0, 0, 0, []) : zm_E) := (congrArg (fun l => l[35]?) cd_148).trans rfl
theorem c_148_36 : (zm_cd 148)[36]? = some ((68, .iload 5, 2, 5, 0, 0, 0, 0, []) : zm_E) := (congrArg (fun l => l[36]?) cd_148).trans rfl
theorem c_148_37 : (zm_cd 148)[37]? = some ((70, .iload 6, 2, 6, 0, 0, 0, 0, []) : zm_E) := (congrArg (fun l => l[37]?) cd_148).trans rfl
theorem c_148_38 : (zm_cd 148)[38]? = some ((72, .invokevirtual 61, 3, 131, 2, 0, 0, 0, [1]) : zm_E) := (congrArg (fun l => l[38]?) cd_148).trans rfl
theorem c_148_39 : (zm_cd 148)[39]? = some ((75, .iinc 6 1, 3, 6, 0, 0, 1, 0, []) : zm_E) := (congrArg (fun l => l[39]?) cd_148).trans rfl
theorem c_148_40 : (zm_cd 148)[40]? = some ((78, .goto (-60), 3, 10, 0, 0, 0, 0, []) : zm_E) := (congrArg (fun l => l[40]?) cd_148).trans rfl
theorem c_148_41 : (zm_cd 148)[41]? = some ((81, .iinc 5 1, 3, 5, 0, 0, 1, 0, []) : zm_E) := (congrArg (fun l => l[41]?) cd_148).trans rfl
theorem c_148_42 : (zm_cd 148)[42]? = some ((84, .goto (-81), 3, 2, 0, 0, 0, 0, []) : zm_E) := (congrArg (fun l => l[42]?) cd_148).trans rfl
theorem c_148_43 : (zm_cd 148)[43]? = some ((87, .iconst 0, 1, 0, 0, 0, 0, 0, []) : zm_E) := (congrArg (fun l => l[43]?) cd_148).trans rfl
theorem c_148_44 : (zm_cd 148)[44]? = some ((88, .ireturn, 1, 1, 0, 0, 0, 0, []) : zm_E) := (congrArg (fun l => l[44]?) cd_148).trans rfl
theorem cd_149 : zm_cd 149 = zd_149 := rfl
theorem ml_149 : zm_ml 149 = 7 := rfl
theorem ht_149 : zm_ht 149 = [] := rfl
theorem c_149_0 : (zm_cd 149)[0]? = some ((0, .aload_n 1, 1, 1, 0, 0, 0, 0, []) : zm_E) := (congrArg (fun l => l[0]?) cd_149).trans rfl
theorem c_149_1 : (zm_cd 149)[1]? = some ((1, .invokestatic 65, 3, 150, 1, 1, 0, 0, []) : zm_E) := (congrArg (fun l => l[1]?) cd_149).trans rfl
theorem c_149_2 : (zm_cd 149)[2]? = some ((4, .istore_n 3, 1, 3, 0, 0, 0, 0, []) : zm_E) := (congrArg (fun l => l[2]?) cd_149).trans rfl
theorem c_149_3 : (zm_cd 149)[3]? = some ((5, .iload_n 3, 1, 3, 0, 0, 0, 0, []) : zm_E) := (congrArg (fun l => l[3]?) cd_149).trans rfl
theorem c_149_4 : (zm_cd 149)[4]? = some ((6, .bipush 64, 2, 0, 0, 0, 64, 0, []) : zm_E) := (congrArg (fun l => l[4]?) cd_149).trans rfl
theorem c_149_5 : (zm_cd 149)[5]? = some ((8, .idiv, 1, 0, 0, 0, 0, 0, []) : zm_E) := (congrArg (fun l => l[5]?) cd_149).trans rfl
theorem c_149_6 : (zm_cd 149)[6]? = some ((9, .istore 4, 2, 4, 0, 0, 0, 0, []) : zm_E) := (congrArg (fun l => l[6]?) cd_149).trans rfl
theorem c_149_7 : (zm_cd 149)[7]? = some ((11, .lconst 1, 1, 0, 0, 0, 0, 1, []) : zm_E) := (congrArg (fun l => l[7]?) cd_149).trans rfl
theorem c_149_8 : (zm_cd 149)[8]? = some ((12, .iload_n 3, 1, 3, 0, 0, 0, 0, []) : zm_E) := (congrArg (fun l => l[8]?) cd_149).trans rfl
theorem c_149_9 : (zm_cd 149)[9]? = some ((13, .bipush 64, 2, 0, 0, 0, 64, 0, []) : zm_E) := (congrArg (fun l => l[9]?) cd_149).trans rfl
theorem c_149_10 : (zm_cd 149)[10]? = some ((15, .irem, 1, 0, 0, 0, 0, 0, []) : zm_E) := (congrArg (fun l => l[10]?) cd_149).trans rfl
theorem c_149_11 : (zm_cd 149)[11]? = some ((16, .lshl, 1, 0, 0, 0, 0, 0, []) : zm_E) := (congrArg (fun l => l[11]?) cd_149).trans rfl
theorem c_149_12 : (zm_cd 149)[12]? = some ((17, .lstore 5, 2, 5, 0, 0, 0, 0, []) : zm_E) := (congrArg (fun l => l[12]?) cd_149).trans rfl
theorem c_149_13 : (zm_cd 149)[13]? = some ((19, .iload 4, 2, 4, 0, 0, 0, 0, []) : zm_E) := (congrArg (fun l => l[13]?) cd_149).trans rfl
theorem c_149_14 : (zm_cd 149)[14]? = some ((21, .ifCond .lt 80, 3, 58, 0, 0, 0, 0, []) : zm_E) := (congrArg (fun l => l[14]?) cd_149).trans rfl
theorem c_149_15 : (zm_cd 149)[15]? = some ((24, .iload 4, 2, 4, 0, 0, 0, 0, []) : zm_E) := (congrArg (fun l => l[15]?) cd_149).trans rfl
theorem c_149_16 : (zm_cd 149)[16]? = some ((26, .aload_n 0, 1, 0, 0, 0, 0, 0, []) : zm_E) := (congrArg (fun l => l[16]?) cd_149).trans rfl
theorem c_149_17 : (zm_cd 149)[17]? = some ((27, .getfield 15, 3, 3, 2, 1, 0, 0, []) : zm_E) := (congrArg (fun l => l[17]?) cd_149).trans rfl
theorem c_149_18 : (zm_cd 149)[18]? = some ((30, .arraylength, 1, 0, 0, 0, 0, 0, []) : zm_E) := (congrArg (fun l => l[18]?) cd_149).trans rfl
theorem c_149_19 : (zm_cd 149)[19]? = some ((31, .if_icmp .ge 70, 3, 58, 0, 0, 0, 0, []) : zm_E) := (congrArg (fun l => l[19]?) cd_149).trans rfl
theorem c_149_20 : (zm_cd 149)[20]? = some ((34, .aload_n 0, 1, 0, 0, 0, 0, 0, []) : zm_E) := (congrArg (fun l => l[20]?) cd_149).trans rfl
theorem c_149_21 : (zm_cd 149)[21]? = some ((35, .getfield 15, 3, 3, 2, 1, 0, 0, []) : zm_E) := (congrArg (fun l => l[21]?) cd_149).trans rfl
theorem c_149_22 : (zm_cd 149)[22]? = some ((38, .iload 4, 2, 4, 0, 0, 0, 0, []) : zm_E) := (congrArg (fun l => l[22]?) cd_149).trans rfl
theorem c_149_23 : (zm_cd 149)[23]? = some ((40, .laload, 1, 0, 0, 0, 0, 0, []) : zm_E) := (congrArg (fun l => l[23]?) cd_149).trans rfl
theorem c_149_24 : (zm_cd 149)[24]? = some ((41, .lload 5, 2, 5, 0, 0, 0, 0, []) : zm_E) := (congrArg (fun l => l[24]?) cd_149).trans rfl
theorem c_149_25 : (zm_cd 149)[25]? = some ((43, .land, 1, 0, 0, 0, 0, 0, []) : zm_E) := (congrArg (fun l => l[25]?) cd_149).trans rfl
theorem c_149_26 : (zm_cd 149)[26]? = some ((44, .lconst 0, 1, 0, 0, 0, 0, 0, []) : zm_E) := (congrArg (fun l => l[26]?) cd_149).trans rfl
theorem c_149_27 : (zm_cd 149)[27]? = some ((45, .lcmp, 1, 0, 0, 0, 0, 0, []) : zm_E) := (congrArg (fun l => l[27]?) cd_149).trans rfl
theorem c_149_28 : (zm_cd 149)[28]? = some ((46, .ifCond .ne 55, 3, 58, 0, 0, 0, 0, []) : zm_E) := (congrArg (fun l => l[28]?) cd_149).trans rfl
theorem c_149_29 : (zm_cd 149)[29]? = some ((49, .aload_n 0, 1, 0, 0, 0, 0, 0, []) : zm_E) := (congrArg (fun l => l[29]?) cd_149).trans rfl
theorem c_149_30 : (zm_cd 149)[30]? = some ((50, .getfield 32, 3, 3, 1, 0, 0, 0, []) : zm_E) := (congrArg (fun l => l[30]?) cd_149).trans rfl
theorem c_149_31 : (zm_cd 149)[31]? = some ((53, .sipush 5040, 3, 0, 0, 0, 5040, 0, []) : zm_E) := (congrArg (fun l => l[31]?) cd_149).trans rfl
theorem c_149_32 : (zm_cd 149)[32]? = some ((56, .if_icmp .ge 45, 3, 58, 0, 0, 0, 0, []) : zm_E) := (congrArg (fun l => l[32]?) cd_149).trans rfl
theorem c_149_33 : (zm_cd 149)[33]? = some ((59, .aload_n 0, 1, 0, 0, 0, 0, 0, []) : zm_E) := (congrArg (fun l => l[33]?) cd_149).trans rfl
theorem c_149_34 : (zm_cd 149)[34]? = some ((60, .getfield 15, 3, 3, 2, 1, 0, 0, []) : zm_E) := (congrArg (fun l => l[34]?) cd_149).trans rfl
theorem c_149_35 : (zm_cd 149)[35]? = some ((63, .iload 4, 2, 4, 0, 0, 0, 0, []) : zm_E) := (congrArg (fun l => l[35]?) cd_149).trans rfl
theorem c_149_36 : (zm_cd 149)[36]? = some ((65, .dup2, 1, 0, 0, 0, 0, 0, []) : zm_E) := (congrArg (fun l => l[36]?) cd_149).trans rfl
theorem c_149_37 : (zm_cd 149)[37]? = some ((66, .laload, 1, 0, 0, 0, 0, 0, []) : zm_E) := (congrArg (fun l => l[37]?) cd_149).trans rfl
theorem c_149_38 : (zm_cd 149)[38]? = some ((67, .lload 5, 2, 5, 0, 0, 0, 0, []) : zm_E) := (congrArg (fun l => l[38]?) cd_149).trans rfl
theorem c_149_39 : (zm_cd 149)[39]? = some ((69, .lor, 1, 0, 0, 0, 0, 0, []) : zm_E) := (congrArg (fun l => l[39]?) cd_149).trans rfl
theorem c_149_40 : (zm_cd 149)[40]? = some ((70, .lastore, 1, 0, 0, 0, 0, 0, []) : zm_E) := (congrArg (fun l => l[40]?) cd_149).trans rfl
theorem c_149_41 : (zm_cd 149)[41]? = some ((71, .aload_n 0, 1, 0, 0, 0, 0, 0, []) : zm_E) := (congrArg (fun l => l[41]?) cd_149).trans rfl
theorem c_149_42 : (zm_cd 149)[42]? = some ((72, .getfield 11, 3, 3, 0, 1, 0, 0, []) : zm_E) := (congrArg (fun l => l[42]?) cd_149).trans rfl
theorem c_149_43 : (zm_cd 149)[43]? = some ((75, .aload_n 0, 1, 0, 0, 0, 0, 0, []) : zm_E) := (congrArg (fun l => l[43]?) cd_149).trans rfl
theorem c_149_44 : (zm_cd 149)[44]? = some ((76, .getfield 32, 3, 3, 1, 0, 0, 0, []) : zm_E) := (congrArg (fun l => l[44]?) cd_149).trans rfl
theorem c_149_45 : (zm_cd 149)[45]? = some ((79, .iload_n 2, 1, 2, 0, 0, 0, 0, []) : zm_E) := (congrArg (fun l => l[45]?) cd_149).trans rfl
theorem c_149_46 : (zm_cd 149)[46]? = some ((80, .bipush 21, 2, 0, 0, 0, 21, 0, []) : zm_E) := (congrArg (fun l => l[46]?) cd_149).trans rfl
theorem c_149_47 : (zm_cd 149)[47]? = some ((82, .ishl, 1, 0, 0, 0, 0, 0, []) : zm_E) := (congrArg (fun l => l[47]?) cd_149).trans rfl
theorem c_149_48 : (zm_cd 149)[48]? = some ((83, .aload_n 1, 1, 1, 0, 0, 0, 0, []) : zm_E) := (congrArg (fun l => l[48]?) cd_149).trans rfl
theorem c_149_49 : (zm_cd 149)[49]? = some ((84, .invokestatic 69, 3, 151, 1, 1, 0, 0, []) : zm_E) := (congrArg (fun l => l[49]?) cd_149).trans rfl
theorem c_149_50 : (zm_cd 149)[50]? = some ((87, .ior, 1, 0, 0, 0, 0, 0, []) : zm_E) := (congrArg (fun l => l[50]?) cd_149).trans rfl
theorem c_149_51 : (zm_cd 149)[51]? = some ((88, .invokestatic 72, 3, 210, 3, 0, 1, 0, []) : zm_E) := (congrArg (fun l => l[51]?) cd_149).trans rfl
theorem c_149_52 : (zm_cd 149)[52]? = some ((91, .aload_n 0, 1, 0, 0, 0, 0, 0, []) : zm_E) := (congrArg (fun l => l[52]?) cd_149).trans rfl
theorem c_149_53 : (zm_cd 149)[53]? = some ((92, .dup, 1, 0, 0, 0, 0, 0, []) : zm_E) := (congrArg (fun l => l[53]?) cd_149).trans rfl
theorem c_149_54 : (zm_cd 149)[54]? = some ((93, .getfield 32, 3, 3, 1, 0, 0, 0, []) : zm_E) := (congrArg (fun l => l[54]?) cd_149).trans rfl
theorem c_149_55 : (zm_cd 149)[55]? = some ((96, .iconst 1, 1, 0, 0, 0, 1, 0, []) : zm_E) := (congrArg (fun l => l[55]?) cd_149).trans rfl
theorem c_149_56 : (zm_cd 149)[56]? = some ((97, .iadd, 1, 0, 0, 0, 0, 0, []) : zm_E) := (congrArg (fun l => l[56]?) cd_149).trans rfl
theorem c_149_57 : (zm_cd 149)[57]? = some ((98, .putfield 32, 3, 3, 1, 0, 0, 0, []) : zm_E) := (congrArg (fun l => l[57]?) cd_149).trans rfl
theorem c_149_58 : (zm_cd 149)[58]? = some ((101, .return_, 1, 0, 0, 0, 0, 0, []) : zm_E) := (congrArg (fun l => l[58]?) cd_149).trans rfl
theorem cd_150 : zm_cd 150 = zd_150 := rfl
theorem ml_150 : zm_ml 150 = 5 := rfl
theorem ht_150 : zm_ht 150 = [] := rfl
theorem c_150_0 : (zm_cd 150)[0]? = some ((0, .iconst 0, 1, 0, 0, 0, 0, 0, []) : zm_E) := (congrArg (fun l => l[0]?) cd_150).trans rfl
theorem c_150_1 : (zm_cd 150)[1]? = some ((1, .istore_n 1, 1, 1, 0, 0, 0, 0, []) : zm_E) := (congrArg (fun l => l[1]?) cd_150).trans rfl
theorem c_150_2 : (zm_cd 150)[2]? = some ((2, .aload_n 0, 1, 0, 0, 0, 0, 0, []) : zm_E) := (congrArg (fun l => l[2]?) cd_150).trans rfl
theorem c_150_3 : (zm_cd 150)[3]? = some ((3, .invokevirtual 76, 3, 117, 0, 1, 0, 0, [1]) : zm_E) := (congrArg (fun l => l[3]?) cd_150).trans rfl
theorem c_150_4 : (zm_cd 150)[4]? = some ((6, .istore_n 2, 1, 2, 0, 0, 0, 0, []) : zm_E) := (congrArg (fun l => l[4]?) cd_150).trans rfl
theorem c_150_5 : (zm_cd 150)[5]? = some ((7, .iconst 0, 1, 0, 0, 0, 0, 0, []) : zm_E) := (congrArg (fun l => l[5]?) cd_150).trans rfl
theorem c_150_6 : (zm_cd 150)[6]? = some ((8, .istore_n 3, 1, 3, 0, 0, 0, 0, []) : zm_E) := (congrArg (fun l => l[6]?) cd_150).trans rfl
theorem c_150_7 : (zm_cd 150)[7]? = some ((9, .iload_n 3, 1, 3, 0, 0, 0, 0, []) : zm_E) := (congrArg (fun l => l[7]?) cd_150).trans rfl
theorem c_150_8 : (zm_cd 150)[8]? = some ((10, .aload_n 0, 1, 0, 0, 0, 0, 0, []) : zm_E) := (congrArg (fun l => l[8]?) cd_150).trans rfl
theorem c_150_9 : (zm_cd 150)[9]? = some ((11, .getfield 54, 3, 1, 0, 0, 0, 0, []) : zm_E) := (congrArg (fun l => l[9]?) cd_150).trans rfl
theorem c_150_10 : (zm_cd 150)[10]? = some ((14, .if_icmp .ge 51, 3, 40, 0, 0, 0, 0, []) : zm_E) := (congrArg (fun l => l[10]?) cd_150).trans rfl
theorem c_150_11 : (zm_cd 150)[11]? = some ((17, .aload_n 0, 1, 0, 0, 0, 0, 0, []) : zm_E) := (congrArg (fun l => l[11]?) cd_150).trans rfl
theorem c_150_12 : (zm_cd 150)[12]? = some ((18, .getfield 25, 3, 1, 3, 1, 0, 0, []) : zm_E) := (congrArg (fun l => l[12]?) cd_150).trans rfl
theorem c_150_13 : (zm_cd 150)[13]? = some ((21, .iload_n 3, 1, 3, 0, 0, 0, 0, []) : zm_E) := (congrArg (fun l => l[13]?) cd_150).trans rfl
theorem c_150_14 : (zm_cd 150)[14]? = some ((22, .invokestatic 28, 3, 209, 2, 1, 1, 0, []) : zm_E) := (congrArg (fun l => l[14]?) cd_150).trans rfl
theorem c_150_15 : (zm_cd 150)[15]? = some ((25, .istore 4, 2, 4, 0, 0, 0, 0, []) : zm_E) := (congrArg (fun l => l[15]?) cd_150).trans rfl
theorem c_150_16 : (zm_cd 150)[16]? = some ((27, .iload_n 1, 1, 1, 0, 0, 0, 0, []) : zm_E) := (congrArg (fun l => l[16]?) cd_150).trans rfl
theorem c_150_17 : (zm_cd 150)[17]? = some ((28, .aload_n 0, 1, 0, 0, 0, 0, 0, []) : zm_E) := (congrArg (fun l => l[17]?) cd_150).trans rfl
theorem c_150_18 : (zm_cd 150)[18]? = some ((29, .getfield 54, 3, 1, 0, 0, 0, 0, []) : zm_E) := (congrArg (fun l => l[18]?) cd_150).trans rfl
theorem c_150_19 : (zm_cd 150)[19]? = some ((32, .iload_n 3, 1, 3, 0, 0, 0, 0, []) : zm_E) := (congrArg (fun l => l[19]?) cd_150).trans rfl
theorem c_150_20 : (zm_cd 150)[20]? = some ((33, .isub, 1, 0, 0, 0, 0, 0, []) : zm_E) := (congrArg (fun l => l[20]?) cd_150).trans rfl
theorem c_150_21 : (zm_cd 150)[21]? = some ((34, .imul, 1, 0, 0, 0, 0, 0, []) : zm_E) := (congrArg (fun l => l[21]?) cd_150).trans rfl
theorem c_150_22 : (zm_cd 150)[22]? = some ((35, .iload_n 2, 1, 2, 0, 0, 0, 0, []) : zm_E) := (congrArg (fun l => l[22]?) cd_150).trans rfl
theorem c_150_23 : (zm_cd 150)[23]? = some ((36, .iload 4, 2, 4, 0, 0, 0, 0, []) : zm_E) := (congrArg (fun l => l[23]?) cd_150).trans rfl
theorem c_150_24 : (zm_cd 150)[24]? = some ((38, .invokestatic 80, 3, 36, 1, 1, 1, 0, []) : zm_E) := (congrArg (fun l => l[24]?) cd_150).trans rfl
theorem c_150_25 : (zm_cd 150)[25]? = some ((41, .iconst 1, 1, 0, 0, 0, 1, 0, []) : zm_E) := (congrArg (fun l => l[25]?) cd_150).trans rfl
theorem c_150_26 : (zm_cd 150)[26]? = some ((42, .isub, 1, 0, 0, 0, 0, 0, []) : zm_E) := (congrArg (fun l => l[26]?) cd_150).trans rfl
theorem c_150_27 : (zm_cd 150)[27]? = some ((43, .iand, 1, 0, 0, 0, 0, 0, []) : zm_E) := (congrArg (fun l => l[27]?) cd_150).trans rfl
theorem c_150_28 : (zm_cd 150)[28]? = some ((44, .invokestatic 84, 3, 207, 1, 1, 0, 0, []) : zm_E) := (congrArg (fun l => l[28]?) cd_150).trans rfl
theorem c_150_29 : (zm_cd 150)[29]? = some ((47, .iadd, 1, 0, 0, 0, 0, 0, []) : zm_E) := (congrArg (fun l => l[29]?) cd_150).trans rfl
theorem c_150_30 : (zm_cd 150)[30]? = some ((48, .istore_n 1, 1, 1, 0, 0, 0, 0, []) : zm_E) := (congrArg (fun l => l[30]?) cd_150).trans rfl
theorem c_150_31 : (zm_cd 150)[31]? = some ((49, .iload_n 2, 1, 2, 0, 0, 0, 0, []) : zm_E) := (congrArg (fun l => l[31]?) cd_150).trans rfl
theorem c_150_32 : (zm_cd 150)[32]? = some ((50, .iload 4, 2, 4, 0, 0, 0, 0, []) : zm_E) := (congrArg (fun l => l[32]?) cd_150).trans rfl
theorem c_150_33 : (zm_cd 150)[33]? = some ((52, .invokestatic 80, 3, 36, 1, 1, 1, 0, []) : zm_E) := (congrArg (fun l => l[33]?) cd_150).trans rfl
theorem c_150_34 : (zm_cd 150)[34]? = some ((55, .iconst (-1), 1, 0, 0, 0, (-1), 0, []) : zm_E) := (congrArg (fun l => l[34]?) cd_150).trans rfl
theorem c_150_35 : (zm_cd 150)[35]? = some ((56, .ixor, 1, 0, 0, 0, 0, 0, []) : zm_E) := (congrArg (fun l => l[35]?) cd_150).trans rfl
theorem c_150_36 : (zm_cd 150)[36]? = some ((57, .iand, 1, 0, 0, 0, 0, 0, []) : zm_E) := (congrArg (fun l => l[36]?) cd_150).trans rfl
theorem c_150_37 : (zm_cd 150)[37]? = some ((58, .istore_n 2, 1, 2, 0, 0, 0, 0, []) : zm_E) := (congrArg (fun l => l[37]?) cd_150).trans rfl
theorem c_150_38 : (zm_cd 150)[38]? = some ((59, .iinc 3 1, 3, 3, 0, 0, 1, 0, []) : zm_E) := (congrArg (fun l => l[38]?) cd_150).trans rfl
theorem c_150_39 : (zm_cd 150)[39]? = some ((62, .goto (-53), 3, 7, 0, 0, 0, 0, []) : zm_E) := (congrArg (fun l => l[39]?) cd_150).trans rfl
theorem c_150_40 : (zm_cd 150)[40]? = some ((65, .iload_n 1, 1, 1, 0, 0, 0, 0, []) : zm_E) := (congrArg (fun l => l[40]?) cd_150).trans rfl
theorem c_150_41 : (zm_cd 150)[41]? = some ((66, .ireturn, 1, 0, 0, 0, 0, 0, []) : zm_E) := (congrArg (fun l => l[41]?) cd_150).trans rfl
theorem cd_151 : zm_cd 151 = zd_151 := rfl
theorem ml_151 : zm_ml 151 = 3 := rfl
theorem ht_151 : zm_ht 151 = [] := rfl
theorem c_151_0 : (zm_cd 151)[0]? = some ((0, .iconst 0, 1, 0, 0, 0, 0, 0, []) : zm_E) := (congrArg (fun l => l[0]?) cd_151).trans rfl
theorem c_151_1 : (zm_cd 151)[1]? = some ((1, .istore_n 1, 1, 1, 0, 0, 0, 0, []) : zm_E) := (congrArg (fun l => l[1]?) cd_151).trans rfl
theorem c_151_2 : (zm_cd 151)[2]? = some ((2, .iconst 0, 1, 0, 0, 0, 0, 0, []) : zm_E) := (congrArg (fun l => l[2]?) cd_151).trans rfl
theorem c_151_3 : (zm_cd 151)[3]? = some ((3, .istore_n 2, 1, 2, 0, 0, 0, 0, []) : zm_E) := (congrArg (fun l => l[3]?) cd_151).trans rfl
theorem c_151_4 : (zm_cd 151)[4]? = some ((4, .iload_n 2, 1, 2, 0, 0, 0, 0, []) : zm_E) := (congrArg (fun l => l[4]?) cd_151).trans rfl
theorem c_151_5 : (zm_cd 151)[5]? = some ((5, .aload_n 0, 1, 0, 0, 0, 0, 0, []) : zm_E) := (congrArg (fun l => l[5]?) cd_151).trans rfl
theorem c_151_6 : (zm_cd 151)[6]? = some ((6, .getfield 54, 3, 1, 0, 0, 0, 0, []) : zm_E) := (congrArg (fun l => l[6]?) cd_151).trans rfl
theorem c_151_7 : (zm_cd 151)[7]? = some ((9, .if_icmp .ge 24, 3, 21, 0, 0, 0, 0, []) : zm_E) := (congrArg (fun l => l[7]?) cd_151).trans rfl
theorem c_151_8 : (zm_cd 151)[8]? = some ((12, .iload_n 1, 1, 1, 0, 0, 0, 0, []) : zm_E) := (congrArg (fun l => l[8]?) cd_151).trans rfl
theorem c_151_9 : (zm_cd 151)[9]? = some ((13, .aload_n 0, 1, 0, 0, 0, 0, 0, []) : zm_E) := (congrArg (fun l => l[9]?) cd_151).trans rfl
theorem c_151_10 : (zm_cd 151)[10]? = some ((14, .getfield 25, 3, 1, 3, 1, 0, 0, []) : zm_E) := (congrArg (fun l => l[10]?) cd_151).trans rfl
theorem c_151_11 : (zm_cd 151)[11]? = some ((17, .iload_n 2, 1, 2, 0, 0, 0, 0, []) : zm_E) := (congrArg (fun l => l[11]?) cd_151).trans rfl
theorem c_151_12 : (zm_cd 151)[12]? = some ((18, .invokestatic 28, 3, 209, 2, 1, 1, 0, []) : zm_E) := (congrArg (fun l => l[12]?) cd_151).trans rfl
theorem c_151_13 : (zm_cd 151)[13]? = some ((21, .iload_n 2, 1, 2, 0, 0, 0, 0, []) : zm_E) := (congrArg (fun l => l[13]?) cd_151).trans rfl
theorem c_151_14 : (zm_cd 151)[14]? = some ((22, .iconst 3, 1, 0, 0, 0, 3, 0, []) : zm_E) := (congrArg (fun l => l[14]?) cd_151).trans rfl
theorem c_151_15 : (zm_cd 151)[15]? = some ((23, .imul, 1, 0, 0, 0, 0, 0, []) : zm_E) := (congrArg (fun l => l[15]?) cd_151).trans rfl
theorem c_151_16 : (zm_cd 151)[16]? = some ((24, .ishl, 1, 0, 0, 0, 0, 0, []) : zm_E) := (congrArg (fun l => l[16]?) cd_151).trans rfl
theorem c_151_17 : (zm_cd 151)[17]? = some ((25, .ior, 1, 0, 0, 0, 0, 0, []) : zm_E) := (congrArg (fun l => l[17]?) cd_151).trans rfl
theorem c_151_18 : (zm_cd 151)[18]? = some ((26, .istore_n 1, 1, 1, 0, 0, 0, 0, []) : zm_E) := (congrArg (fun l => l[18]?) cd_151).trans rfl
theorem c_151_19 : (zm_cd 151)[19]? = some ((27, .iinc 2 1, 3, 2, 0, 0, 1, 0, []) : zm_E) := (congrArg (fun l => l[19]?) cd_151).trans rfl
theorem c_151_20 : (zm_cd 151)[20]? = some ((30, .goto (-26), 3, 4, 0, 0, 0, 0, []) : zm_E) := (congrArg (fun l => l[20]?) cd_151).trans rfl
theorem c_151_21 : (zm_cd 151)[21]? = some ((33, .iload_n 1, 1, 1, 0, 0, 0, 0, []) : zm_E) := (congrArg (fun l => l[21]?) cd_151).trans rfl
theorem c_151_22 : (zm_cd 151)[22]? = some ((34, .ireturn, 1, 0, 0, 0, 0, 0, []) : zm_E) := (congrArg (fun l => l[22]?) cd_151).trans rfl
theorem cd_152 : zm_cd 152 = zd_152 := rfl
theorem ml_152 : zm_ml 152 = 3 := rfl
theorem ht_152 : zm_ht 152 = [] := rfl
theorem c_152_0 : (zm_cd 152)[0]? = some ((0, .iconst 0, 1, 0, 0, 0, 0, 0, []) : zm_E) := (congrArg (fun l => l[0]?) cd_152).trans rfl
theorem c_152_1 : (zm_cd 152)[1]? = some ((1, .istore_n 2, 1, 2, 0, 0, 0, 0, []) : zm_E) := (congrArg (fun l => l[1]?) cd_152).trans rfl
theorem c_152_2 : (zm_cd 152)[2]? = some ((2, .iload_n 2, 1, 2, 0, 0, 0, 0, []) : zm_E) := (congrArg (fun l => l[2]?) cd_152).trans rfl
theorem c_152_3 : (zm_cd 152)[3]? = some ((3, .aload_n 1, 1, 1, 0, 0, 0, 0, []) : zm_E) := (congrArg (fun l => l[3]?) cd_152).trans rfl
theorem c_152_4 : (zm_cd 152)[4]? = some ((4, .getfield 54, 3, 1, 0, 0, 0, 0, []) : zm_E) := (congrArg (fun l => l[4]?) cd_152).trans rfl
theorem c_152_5 : (zm_cd 152)[5]? = some ((7, .if_icmp .ge 25, 3, 19, 0, 0, 0, 0, []) : zm_E) := (congrArg (fun l => l[5]?) cd_152).trans rfl
theorem c_152_6 : (zm_cd 152)[6]? = some ((10, .aload_n 1, 1, 1, 0, 0, 0, 0, []) : zm_E) := (congrArg (fun l => l[6]?) cd_152).trans rfl
theorem c_152_7 : (zm_cd 152)[7]? = some ((11, .getfield 25, 3, 1, 3, 1, 0, 0, []) : zm_E) := (congrArg (fun l => l[7]?) cd_152).trans rfl
theorem c_152_8 : (zm_cd 152)[8]? = some ((14, .iload_n 2, 1, 2, 0, 0, 0, 0, []) : zm_E) := (congrArg (fun l => l[8]?) cd_152).trans rfl
theorem c_152_9 : (zm_cd 152)[9]? = some ((15, .iload_n 0, 1, 0, 0, 0, 0, 0, []) : zm_E) := (congrArg (fun l => l[9]?) cd_152).trans rfl
theorem c_152_10 : (zm_cd 152)[10]? = some ((16, .iload_n 2, 1, 2, 0, 0, 0, 0, []) : zm_E) := (congrArg (fun l => l[10]?) cd_152).trans rfl
theorem c_152_11 : (zm_cd 152)[11]? = some ((17, .iconst 3, 1, 0, 0, 0, 3, 0, []) : zm_E) := (congrArg (fun l => l[11]?) cd_152).trans rfl
theorem c_152_12 : (zm_cd 152)[12]? = some ((18, .imul, 1, 0, 0, 0, 0, 0, []) : zm_E) := (congrArg (fun l => l[12]?) cd_152).trans rfl
theorem c_152_13 : (zm_cd 152)[13]? = some ((19, .ishr, 1, 0, 0, 0, 0, 0, []) : zm_E) := (congrArg (fun l => l[13]?) cd_152).trans rfl
theorem c_152_14 : (zm_cd 152)[14]? = some ((20, .bipush 7, 2, 0, 0, 0, 7, 0, []) : zm_E) := (congrArg (fun l => l[14]?) cd_152).trans rfl
theorem c_152_15 : (zm_cd 152)[15]? = some ((22, .iand, 1, 0, 0, 0, 0, 0, []) : zm_E) := (congrArg (fun l => l[15]?) cd_152).trans rfl
theorem c_152_16 : (zm_cd 152)[16]? = some ((23, .invokestatic 72, 3, 210, 3, 0, 1, 0, []) : zm_E) := (congrArg (fun l => l[16]?) cd_152).trans rfl
theorem c_152_17 : (zm_cd 152)[17]? = some ((26, .iinc 2 1, 3, 2, 0, 0, 1, 0, []) : zm_E) := (congrArg (fun l => l[17]?) cd_152).trans rfl
theorem c_152_18 : (zm_cd 152)[18]? = some ((29, .goto (-27), 3, 2, 0, 0, 0, 0, []) : zm_E) := (congrArg (fun l => l[18]?) cd_152).trans rfl
theorem c_152_19 : (zm_cd 152)[19]? = some ((32, .return_, 1, 0, 0, 0, 0, 0, []) : zm_E) := (congrArg (fun l => l[19]?) cd_152).trans rfl
theorem cd_154 : zm_cd 154 = zd_154 := rfl
theorem ml_154 : zm_ml 154 = 6 := rfl
theorem ht_154 : zm_ht 154 = [] := rfl
theorem c_154_0 : (zm_cd 154)[0]? = some ((0, .aload_n 0, 1, 0, 0, 0, 0, 0, []) : zm_E) := (congrArg (fun l => l[0]?) cd_154).trans rfl
theorem c_154_1 : (zm_cd 154)[1]? = some ((1, .aload_n 1, 1, 1, 0, 0, 0, 0, []) : zm_E) := (congrArg (fun l => l[1]?) cd_154).trans rfl
theorem c_154_2 : (zm_cd 154)[2]? = some ((2, .invokevirtual 27, 3, 158, 1, 0, 0, 0, [4]) : zm_E) := (congrArg (fun l => l[2]?) cd_154).trans rfl
theorem c_154_3 : (zm_cd 154)[3]? = some ((5, .bipush (-9), 2, 0, 0, 0, (-9), 0, []) : zm_E) := (congrArg (fun l => l[3]?) cd_154).trans rfl
theorem c_154_4 : (zm_cd 154)[4]? = some ((7, .istore_n 3, 1, 3, 0, 0, 0, 0, []) : zm_E) := (congrArg (fun l => l[4]?) cd_154).trans rfl
theorem c_154_5 : (zm_cd 154)[5]? = some ((8, .iconst 1, 1, 0, 0, 0, 1, 0, []) : zm_E) := (congrArg (fun l => l[5]?) cd_154).trans rfl
theorem c_154_6 : (zm_cd 154)[6]? = some ((9, .istore 4, 2, 4, 0, 0, 0, 0, []) : zm_E) := (congrArg (fun l => l[6]?) cd_154).trans rfl
theorem c_154_7 : (zm_cd 154)[7]? = some ((11, .iload 4, 2, 4, 0, 0, 0, 0, []) : zm_E) := (congrArg (fun l => l[7]?) cd_154).trans rfl
theorem c_154_8 : (zm_cd 154)[8]? = some ((13, .aload_n 1, 1, 1, 0, 0, 0, 0, []) : zm_E) := (congrArg (fun l => l[8]?) cd_154).trans rfl
theorem c_154_9 : (zm_cd 154)[9]? = some ((14, .invokevirtual 31, 3, 117, 0, 1, 0, 0, [1]) : zm_E) := (congrArg (fun l => l[9]?) cd_154).trans rfl
theorem c_154_10 : (zm_cd 154)[10]? = some ((17, .if_icmp .gt 53, 3, 35, 0, 0, 0, 0, []) : zm_E) := (congrArg (fun l => l[10]?) cd_154).trans rfl
theorem c_154_11 : (zm_cd 154)[11]? = some ((20, .iload_n 3, 1, 3, 0, 0, 0, 0, []) : zm_E) := (congrArg (fun l => l[11]?) cd_154).trans rfl
theorem c_154_12 : (zm_cd 154)[12]? = some ((21, .bipush (-9), 2, 0, 0, 0, (-9), 0, []) : zm_E) := (congrArg (fun l => l[12]?) cd_154).trans rfl
theorem c_154_13 : (zm_cd 154)[13]? = some ((23, .if_icmp .eq 15, 3, 19, 0, 0, 0, 0, []) : zm_E) := (congrArg (fun l => l[13]?) cd_154).trans rfl
theorem c_154_14 : (zm_cd 154)[14]? = some ((26, .iload 4, 2, 4, 0, 0, 0, 0, []) : zm_E) := (congrArg (fun l => l[14]?) cd_154).trans rfl
theorem c_154_15 : (zm_cd 154)[15]? = some ((28, .invokestatic 37, 3, 207, 1, 1, 0, 0, []) : zm_E) := (congrArg (fun l => l[15]?) cd_154).trans rfl
theorem c_154_16 : (zm_cd 154)[16]? = some ((31, .iload_n 3, 1, 3, 0, 0, 0, 0, []) : zm_E) := (congrArg (fun l => l[16]?) cd_154).trans rfl
theorem c_154_17 : (zm_cd 154)[17]? = some ((32, .invokestatic 37, 3, 207, 1, 1, 0, 0, []) : zm_E) := (congrArg (fun l => l[17]?) cd_154).trans rfl
theorem c_154_18 : (zm_cd 154)[18]? = some ((35, .if_icmp .ge 7, 3, 21, 0, 0, 0, 0, []) : zm_E) := (congrArg (fun l => l[18]?) cd_154).trans rfl
theorem c_154_19 : (zm_cd 154)[19]? = some ((38, .iconst 1, 1, 0, 0, 0, 1, 0, []) : zm_E) := (congrArg (fun l => l[19]?) cd_154).trans rfl
theorem c_154_20 : (zm_cd 154)[20]? = some ((39, .goto 4, 3, 22, 0, 0, 0, 0, []) : zm_E) := (congrArg (fun l => l[20]?) cd_154).trans rfl
theorem c_154_21 : (zm_cd 154)[21]? = some ((42, .iconst 0, 1, 0, 0, 0, 0, 0, []) : zm_E) := (congrArg (fun l => l[21]?) cd_154).trans rfl
theorem c_154_22 : (zm_cd 154)[22]? = some ((43, .istore 5, 2, 5, 0, 0, 0, 0, []) : zm_E) := (congrArg (fun l => l[22]?) cd_154).trans rfl
theorem c_154_23 : (zm_cd 154)[23]? = some ((45, .iload 5, 2, 5, 0, 0, 0, 0, []) : zm_E) := (congrArg (fun l => l[23]?) cd_154).trans rfl
theorem c_154_24 : (zm_cd 154)[24]? = some ((47, .ifCond .eq 17, 3, 33, 0, 0, 0, 0, []) : zm_E) := (congrArg (fun l => l[24]?) cd_154).trans rfl
theorem c_154_25 : (zm_cd 154)[25]? = some ((50, .aload_n 0, 1, 0, 0, 0, 0, 0, []) : zm_E) := (congrArg (fun l => l[25]?) cd_154).trans rfl
theorem c_154_26 : (zm_cd 154)[26]? = some ((51, .aload_n 1, 1, 1, 0, 0, 0, 0, []) : zm_E) := (congrArg (fun l => l[26]?) cd_154).trans rfl
theorem c_154_27 : (zm_cd 154)[27]? = some ((52, .iload 4, 2, 4, 0, 0, 0, 0, []) : zm_E) := (congrArg (fun l => l[27]?) cd_154).trans rfl
theorem c_154_28 : (zm_cd 154)[28]? = some ((54, .iload_n 2, 1, 2, 0, 0, 0, 0, []) : zm_E) := (congrArg (fun l => l[28]?) cd_154).trans rfl
theorem c_154_29 : (zm_cd 154)[29]? = some ((55, .invokevirtual 43, 3, 156, 3, 1, 0, 0, [4]) : zm_E) := (congrArg (fun l => l[29]?) cd_154).trans rfl
theorem c_154_30 : (zm_cd 154)[30]? = some ((58, .ifCond .eq 6, 3, 33, 0, 0, 0, 0, []) : zm_E) := (congrArg (fun l => l[30]?) cd_154).trans rfl
theorem c_154_31 : (zm_cd 154)[31]? = some ((61, .iload 4, 2, 4, 0, 0, 0, 0, []) : zm_E) := (congrArg (fun l => l[31]?) cd_154).trans rfl
theorem c_154_32 : (zm_cd 154)[32]? = some ((63, .istore_n 3, 1, 3, 0, 0, 0, 0, []) : zm_E) := (congrArg (fun l => l[32]?) cd_154).trans rfl
theorem c_154_33 : (zm_cd 154)[33]? = some ((64, .iinc 4 1, 3, 4, 0, 0, 1, 0, []) : zm_E) := (congrArg (fun l => l[33]?) cd_154).trans rfl
theorem c_154_34 : (zm_cd 154)[34]? = some ((67, .goto (-56), 3, 7, 0, 0, 0, 0, []) : zm_E) := (congrArg (fun l => l[34]?) cd_154).trans rfl
theorem c_154_35 : (zm_cd 154)[35]? = some ((70, .iload_n 3, 1, 3, 0, 0, 0, 0, []) : zm_E) := (congrArg (fun l => l[35]?) cd_154).trans rfl
theorem c_154_36 : (zm_cd 154)[36]? = some ((71, .ireturn, 1, 0, 0, 0, 0, 0, []) : zm_E) := (congrArg (fun l => l[36]?) cd_154).trans rfl
theorem cd_155 : zm_cd 155 = zd_155 := rfl
theorem ml_155 : zm_ml 155 = 5 := rfl
theorem ht_155 : zm_ht 155 = [] := rfl
theorem c_155_0 : (zm_cd 155)[0]? = some ((0, .aload_n 0, 1, 0, 0, 0, 0, 0, []) : zm_E) := (congrArg (fun l => l[0]?) cd_155).trans rfl
theorem c_155_1 : (zm_cd 155)[1]? = some ((1, .aload_n 1, 1, 1, 0, 0, 0, 0, []) : zm_E) := (congrArg (fun l => l[1]?) cd_155).trans rfl
theorem c_155_2 : (zm_cd 155)[2]? = some ((2, .invokevirtual 27, 3, 158, 1, 0, 0, 0, [4]) : zm_E) := (congrArg (fun l => l[2]?) cd_155).trans rfl
theorem c_155_3 : (zm_cd 155)[3]? = some ((5, .iconst 0, 1, 0, 0, 0, 0, 0, []) : zm_E) := (congrArg (fun l => l[3]?) cd_155).trans rfl
theorem c_155_4 : (zm_cd 155)[4]? = some ((6, .istore_n 3, 1, 3, 0, 0, 0, 0, []) : zm_E) := (congrArg (fun l => l[4]?) cd_155).trans rfl
theorem c_155_5 : (zm_cd 155)[5]? = some ((7, .iconst 1, 1, 0, 0, 0, 1, 0, []) : zm_E) := (congrArg (fun l => l[5]?) cd_155).trans rfl
theorem c_155_6 : (zm_cd 155)[6]? = some ((8, .istore 4, 2, 4, 0, 0, 0, 0, []) : zm_E) := (congrArg (fun l => l[6]?) cd_155).trans rfl
theorem c_155_7 : (zm_cd 155)[7]? = some ((10, .iload 4, 2, 4, 0, 0, 0, 0, []) : zm_E) := (congrArg (fun l => l[7]?) cd_155).trans rfl
theorem c_155_8 : (zm_cd 155)[8]? = some ((12, .aload_n 1, 1, 1, 0, 0, 0, 0, []) : zm_E) := (congrArg (fun l => l[8]?) cd_155).trans rfl
theorem c_155_9 : (zm_cd 155)[9]? = some ((13, .invokevirtual 31, 3, 117, 0, 1, 0, 0, [1]) : zm_E) := (congrArg (fun l => l[9]?) cd_155).trans rfl
theorem c_155_10 : (zm_cd 155)[10]? = some ((16, .if_icmp .gt 23, 3, 20, 0, 0, 0, 0, []) : zm_E) := (congrArg (fun l => l[10]?) cd_155).trans rfl
theorem c_155_11 : (zm_cd 155)[11]? = some ((19, .aload_n 0, 1, 0, 0, 0, 0, 0, []) : zm_E) := (congrArg (fun l => l[11]?) cd_155).trans rfl
theorem c_155_12 : (zm_cd 155)[12]? = some ((20, .aload_n 1, 1, 1, 0, 0, 0, 0, []) : zm_E) := (congrArg (fun l => l[12]?) cd_155).trans rfl
theorem c_155_13 : (zm_cd 155)[13]? = some ((21, .iload 4, 2, 4, 0, 0, 0, 0, []) : zm_E) := (congrArg (fun l => l[13]?) cd_155).trans rfl
theorem c_155_14 : (zm_cd 155)[14]? = some ((23, .iload_n 2, 1, 2, 0, 0, 0, 0, []) : zm_E) := (congrArg (fun l => l[14]?) cd_155).trans rfl
theorem c_155_15 : (zm_cd 155)[15]? = some ((24, .invokevirtual 43, 3, 156, 3, 1, 0, 0, [4]) : zm_E) := (congrArg (fun l => l[15]?) cd_155).trans rfl
theorem c_155_16 : (zm_cd 155)[16]? = some ((27, .ifCond .eq 6, 3, 18, 0, 0, 0, 0, []) : zm_E) := (congrArg (fun l => l[16]?) cd_155).trans rfl
theorem c_155_17 : (zm_cd 155)[17]? = some ((30, .iinc 3 1, 3, 3, 0, 0, 1, 0, []) : zm_E) := (congrArg (fun l => l[17]?) cd_155).trans rfl
theorem c_155_18 : (zm_cd 155)[18]? = some ((33, .iinc 4 1, 3, 4, 0, 0, 1, 0, []) : zm_E) := (congrArg (fun l => l[18]?) cd_155).trans rfl
theorem c_155_19 : (zm_cd 155)[19]? = some ((36, .goto (-26), 3, 7, 0, 0, 0, 0, []) : zm_E) := (congrArg (fun l => l[19]?) cd_155).trans rfl
theorem c_155_20 : (zm_cd 155)[20]? = some ((39, .iload_n 3, 1, 3, 0, 0, 0, 0, []) : zm_E) := (congrArg (fun l => l[20]?) cd_155).trans rfl
theorem c_155_21 : (zm_cd 155)[21]? = some ((40, .ireturn, 1, 0, 0, 0, 0, 0, []) : zm_E) := (congrArg (fun l => l[21]?) cd_155).trans rfl
theorem cd_156 : zm_cd 156 = zd_156 := rfl
theorem ml_156 : zm_ml 156 = 4 := rfl
theorem ht_156 : zm_ht 156 = [] := rfl
theorem c_156_0 : (zm_cd 156)[0]? = some ((0, .aload_n 0, 1, 0, 0, 0, 0, 0, []) : zm_E) := (congrArg (fun l => l[0]?) cd_156).trans rfl
theorem c_156_1 : (zm_cd 156)[1]? = some ((1, .aload_n 1, 1, 1, 0, 0, 0, 0, []) : zm_E) := (congrArg (fun l => l[1]?) cd_156).trans rfl
theorem c_156_2 : (zm_cd 156)[2]? = some ((2, .iload_n 2, 1, 2, 0, 0, 0, 0, []) : zm_E) := (congrArg (fun l => l[2]?) cd_156).trans rfl
theorem c_156_3 : (zm_cd 156)[3]? = some ((3, .invokevirtual 47, 3, 159, 2, 0, 0, 0, [4]) : zm_E) := (congrArg (fun l => l[3]?) cd_156).trans rfl
theorem c_156_4 : (zm_cd 156)[4]? = some ((6, .iload_n 3, 1, 3, 0, 0, 0, 0, []) : zm_E) := (congrArg (fun l => l[4]?) cd_156).trans rfl
theorem c_156_5 : (zm_cd 156)[5]? = some ((7, .ifCond .eq 23, 3, 16, 0, 0, 0, 0, []) : zm_E) := (congrArg (fun l => l[5]?) cd_156).trans rfl
theorem c_156_6 : (zm_cd 156)[6]? = some ((10, .aload_n 0, 1, 0, 0, 0, 0, 0, []) : zm_E) := (congrArg (fun l => l[6]?) cd_156).trans rfl
theorem c_156_7 : (zm_cd 156)[7]? = some ((11, .iload_n 2, 1, 2, 0, 0, 0, 0, []) : zm_E) := (congrArg (fun l => l[7]?) cd_156).trans rfl
theorem c_156_8 : (zm_cd 156)[8]? = some ((12, .aload_n 0, 1, 0, 0, 0, 0, 0, []) : zm_E) := (congrArg (fun l => l[8]?) cd_156).trans rfl
theorem c_156_9 : (zm_cd 156)[9]? = some ((13, .getfield 9, 3, 4, 0, 1, 0, 0, []) : zm_E) := (congrArg (fun l => l[9]?) cd_156).trans rfl
theorem c_156_10 : (zm_cd 156)[10]? = some ((16, .invokevirtual 51, 3, 160, 2, 1, 0, 0, [4]) : zm_E) := (congrArg (fun l => l[10]?) cd_156).trans rfl
theorem c_156_11 : (zm_cd 156)[11]? = some ((19, .ifCond .le 7, 3, 14, 0, 0, 0, 0, []) : zm_E) := (congrArg (fun l => l[11]?) cd_156).trans rfl
theorem c_156_12 : (zm_cd 156)[12]? = some ((22, .iconst 1, 1, 0, 0, 0, 1, 0, []) : zm_E) := (congrArg (fun l => l[12]?) cd_156).trans rfl
theorem c_156_13 : (zm_cd 156)[13]? = some ((23, .goto 33, 3, 30, 0, 0, 0, 0, []) : zm_E) := (congrArg (fun l => l[13]?) cd_156).trans rfl
theorem c_156_14 : (zm_cd 156)[14]? = some ((26, .iconst 0, 1, 0, 0, 0, 0, 0, []) : zm_E) := (congrArg (fun l => l[14]?) cd_156).trans rfl
theorem c_156_15 : (zm_cd 156)[15]? = some ((27, .goto 29, 3, 30, 0, 0, 0, 0, []) : zm_E) := (congrArg (fun l => l[15]?) cd_156).trans rfl
theorem c_156_16 : (zm_cd 156)[16]? = some ((30, .aload_n 0, 1, 0, 0, 0, 0, 0, []) : zm_E) := (congrArg (fun l => l[16]?) cd_156).trans rfl
theorem c_156_17 : (zm_cd 156)[17]? = some ((31, .iload_n 2, 1, 2, 0, 0, 0, 0, []) : zm_E) := (congrArg (fun l => l[17]?) cd_156).trans rfl
theorem c_156_18 : (zm_cd 156)[18]? = some ((32, .aload_n 0, 1, 0, 0, 0, 0, 0, []) : zm_E) := (congrArg (fun l => l[18]?) cd_156).trans rfl
theorem c_156_19 : (zm_cd 156)[19]? = some ((33, .getfield 18, 3, 4, 2, 1, 0, 0, []) : zm_E) := (congrArg (fun l => l[19]?) cd_156).trans rfl
theorem c_156_20 : (zm_cd 156)[20]? = some ((36, .invokevirtual 51, 3, 160, 2, 1, 0, 0, [4]) : zm_E) := (congrArg (fun l => l[20]?) cd_156).trans rfl
theorem c_156_21 : (zm_cd 156)[21]? = some ((39, .aload_n 0, 1, 0, 0, 0, 0, 0, []) : zm_E) := (congrArg (fun l => l[21]?) cd_156).trans rfl
theorem c_156_22 : (zm_cd 156)[22]? = some ((40, .iload_n 2, 1, 2, 0, 0, 0, 0, []) : zm_E) := (congrArg (fun l => l[22]?) cd_156).trans rfl
theorem c_156_23 : (zm_cd 156)[23]? = some ((41, .aload_n 0, 1, 0, 0, 0, 0, 0, []) : zm_E) := (congrArg (fun l => l[23]?) cd_156).trans rfl
theorem c_156_24 : (zm_cd 156)[24]? = some ((42, .getfield 15, 3, 4, 1, 1, 0, 0, []) : zm_E) := (congrArg (fun l => l[24]?) cd_156).trans rfl
theorem c_156_25 : (zm_cd 156)[25]? = some ((45, .invokevirtual 51, 3, 160, 2, 1, 0, 0, [4]) : zm_E) := (congrArg (fun l => l[25]?) cd_156).trans rfl
theorem c_156_26 : (zm_cd 156)[26]? = some ((48, .if_icmp .le 7, 3, 29, 0, 0, 0, 0, []) : zm_E) := (congrArg (fun l => l[26]?) cd_156).trans rfl
theorem c_156_27 : (zm_cd 156)[27]? = some ((51, .iconst 1, 1, 0, 0, 0, 1, 0, []) : zm_E) := (congrArg (fun l => l[27]?) cd_156).trans rfl
theorem c_156_28 : (zm_cd 156)[28]? = some ((52, .goto 4, 3, 30, 0, 0, 0, 0, []) : zm_E) := (congrArg (fun l => l[28]?) cd_156).trans rfl
theorem c_156_29 : (zm_cd 156)[29]? = some ((55, .iconst 0, 1, 0, 0, 0, 0, 0, []) : zm_E) := (congrArg (fun l => l[29]?) cd_156).trans rfl
theorem c_156_30 : (zm_cd 156)[30]? = some ((56, .ireturn, 1, 1, 0, 0, 0, 0, []) : zm_E) := (congrArg (fun l => l[30]?) cd_156).trans rfl
theorem cd_157 : zm_cd 157 = zd_157 := rfl
theorem ml_157 : zm_ml 157 = 3 := rfl
theorem ht_157 : zm_ht 157 = [] := rfl
theorem c_157_0 : (zm_cd 157)[0]? = some ((0, .aload_n 0, 1, 0, 0, 0, 0, 0, []) : zm_E) := (congrArg (fun l => l[0]?) cd_157).trans rfl
theorem c_157_1 : (zm_cd 157)[1]? = some ((1, .aload_n 1, 1, 1, 0, 0, 0, 0, []) : zm_E) := (congrArg (fun l => l[1]?) cd_157).trans rfl
theorem c_157_2 : (zm_cd 157)[2]? = some ((2, .invokevirtual 27, 3, 158, 1, 0, 0, 0, [4]) : zm_E) := (congrArg (fun l => l[2]?) cd_157).trans rfl
theorem c_157_3 : (zm_cd 157)[3]? = some ((5, .aload_n 0, 1, 0, 0, 0, 0, 0, []) : zm_E) := (congrArg (fun l => l[3]?) cd_157).trans rfl
theorem c_157_4 : (zm_cd 157)[4]? = some ((6, .aload_n 1, 1, 1, 0, 0, 0, 0, []) : zm_E) := (congrArg (fun l => l[4]?) cd_157).trans rfl
theorem c_157_5 : (zm_cd 157)[5]? = some ((7, .aload_n 1, 1, 1, 0, 0, 0, 0, []) : zm_E) := (congrArg (fun l => l[5]?) cd_157).trans rfl
theorem c_157_6 : (zm_cd 157)[6]? = some ((8, .invokevirtual 55, 3, 118, 0, 1, 0, 0, [1]) : zm_E) := (congrArg (fun l => l[6]?) cd_157).trans rfl
theorem c_157_7 : (zm_cd 157)[7]? = some ((11, .invokevirtual 47, 3, 159, 2, 0, 0, 0, [4]) : zm_E) := (congrArg (fun l => l[7]?) cd_157).trans rfl
theorem c_157_8 : (zm_cd 157)[8]? = some ((14, .aload_n 1, 1, 1, 0, 0, 0, 0, []) : zm_E) := (congrArg (fun l => l[8]?) cd_157).trans rfl
theorem c_157_9 : (zm_cd 157)[9]? = some ((15, .aload_n 1, 1, 1, 0, 0, 0, 0, []) : zm_E) := (congrArg (fun l => l[9]?) cd_157).trans rfl
theorem c_157_10 : (zm_cd 157)[10]? = some ((16, .invokevirtual 55, 3, 118, 0, 1, 0, 0, [1]) : zm_E) := (congrArg (fun l => l[10]?) cd_157).trans rfl
theorem c_157_11 : (zm_cd 157)[11]? = some ((19, .invokevirtual 58, 3, 126, 1, 1, 0, 0, [1]) : zm_E) := (congrArg (fun l => l[11]?) cd_157).trans rfl
theorem c_157_12 : (zm_cd 157)[12]? = some ((22, .istore_n 2, 1, 2, 0, 0, 0, 0, []) : zm_E) := (congrArg (fun l => l[12]?) cd_157).trans rfl
theorem c_157_13 : (zm_cd 157)[13]? = some ((23, .aload_n 0, 1, 0, 0, 0, 0, 0, []) : zm_E) := (congrArg (fun l => l[13]?) cd_157).trans rfl
theorem c_157_14 : (zm_cd 157)[14]? = some ((24, .iload_n 2, 1, 2, 0, 0, 0, 0, []) : zm_E) := (congrArg (fun l => l[14]?) cd_157).trans rfl
theorem c_157_15 : (zm_cd 157)[15]? = some ((25, .aload_n 0, 1, 0, 0, 0, 0, 0, []) : zm_E) := (congrArg (fun l => l[15]?) cd_157).trans rfl
theorem c_157_16 : (zm_cd 157)[16]? = some ((26, .getfield 18, 3, 4, 2, 1, 0, 0, []) : zm_E) := (congrArg (fun l => l[16]?) cd_157).trans rfl
theorem c_157_17 : (zm_cd 157)[17]? = some ((29, .invokevirtual 51, 3, 160, 2, 1, 0, 0, [4]) : zm_E) := (congrArg (fun l => l[17]?) cd_157).trans rfl
theorem c_157_18 : (zm_cd 157)[18]? = some ((32, .aload_n 0, 1, 0, 0, 0, 0, 0, []) : zm_E) := (congrArg (fun l => l[18]?) cd_157).trans rfl
theorem c_157_19 : (zm_cd 157)[19]? = some ((33, .iload_n 2, 1, 2, 0, 0, 0, 0, []) : zm_E) := (congrArg (fun l => l[19]?) cd_157).trans rfl
theorem c_157_20 : (zm_cd 157)[20]? = some ((34, .aload_n 0, 1, 0, 0, 0, 0, 0, []) : zm_E) := (congrArg (fun l => l[20]?) cd_157).trans rfl
theorem c_157_21 : (zm_cd 157)[21]? = some ((35, .getfield 15, 3, 4, 1, 1, 0, 0, []) : zm_E) := (congrArg (fun l => l[21]?) cd_157).trans rfl
theorem c_157_22 : (zm_cd 157)[22]? = some ((38, .invokevirtual 51, 3, 160, 2, 1, 0, 0, [4]) : zm_E) := (congrArg (fun l => l[22]?) cd_157).trans rfl
theorem c_157_23 : (zm_cd 157)[23]? = some ((41, .isub, 1, 0, 0, 0, 0, 0, []) : zm_E) := (congrArg (fun l => l[23]?) cd_157).trans rfl
theorem c_157_24 : (zm_cd 157)[24]? = some ((42, .ireturn, 1, 0, 0, 0, 0, 0, []) : zm_E) := (congrArg (fun l => l[24]?) cd_157).trans rfl
theorem cd_158 : zm_cd 158 = zd_158 := rfl
theorem ml_158 : zm_ml 158 = 7 := rfl
theorem ht_158 : zm_ht 158 = [] := rfl
theorem c_158_0 : (zm_cd 158)[0]? = some ((0, .iconst 0, 1, 0, 0, 0, 0, 0, []) : zm_E) := (congrArg (fun l => l[0]?) cd_158).trans rfl
theorem c_158_1 : (zm_cd 158)[1]? = some ((1, .istore_n 2, 1, 2, 0, 0, 0, 0, []) : zm_E) := (congrArg (fun l => l[1]?) cd_158).trans rfl
theorem c_158_2 : (zm_cd 158)[2]? = some ((2, .iload_n 2, 1, 2, 0, 0, 0, 0, []) : zm_E) := (congrArg (fun l => l[2]?) cd_158).trans rfl
theorem c_158_3 : (zm_cd 158)[3]? = some ((3, .aload_n 1, 1, 1, 0, 0, 0, 0, []) : zm_E) := (congrArg (fun l => l[3]?) cd_158).trans rfl
theorem c_158_4 : (zm_cd 158)[4]? = some ((4, .getfield 61, 3, 1, 0, 0, 0, 0, []) : zm_E) := (congrArg (fun l => l[4]?) cd_158).trans rfl
theorem c_158_5 : (zm_cd 158)[5]? = some ((7, .if_icmp .ge 103, 3, 57, 0, 0, 0, 0, []) : zm_E) := (congrArg (fun l => l[5]?) cd_158).trans rfl
theorem c_158_6 : (zm_cd 158)[6]? = some ((10, .iconst 0, 1, 0, 0, 0, 0, 0, []) : zm_E) := (congrArg (fun l => l[6]?) cd_158).trans rfl
theorem c_158_7 : (zm_cd 158)[7]? = some ((11, .istore_n 3, 1, 3, 0, 0, 0, 0, []) : zm_E) := (congrArg (fun l => l[7]?) cd_158).trans rfl
theorem c_158_8 : (zm_cd 158)[8]? = some ((12, .iconst 0, 1, 0, 0, 0, 0, 0, []) : zm_E) := (congrArg (fun l => l[8]?) cd_158).trans rfl
theorem c_158_9 : (zm_cd 158)[9]? = some ((13, .istore 4, 2, 4, 0, 0, 0, 0, []) : zm_E) := (congrArg (fun l => l[9]?) cd_158).trans rfl
theorem c_158_10 : (zm_cd 158)[10]? = some ((15, .iconst 0, 1, 0, 0, 0, 0, 0, []) : zm_E) := (congrArg (fun l => l[10]?) cd_158).trans rfl
theorem c_158_11 : (zm_cd 158)[11]? = some ((16, .istore 5, 2, 5, 0, 0, 0, 0, []) : zm_E) := (congrArg (fun l => l[11]?) cd_158).trans rfl
theorem c_158_12 : (zm_cd 158)[12]? = some ((18, .iload 5, 2, 5, 0, 0, 0, 0, []) : zm_E) := (congrArg (fun l => l[12]?) cd_158).trans rfl
theorem c_158_13 : (zm_cd 158)[13]? = some ((20, .aload_n 1, 1, 1, 0, 0, 0, 0, []) : zm_E) := (congrArg (fun l => l[13]?) cd_158).trans rfl
theorem c_158_14 : (zm_cd 158)[14]? = some ((21, .getfield 61, 3, 1, 0, 0, 0, 0, []) : zm_E) := (congrArg (fun l => l[14]?) cd_158).trans rfl
theorem c_158_15 : (zm_cd 158)[15]? = some ((24, .if_icmp .ge 49, 3, 38, 0, 0, 0, 0, []) : zm_E) := (congrArg (fun l => l[15]?) cd_158).trans rfl
theorem c_158_16 : (zm_cd 158)[16]? = some ((27, .aload_n 1, 1, 1, 0, 0, 0, 0, []) : zm_E) := (congrArg (fun l => l[16]?) cd_158).trans rfl
theorem c_158_17 : (zm_cd 158)[17]? = some ((28, .iload_n 2, 1, 2, 0, 0, 0, 0, []) : zm_E) := (congrArg (fun l => l[17]?) cd_158).trans rfl
theorem c_158_18 : (zm_cd 158)[18]? = some ((29, .iload 5, 2, 5, 0, 0, 0, 0, []) : zm_E) := (congrArg (fun l => l[18]?) cd_158).trans rfl
theorem c_158_19 : (zm_cd 158)[19]? = some ((31, .invokevirtual 65, 3, 124, 2, 1, 0, 0, [1]) : zm_E) := (congrArg (fun l => l[19]?) cd_158).trans rfl
theorem c_158_20 : (zm_cd 158)[20]? = some ((34, .istore 6, 2, 6, 0, 0, 0, 0, []) : zm_E) := (congrArg (fun l => l[20]?) cd_158).trans rfl
theorem c_158_21 : (zm_cd 158)[21]? = some ((36, .iload 6, 2, 6, 0, 0, 0, 0, []) : zm_E) := (congrArg (fun l => l[21]?) cd_158).trans rfl
theorem c_158_22 : (zm_cd 158)[22]? = some ((38, .ifCond .ge 14, 3, 29, 0, 0, 0, 0, []) : zm_E) := (congrArg (fun l => l[22]?) cd_158).trans rfl
theorem c_158_23 : (zm_cd 158)[23]? = some ((41, .iload_n 3, 1, 3, 0, 0, 0, 0, []) : zm_E) := (congrArg (fun l => l[23]?) cd_158).trans rfl
theorem c_158_24 : (zm_cd 158)[24]? = some ((42, .iload 5, 2, 5, 0, 0, 0, 0, []) : zm_E) := (congrArg (fun l => l[24]?) cd_158).trans rfl
theorem c_158_25 : (zm_cd 158)[25]? = some ((44, .invokestatic 69, 3, 36, 1, 1, 1, 0, []) : zm_E) := (congrArg (fun l => l[25]?) cd_158).trans rfl
theorem c_158_26 : (zm_cd 158)[26]? = some ((47, .ior, 1, 0, 0, 0, 0, 0, []) : zm_E) := (congrArg (fun l => l[26]?) cd_158).trans rfl
theorem c_158_27 : (zm_cd 158)[27]? = some ((48, .istore_n 3, 1, 3, 0, 0, 0, 0, []) : zm_E) := (congrArg (fun l => l[27]?) cd_158).trans rfl
theorem c_158_28 : (zm_cd 158)[28]? = some ((49, .goto 18, 3, 36, 0, 0, 0, 0, []) : zm_E) := (congrArg (fun l => l[28]?) cd_158).trans rfl
theorem c_158_29 : (zm_cd 158)[29]? = some ((52, .iload 6, 2, 6, 0, 0, 0, 0, []) : zm_E) := (congrArg (fun l => l[29]?) cd_158).trans rfl
theorem c_158_30 : (zm_cd 158)[30]? = some ((54, .ifCond .ne 13, 3, 36, 0, 0, 0, 0, []) : zm_E) := (congrArg (fun l => l[30]?) cd_158).trans rfl
theorem c_158_31 : (zm_cd 158)[31]? = some ((57, .iload 4, 2, 4, 0, 0, 0, 0, []) : zm_E) := (congrArg (fun l => l[31]?) cd_158).trans rfl
theorem c_158_32 : (zm_cd 158)[32]? = some ((59, .iload 5, 2, 5, 0, 0, 0, 0, []) : zm_E) := (congrArg (fun l => l[32]?) cd_158).trans rfl
theorem c_158_33 : (zm_cd 158)[33]? = some ((61, .invokestatic 69, 3, 36, 1, 1, 1, 0, []) : zm_E) := (congrArg (fun l => l[33]?) cd_158).trans rfl
theorem c_158_34 : (zm_cd 158)[34]? = some ((64, .ior, 1, 0, 0, 0, 0, 0, []) : zm_E) := (congrArg (fun l => l[34]?) cd_158).trans rfl
theorem c_158_35 : (zm_cd 158)[35]? = some ((65, .istore 4, 2, 4, 0, 0, 0, 0, []) : zm_E) := (congrArg (fun l => l[35]?) cd_158).trans rfl
theorem c_158_36 : (zm_cd 158)[36]? = some ((67, .iinc 5 1, 3, 5, 0, 0, 1, 0, []) : zm_E) := (congrArg (fun l => l[36]?) cd_158).trans rfl
theorem c_158_37 : (zm_cd 158)[37]? = some ((70, .goto (-52), 3, 12, 0, 0, 0, 0, []) : zm_E) := (congrArg (fun l => l[37]?) cd_158).trans rfl
theorem c_158_38 : (zm_cd 158)[38]? = some ((73, .aload_n 0, 1, 0, 0, 0, 0, 0, []) : zm_E) := (congrArg (fun l => l[38]?) cd_158).trans rfl
theorem c_158_39 : (zm_cd 158)[39]? = some ((74, .getfield 9, 3, 4, 0, 1, 0, 0, []) : zm_E) := (congrArg (fun l => l[39]?) cd_158).trans rfl
theorem c_158_40 : (zm_cd 158)[40]? = some ((77, .iload_n 2, 1, 2, 0, 0, 0, 0, []) : zm_E) := (congrArg (fun l => l[40]?) cd_158).trans rfl
theorem c_158_41 : (zm_cd 158)[41]? = some ((78, .iload_n 3, 1, 3, 0, 0, 0, 0, []) : zm_E) := (congrArg (fun l => l[41]?) cd_158).trans rfl
theorem c_158_42 : (zm_cd 158)[42]? = some ((79, .invokestatic 72, 3, 210, 3, 0, 1, 0, []) : zm_E) := (congrArg (fun l => l[42]?) cd_158).trans rfl
theorem c_158_43 : (zm_cd 158)[43]? = some ((82, .aload_n 0, 1, 0, 0, 0, 0, 0, []) : zm_E) := (congrArg (fun l => l[43]?) cd_158).trans rfl
theorem c_158_44 : (zm_cd 158)[44]? = some ((83, .getfield 15, 3, 4, 1, 1, 0, 0, []) : zm_E) := (congrArg (fun l => l[44]?) cd_158).trans rfl
theorem c_158_45 : (zm_cd 158)[45]? = some ((86, .iload_n 2, 1, 2, 0, 0, 0, 0, []) : zm_E) := (congrArg (fun l => l[45]?) cd_158).trans rfl
theorem c_158_46 : (zm_cd 158)[46]? = some ((87, .iload 4, 2, 4, 0, 0, 0, 0, []) : zm_E) := (congrArg (fun l => l[46]?) cd_158).trans rfl
theorem c_158_47 : (zm_cd 158)[47]? = some ((89, .invokestatic 72, 3, 210, 3, 0, 1, 0, []) : zm_E) := (congrArg (fun l => l[47]?) cd_158).trans rfl
theorem c_158_48 : (zm_cd 158)[48]? = some ((92, .aload_n 0, 1, 0, 0, 0, 0, 0, []) : zm_E) := (congrArg (fun l => l[48]?) cd_158).trans rfl
theorem c_158_49 : (zm_cd 158)[49]? = some ((93, .getfield 18, 3, 4, 2, 1, 0, 0, []) : zm_E) := (congrArg (fun l => l[49]?) cd_158).trans rfl
theorem c_158_50 : (zm_cd 158)[50]? = some ((96, .iload_n 2, 1, 2, 0, 0, 0, 0, []) : zm_E) := (congrArg (fun l => l[50]?) cd_158).trans rfl
theorem c_158_51 : (zm_cd 158)[51]? = some ((97, .iload_n 3, 1, 3, 0, 0, 0, 0, []) : zm_E) := (congrArg (fun l => l[51]?) cd_158).trans rfl
theorem c_158_52 : (zm_cd 158)[52]? = some ((98, .iload 4, 2, 4, 0, 0, 0, 0, []) : zm_E) := (congrArg (fun l => l[52]?) cd_158).trans rfl
theorem c_158_53 : (zm_cd 158)[53]? = some ((100, .ior, 1, 0, 0, 0, 0, 0, []) : zm_E) := (congrArg (fun l => l[53]?) cd_158).trans rfl
theorem c_158_54 : (zm_cd 158)[54]? = some ((101, .invokestatic 72, 3, 210, 3, 0, 1, 0, []) : zm_E) := (congrArg (fun l => l[54]?) cd_158).trans rfl
theorem c_158_55 : (zm_cd 158)[55]? = some ((104, .iinc 2 1, 3, 2, 0, 0, 1, 0, []) : zm_E) := (congrArg (fun l => l[55]?) cd_158).trans rfl
theorem c_158_56 : (zm_cd 158)[56]? = some ((107, .goto (-105), 3, 2, 0, 0, 0, 0, []) : zm_E) := (congrArg (fun l => l[56]?) cd_158).trans rfl
theorem c_158_57 : (zm_cd 158)[57]? = some ((110, .return_, 1, 0, 0, 0, 0, 0, []) : zm_E) := (congrArg (fun l => l[57]?) cd_158).trans rfl
theorem cd_159 : zm_cd 159 = zd_159 := rfl
theorem ml_159 : zm_ml 159 = 4 := rfl
theorem ht_159 : zm_ht 159 = [] := rfl
theorem c_159_0 : (zm_cd 159)[0]? = some ((0, .aload_n 0, 1, 0, 0, 0, 0, 0, []) : zm_E) := (congrArg (fun l => l[0]?) cd_159).trans rfl
theorem c_159_1 : (zm_cd 159)[1]? = some ((1, .iconst 0, 1, 0, 0, 0, 0, 0, []) : zm_E) := (congrArg (fun l => l[1]?) cd_159).trans rfl
theorem c_159_2 : (zm_cd 159)[2]? = some ((2, .putfield 76, 3, 4, 4, 0, 0, 0, []) : zm_E) := (congrArg (fun l => l[2]?) cd_159).trans rfl
theorem c_159_3 : (zm_cd 159)[3]? = some ((5, .iconst 0, 1, 0, 0, 0, 0, 0, []) : zm_E) := (congrArg (fun l => l[3]?) cd_159).trans rfl
theorem c_159_4 : (zm_cd 159)[4]? = some ((6, .istore_n 3, 1, 3, 0, 0, 0, 0, []) : zm_E) := (congrArg (fun l => l[4]?) cd_159).trans rfl
theorem c_159_5 : (zm_cd 159)[5]? = some ((7, .iload_n 3, 1, 3, 0, 0, 0, 0, []) : zm_E) := (congrArg (fun l => l[5]?) cd_159).trans rfl
theorem c_159_6 : (zm_cd 159)[6]? = some ((8, .aload_n 1, 1, 1, 0, 0, 0, 0, []) : zm_E) := (congrArg (fun l => l[6]?) cd_159).trans rfl
theorem c_159_7 : (zm_cd 159)[7]? = some ((9, .getfield 61, 3, 1, 0, 0, 0, 0, []) : zm_E) := (congrArg (fun l => l[7]?) cd_159).trans rfl
theorem c_159_8 : (zm_cd 159)[8]? = some ((12, .if_icmp .ge 39, 3, 27, 0, 0, 0, 0, []) : zm_E) := (congrArg (fun l => l[8]?) cd_159).trans rfl
theorem c_159_9 : (zm_cd 159)[9]? = some ((15, .iload_n 2, 1, 2, 0, 0, 0, 0, []) : zm_E) := (congrArg (fun l => l[9]?) cd_159).trans rfl
theorem c_159_10 : (zm_cd 159)[10]? = some ((16, .iload_n 3, 1, 3, 0, 0, 0, 0, []) : zm_E) := (congrArg (fun l => l[10]?) cd_159).trans rfl
theorem c_159_11 : (zm_cd 159)[11]? = some ((17, .invokestatic 79, 3, 37, 2, 1, 1, 0, []) : zm_E) := (congrArg (fun l => l[11]?) cd_159).trans rfl
theorem c_159_12 : (zm_cd 159)[12]? = some ((20, .ifCond .eq 25, 3, 25, 0, 0, 0, 0, []) : zm_E) := (congrArg (fun l => l[12]?) cd_159).trans rfl
theorem c_159_13 : (zm_cd 159)[13]? = some ((23, .aload_n 0, 1, 0, 0, 0, 0, 0, []) : zm_E) := (congrArg (fun l => l[13]?) cd_159).trans rfl
theorem c_159_14 : (zm_cd 159)[14]? = some ((24, .getfield 21, 3, 4, 3, 1, 0, 0, []) : zm_E) := (congrArg (fun l => l[14]?) cd_159).trans rfl
theorem c_159_15 : (zm_cd 159)[15]? = some ((27, .aload_n 0, 1, 0, 0, 0, 0, 0, []) : zm_E) := (congrArg (fun l => l[15]?) cd_159).trans rfl
theorem c_159_16 : (zm_cd 159)[16]? = some ((28, .getfield 76, 3, 4, 4, 0, 0, 0, []) : zm_E) := (congrArg (fun l => l[16]?) cd_159).trans rfl
theorem c_159_17 : (zm_cd 159)[17]? = some ((31, .iload_n 3, 1, 3, 0, 0, 0, 0, []) : zm_E) := (congrArg (fun l => l[17]?) cd_159).trans rfl
theorem c_159_18 : (zm_cd 159)[18]? = some ((32, .invokestatic 72, 3, 210, 3, 0, 1, 0, []) : zm_E) := (congrArg (fun l => l[18]?) cd_159).trans rfl
theorem c_159_19 : (zm_cd 159)[19]? = some ((35, .aload_n 0, 1, 0, 0, 0, 0, 0, []) : zm_E) := (congrArg (fun l => l[19]?) cd_159).trans rfl
theorem c_159_20 : (zm_cd 159)[20]? = some ((36, .dup, 1, 0, 0, 0, 0, 0, []) : zm_E) := (congrArg (fun l => l[20]?) cd_159).trans rfl
theorem c_159_21 : (zm_cd 159)[21]? = some ((37, .getfield 76, 3, 4, 4, 0, 0, 0, []) : zm_E) := (congrArg (fun l => l[21]?) cd_159).trans rfl
theorem c_159_22 : (zm_cd 159)[22]? = some ((40, .iconst 1, 1, 0, 0, 0, 1, 0, []) : zm_E) := (congrArg (fun l => l[22]?) cd_159).trans rfl
theorem c_159_23 : (zm_cd 159)[23]? = some ((41, .iadd, 1, 0, 0, 0, 0, 0, []) : zm_E) := (congrArg (fun l => l[23]?) cd_159).trans rfl
theorem c_159_24 : (zm_cd 159)[24]? = some ((42, .putfield 76, 3, 4, 4, 0, 0, 0, []) : zm_E) := (congrArg (fun l => l[24]?) cd_159).trans rfl
theorem c_159_25 : (zm_cd 159)[25]? = some ((45, .iinc 3 1, 3, 3, 0, 0, 1, 0, []) : zm_E) := (congrArg (fun l => l[25]?) cd_159).trans rfl
theorem c_159_26 : (zm_cd 159)[26]? = some ((48, .goto (-41), 3, 5, 0, 0, 0, 0, []) : zm_E) := (congrArg (fun l => l[26]?) cd_159).trans rfl
theorem c_159_27 : (zm_cd 159)[27]? = some ((51, .return_, 1, 0, 0, 0, 0, 0, []) : zm_E) := (congrArg (fun l => l[27]?) cd_159).trans rfl
theorem cd_160 : zm_cd 160 = zd_160 := rfl
theorem ml_160 : zm_ml 160 = 6 := rfl
theorem ht_160 : zm_ht 160 = [] := rfl
theorem c_160_0 : (zm_cd 160)[0]? = some ((0, .iconst 1, 1, 0, 0, 0, 1, 0, []) : zm_E) := (congrArg (fun l => l[0]?) cd_160).trans rfl
theorem c_160_1 : (zm_cd 160)[1]? = some ((1, .istore_n 3, 1, 3, 0, 0, 0, 0, []) : zm_E) := (congrArg (fun l => l[1]?) cd_160).trans rfl
theorem c_160_2 : (zm_cd 160)[2]? = some ((2, .iload_n 3, 1, 3, 0, 0, 0, 0, []) : zm_E) := (congrArg (fun l => l[2]?) cd_160).trans rfl
theorem c_160_3 : (zm_cd 160)[3]? = some ((3, .iload_n 1, 1, 1, 0, 0, 0, 0, []) : zm_E) := (congrArg (fun l => l[3]?) cd_160).trans rfl
theorem c_160_4 : (zm_cd 160)[4]? = some ((4, .if_icmp .gt 18, 3, 12, 0, 0, 0, 0, []) : zm_E) := (congrArg (fun l => l[4]?) cd_160).trans rfl
theorem c_160_5 : (zm_cd 160)[5]? = some ((7, .aload_n 0, 1, 0, 0, 0, 0, 0, []) : zm_E) := (congrArg (fun l => l[5]?) cd_160).trans rfl
theorem c_160_6 : (zm_cd 160)[6]? = some ((8, .getfield 24, 3, 4, 5, 1, 0, 0, []) : zm_E) := (congrArg (fun l => l[6]?) cd_160).trans rfl
theorem c_160_7 : (zm_cd 160)[7]? = some ((11, .iload_n 3, 1, 3, 0, 0, 0, 0, []) : zm_E) := (congrArg (fun l => l[7]?) cd_160).trans rfl
theorem c_160_8 : (zm_cd 160)[8]? = some ((12, .iconst 0, 1, 0, 0, 0, 0, 0, []) : zm_E) := (congrArg (fun l => l[8]?) cd_160).trans rfl
theorem c_160_9 : (zm_cd 160)[9]? = some ((13, .invokestatic 72, 3, 210, 3, 0, 1, 0, []) : zm_E) := (congrArg (fun l => l[9]?) cd_160).trans rfl
theorem c_160_10 : (zm_cd 160)[10]? = some ((16, .iinc 3 1, 3, 3, 0, 0, 1, 0, []) : zm_E) := (congrArg (fun l => l[10]?) cd_160).trans rfl
theorem c_160_11 : (zm_cd 160)[11]? = some ((19, .goto (-17), 3, 2, 0, 0, 0, 0, []) : zm_E) := (congrArg (fun l => l[11]?) cd_160).trans rfl
theorem c_160_12 : (zm_cd 160)[12]? = some ((22, .aload_n 0, 1, 0, 0, 0, 0, 0, []) : zm_E) := (congrArg (fun l => l[12]?) cd_160).trans rfl
theorem c_160_13 : (zm_cd 160)[13]? = some ((23, .getfield 24, 3, 4, 5, 1, 0, 0, []) : zm_E) := (congrArg (fun l => l[13]?) cd_160).trans rfl
theorem c_160_14 : (zm_cd 160)[14]? = some ((26, .iconst 0, 1, 0, 0, 0, 0, 0, []) : zm_E) := (congrArg (fun l => l[14]?) cd_160).trans rfl
theorem c_160_15 : (zm_cd 160)[15]? = some ((27, .iconst 1, 1, 0, 0, 0, 1, 0, []) : zm_E) := (congrArg (fun l => l[15]?) cd_160).trans rfl
theorem c_160_16 : (zm_cd 160)[16]? = some ((28, .invokestatic 72, 3, 210, 3, 0, 1, 0, []) : zm_E) := (congrArg (fun l => l[16]?) cd_160).trans rfl
theorem c_160_17 : (zm_cd 160)[17]? = some ((31, .iconst 0, 1, 0, 0, 0, 0, 0, []) : zm_E) := (congrArg (fun l => l[17]?) cd_160).trans rfl
theorem c_160_18 : (zm_cd 160)[18]? = some ((32, .istore_n 3, 1, 3, 0, 0, 0, 0, []) : zm_E) := (congrArg (fun l => l[18]?) cd_160).trans rfl
theorem c_160_19 : (zm_cd 160)[19]? = some ((33, .iload_n 3, 1, 3, 0, 0, 0, 0, []) : zm_E) := (congrArg (fun l => l[19]?) cd_160).trans rfl
theorem c_160_20 : (zm_cd 160)[20]? = some ((34, .iload_n 1, 1, 1, 0, 0, 0, 0, []) : zm_E) := (congrArg (fun l => l[20]?) cd_160).trans rfl
theorem c_160_21 : (zm_cd 160)[21]? = some ((35, .if_icmp .ge 65, 3, 54, 0, 0, 0, 0, []) : zm_E) := (congrArg (fun l => l[21]?) cd_160).trans rfl
theorem c_160_22 : (zm_cd 160)[22]? = some ((38, .aload_n 0, 1, 0, 0, 0, 0, 0, []) : zm_E) := (congrArg (fun l => l[22]?) cd_160).trans rfl
theorem c_160_23 : (zm_cd 160)[23]? = some ((39, .getfield 24, 3, 4, 5, 1, 0, 0, []) : zm_E) := (congrArg (fun l => l[23]?) cd_160).trans rfl
theorem c_160_24 : (zm_cd 160)[24]? = some ((42, .iload_n 3, 1, 3, 0, 0, 0, 0, []) : zm_E) := (congrArg (fun l => l[24]?) cd_160).trans rfl
theorem c_160_25 : (zm_cd 160)[25]? = some ((43, .invokestatic 83, 3, 209, 2, 1, 1, 0, []) : zm_E) := (congrArg (fun l => l[25]?) cd_160).trans rfl
theorem c_160_26 : (zm_cd 160)[26]? = some ((46, .istore 4, 2, 4, 0, 0, 0, 0, []) : zm_E) := (congrArg (fun l => l[26]?) cd_160).trans rfl
theorem c_160_27 : (zm_cd 160)[27]? = some ((48, .iload_n 3, 1, 3, 0, 0, 0, 0, []) : zm_E) := (congrArg (fun l => l[27]?) cd_160).trans rfl
theorem c_160_28 : (zm_cd 160)[28]? = some ((49, .invokestatic 37, 3, 207, 1, 1, 0, 0, []) : zm_E) := (congrArg (fun l => l[28]?) cd_160).trans rfl
theorem c_160_29 : (zm_cd 160)[29]? = some ((52, .istore 5, 2, 5, 0, 0, 0, 0, []) : zm_E) := (congrArg (fun l => l[29]?) cd_160).trans rfl
theorem c_160_30 : (zm_cd 160)[30]? = some ((54, .iload 4, 2, 4, 0, 0, 0, 0, []) : zm_E) := (congrArg (fun l => l[30]?) cd_160).trans rfl
theorem c_160_31 : (zm_cd 160)[31]? = some ((56, .ifCond .eq 38, 3, 52, 0, 0, 0, 0, []) : zm_E) := (congrArg (fun l => l[31]?) cd_160).trans rfl
theorem c_160_32 : (zm_cd 160)[32]? = some ((59, .iload 5, 2, 5, 0, 0, 0, 0, []) : zm_E) := (congrArg (fun l => l[32]?) cd_160).trans rfl
theorem c_160_33 : (zm_cd 160)[33]? = some ((61, .aload_n 0, 1, 0, 0, 0, 0, 0, []) : zm_E) := (congrArg (fun l => l[33]?) cd_160).trans rfl
theorem c_160_34 : (zm_cd 160)[34]? = some ((62, .getfield 76, 3, 4, 4, 0, 0, 0, []) : zm_E) := (congrArg (fun l => l[34]?) cd_160).trans rfl
theorem c_160_35 : (zm_cd 160)[35]? = some ((65, .if_icmp .ge 29, 3, 52, 0, 0, 0, 0, []) : zm_E) := (congrArg (fun l => l[35]?) cd_160).trans rfl
theorem c_160_36 : (zm_cd 160)[36]? = some ((68, .aload_n 0, 1, 0, 0, 0, 0, 0, []) : zm_E) := (congrArg (fun l => l[36]?) cd_160).trans rfl
theorem c_160_37 : (zm_cd 160)[37]? = some ((69, .iload_n 3, 1, 3, 0, 0, 0, 0, []) : zm_E) := (congrArg (fun l => l[37]?) cd_160).trans rfl
theorem c_160_38 : (zm_cd 160)[38]? = some ((70, .iload 4, 2, 4, 0, 0, 0, 0, []) : zm_E) := (congrArg (fun l => l[38]?) cd_160).trans rfl
theorem c_160_39 : (zm_cd 160)[39]? = some ((72, .aload_n 2, 1, 2, 0, 0, 0, 0, []) : zm_E) := (congrArg (fun l => l[39]?) cd_160).trans rfl
theorem c_160_40 : (zm_cd 160)[40]? = some ((73, .aload_n 0, 1, 0, 0, 0, 0, 0, []) : zm_E) := (congrArg (fun l => l[40]?) cd_160).trans rfl
theorem c_160_41 : (zm_cd 160)[41]? = some ((74, .getfield 21, 3, 4, 3, 1, 0, 0, []) : zm_E) := (congrArg (fun l => l[41]?) cd_160).trans rfl
theorem c_160_42 : (zm_cd 160)[42]? = some ((77, .iload 5, 2, 5, 0, 0, 0, 0, []) : zm_E) := (congrArg (fun l => l[42]?) cd_160).trans rfl
theorem c_160_43 : (zm_cd 160)[43]? = some ((79, .invokestatic 83, 3, 209, 2, 1, 1, 0, []) : zm_E) := (congrArg (fun l => l[43]?) cd_160).trans rfl
theorem c_160_44 : (zm_cd 160)[44]? = some ((82, .invokestatic 83, 3, 209, 2, 1, 1, 0, []) : zm_E) := (congrArg (fun l => l[44]?) cd_160).trans rfl
theorem c_160_45 : (zm_cd 160)[45]? = some ((85, .iload_n 1, 1, 1, 0, 0, 0, 0, []) : zm_E) := (congrArg (fun l => l[45]?) cd_160).trans rfl
theorem c_160_46 : (zm_cd 160)[46]? = some ((86, .iand, 1, 0, 0, 0, 0, 0, []) : zm_E) := (congrArg (fun l => l[46]?) cd_160).trans rfl
theorem c_160_47 : (zm_cd 160)[47]? = some ((87, .iload_n 3, 1, 3, 0, 0, 0, 0, []) : zm_E) := (congrArg (fun l => l[47]?) cd_160).trans rfl
theorem c_160_48 : (zm_cd 160)[48]? = some ((88, .iconst (-1), 1, 0, 0, 0, (-1), 0, []) : zm_E) := (congrArg (fun l => l[48]?) cd_160).trans rfl
theorem c_160_49 : (zm_cd 160)[49]? = some ((89, .ixor, 1, 0, 0, 0, 0, 0, []) : zm_E) := (congrArg (fun l => l[49]?) cd_160).trans rfl
theorem c_160_50 : (zm_cd 160)[50]? = some ((90, .iand, 1, 0, 0, 0, 0, 0, []) : zm_E) := (congrArg (fun l => l[50]?) cd_160).trans rfl
theorem c_160_51 : (zm_cd 160)[51]? = some ((91, .invokevirtual 87, 3, 161, 3, 0, 0, 0, [4]) : zm_E) := (congrArg (fun l => l[51]?) cd_160).trans rfl
theorem c_160_52 : (zm_cd 160)[52]? = some ((94, .iinc 3 1, 3, 3, 0, 0, 1, 0, []) : zm_E) := (congrArg (fun l => l[52]?) cd_160).trans rfl
theorem c_160_53 : (zm_cd 160)[53]? = some ((97, .goto (-64), 3, 19, 0, 0, 0, 0, []) : zm_E) := (congrArg (fun l => l[53]?) cd_160).trans rfl
theorem c_160_54 : (zm_cd 160)[54]? = some ((100, .aload_n 0, 1, 0, 0, 0, 0, 0, []) : zm_E) := (congrArg (fun l => l[54]?) cd_160).trans rfl
theorem c_160_55 : (zm_cd 160)[55]? = some ((101, .getfield 24, 3, 4, 5, 1, 0, 0, []) : zm_E) := (congrArg (fun l => l[55]?) cd_160).trans rfl
theorem c_160_56 : (zm_cd 160)[56]? = some ((104, .iload_n 1, 1, 1, 0, 0, 0, 0, []) : zm_E) := (congrArg (fun l => l[56]?) cd_160).trans rfl
theorem c_160_57 : (zm_cd 160)[57]? = some ((105, .invokestatic 83, 3, 209, 2, 1, 1, 0, []) : zm_E) := (congrArg (fun l => l[57]?) cd_160).trans rfl
theorem c_160_58 : (zm_cd 160)[58]? = some ((108, .ireturn, 1, 0, 0, 0, 0, 0, []) : zm_E) := (congrArg (fun l => l[58]?) cd_160).trans rfl
theorem cd_161 : zm_cd 161 = zd_161 := rfl
theorem ml_161 : zm_ml 161 = 6 := rfl
theorem ht_161 : zm_ht 161 = [] := rfl
theorem c_161_0 : (zm_cd 161)[0]? = some ((0, .iconst 0, 1, 0, 0, 0, 0, 0, []) : zm_E) := (congrArg (fun l => l[0]?) cd_161).trans rfl
theorem c_161_1 : (zm_cd 161)[1]? = some ((1, .istore 4, 2, 4, 0, 0, 0, 0, []) : zm_E) := (congrArg (fun l => l[1]?) cd_161).trans rfl
theorem c_161_2 : (zm_cd 161)[2]? = some ((3, .iload 4, 2, 4, 0, 0, 0, 0, []) : zm_E) := (congrArg (fun l => l[2]?) cd_161).trans rfl
theorem c_161_3 : (zm_cd 161)[3]? = some ((5, .bipush 7, 2, 0, 0, 0, 7, 0, []) : zm_E) := (congrArg (fun l => l[3]?) cd_161).trans rfl
theorem c_161_4 : (zm_cd 161)[4]? = some ((7, .if_icmp .ge 47, 3, 26, 0, 0, 0, 0, []) : zm_E) := (congrArg (fun l => l[4]?) cd_161).trans rfl
theorem c_161_5 : (zm_cd 161)[5]? = some ((10, .iload_n 3, 1, 3, 0, 0, 0, 0, []) : zm_E) := (congrArg (fun l => l[5]?) cd_161).trans rfl
theorem c_161_6 : (zm_cd 161)[6]? = some ((11, .iload 4, 2, 4, 0, 0, 0, 0, []) : zm_E) := (congrArg (fun l => l[6]?) cd_161).trans rfl
theorem c_161_7 : (zm_cd 161)[7]? = some ((13, .invokestatic 79, 3, 37, 2, 1, 1, 0, []) : zm_E) := (congrArg (fun l => l[7]?) cd_161).trans rfl
theorem c_161_8 : (zm_cd 161)[8]? = some ((16, .ifCond .eq 32, 3, 24, 0, 0, 0, 0, []) : zm_E) := (congrArg (fun l => l[8]?) cd_161).trans rfl
theorem c_161_9 : (zm_cd 161)[9]? = some ((19, .iload_n 1, 1, 1, 0, 0, 0, 0, []) : zm_E) := (congrArg (fun l => l[9]?) cd_161).trans rfl
theorem c_161_10 : (zm_cd 161)[10]? = some ((20, .iload 4, 2, 4, 0, 0, 0, 0, []) : zm_E) := (congrArg (fun l => l[10]?) cd_161).trans rfl
theorem c_161_11 : (zm_cd 161)[11]? = some ((22, .invokestatic 69, 3, 36, 1, 1, 1, 0, []) : zm_E) := (congrArg (fun l => l[11]?) cd_161).trans rfl
theorem c_161_12 : (zm_cd 161)[12]? = some ((25, .ior, 1, 0, 0, 0, 0, 0, []) : zm_E) := (congrArg (fun l => l[12]?) cd_161).trans rfl
theorem c_161_13 : (zm_cd 161)[13]? = some ((26, .istore 5, 2, 5, 0, 0, 0, 0, []) : zm_E) := (congrArg (fun l => l[13]?) cd_161).trans rfl
theorem c_161_14 : (zm_cd 161)[14]? = some ((28, .aload_n 0, 1, 0, 0, 0, 0, 0, []) : zm_E) := (congrArg (fun l => l[14]?) cd_161).trans rfl
theorem c_161_15 : (zm_cd 161)[15]? = some ((29, .getfield 24, 3, 4, 5, 1, 0, 0, []) : zm_E) := (congrArg (fun l => l[15]?) cd_161).trans rfl
theorem c_161_16 : (zm_cd 161)[16]? = some ((32, .iload 5, 2, 5, 0, 0, 0, 0, []) : zm_E) := (congrArg (fun l => l[16]?) cd_161).trans rfl
theorem c_161_17 : (zm_cd 161)[17]? = some ((34, .aload_n 0, 1, 0, 0, 0, 0, 0, []) : zm_E) := (congrArg (fun l => l[17]?) cd_161).trans rfl
theorem c_161_18 : (zm_cd 161)[18]? = some ((35, .getfield 24, 3, 4, 5, 1, 0, 0, []) : zm_E) := (congrArg (fun l => l[18]?) cd_161).trans rfl
theorem c_161_19 : (zm_cd 161)[19]? = some ((38, .iload 5, 2, 5, 0, 0, 0, 0, []) : zm_E) := (congrArg (fun l => l[19]?) cd_161).trans rfl
theorem c_161_20 : (zm_cd 161)[20]? = some ((40, .invokestatic 83, 3, 209, 2, 1, 1, 0, []) : zm_E) := (congrArg (fun l => l[20]?) cd_161).trans rfl
theorem c_161_21 : (zm_cd 161)[21]? = some ((43, .iload_n 2, 1, 2, 0, 0, 0, 0, []) : zm_E) := (congrArg (fun l => l[21]?) cd_161).trans rfl
theorem c_161_22 : (zm_cd 161)[22]? = some ((44, .iadd, 1, 0, 0, 0, 0, 0, []) : zm_E) := (congrArg (fun l => l[22]?) cd_161).trans rfl
theorem c_161_23 : (zm_cd 161)[23]? = some ((45, .invokestatic 72, 3, 210, 3, 0, 1, 0, []) : zm_E) := (congrArg (fun l => l[23]?) cd_161).trans rfl
theorem c_161_24 : (zm_cd 161)[24]? = some ((48, .iinc 4 1, 3, 4, 0, 0, 1, 0, []) : zm_E) := (congrArg (fun l => l[24]?) cd_161).trans rfl
theorem c_161_25 : (zm_cd 161)[25]? = some ((51, .goto (-48), 3, 2, 0, 0, 0, 0, []) : zm_E) := (congrArg (fun l => l[25]?) cd_161).trans rfl
theorem c_161_26 : (zm_cd 161)[26]? = some ((54, .return_, 1, 0, 0, 0, 0, 0, []) : zm_E) := (congrArg (fun l => l[26]?) cd_161).trans rfl
theorem cd_162 : zm_cd 162 = zd_162 := rfl
theorem ml_162 : zm_ml 162 = 6 := rfl
theorem ht_162 : zm_ht 162 = [] := rfl
theorem c_162_0 : (zm_cd 162)[0]? = some ((0, .aload_n 1, 1, 1, 0, 0, 0, 0, []) : zm_E) := (congrArg (fun l => l[0]?) cd_162).trans rfl
theorem c_162_1 : (zm_cd 162)[1]? = some ((1, .aload_n 1, 1, 1, 0, 0, 0, 0, []) : zm_E) := (congrArg (fun l => l[1]?) cd_162).trans rfl
theorem c_162_2 : (zm_cd 162)[2]? = some ((2, .invokevirtual 55, 3, 118, 0, 1, 0, 0, [1]) : zm_E) := (congrArg (fun l => l[2]?) cd_162).trans rfl
theorem c_162_3 : (zm_cd 162)[3]? = some ((5, .invokevirtual 58, 3, 126, 1, 1, 0, 0, [1]) : zm_E) := (congrArg (fun l => l[3]?) cd_162).trans rfl
theorem c_162_4 : (zm_cd 162)[4]? = some ((8, .istore_n 2, 1, 2, 0, 0, 0, 0, []) : zm_E) := (congrArg (fun l => l[4]?) cd_162).trans rfl
theorem c_162_5 : (zm_cd 162)[5]? = some ((9, .aload_n 0, 1, 0, 0, 0, 0, 0, []) : zm_E) := (congrArg (fun l => l[5]?) cd_162).trans rfl
theorem c_162_6 : (zm_cd 162)[6]? = some ((10, .aload_n 1, 1, 1, 0, 0, 0, 0, []) : zm_E) := (congrArg (fun l => l[6]?) cd_162).trans rfl
theorem c_162_7 : (zm_cd 162)[7]? = some ((11, .aload_n 1, 1, 1, 0, 0, 0, 0, []) : zm_E) := (congrArg (fun l => l[7]?) cd_162).trans rfl
theorem c_162_8 : (zm_cd 162)[8]? = some ((12, .invokevirtual 55, 3, 118, 0, 1, 0, 0, [1]) : zm_E) := (congrArg (fun l => l[8]?) cd_162).trans rfl
theorem c_162_9 : (zm_cd 162)[9]? = some ((15, .invokevirtual 47, 3, 159, 2, 0, 0, 0, [4]) : zm_E) := (congrArg (fun l => l[9]?) cd_162).trans rfl
theorem c_162_10 : (zm_cd 162)[10]? = some ((18, .aload_n 0, 1, 0, 0, 0, 0, 0, []) : zm_E) := (congrArg (fun l => l[10]?) cd_162).trans rfl
theorem c_162_11 : (zm_cd 162)[11]? = some ((19, .getfield 24, 3, 4, 5, 1, 0, 0, []) : zm_E) := (congrArg (fun l => l[11]?) cd_162).trans rfl
theorem c_162_12 : (zm_cd 162)[12]? = some ((22, .iload_n 2, 1, 2, 0, 0, 0, 0, []) : zm_E) := (congrArg (fun l => l[12]?) cd_162).trans rfl
theorem c_162_13 : (zm_cd 162)[13]? = some ((23, .iconst 0, 1, 0, 0, 0, 0, 0, []) : zm_E) := (congrArg (fun l => l[13]?) cd_162).trans rfl
theorem c_162_14 : (zm_cd 162)[14]? = some ((24, .invokestatic 72, 3, 210, 3, 0, 1, 0, []) : zm_E) := (congrArg (fun l => l[14]?) cd_162).trans rfl
theorem c_162_15 : (zm_cd 162)[15]? = some ((27, .iload_n 2, 1, 2, 0, 0, 0, 0, []) : zm_E) := (congrArg (fun l => l[15]?) cd_162).trans rfl
theorem c_162_16 : (zm_cd 162)[16]? = some ((28, .iconst 1, 1, 0, 0, 0, 1, 0, []) : zm_E) := (congrArg (fun l => l[16]?) cd_162).trans rfl
theorem c_162_17 : (zm_cd 162)[17]? = some ((29, .isub, 1, 0, 0, 0, 0, 0, []) : zm_E) := (congrArg (fun l => l[17]?) cd_162).trans rfl
theorem c_162_18 : (zm_cd 162)[18]? = some ((30, .istore_n 3, 1, 3, 0, 0, 0, 0, []) : zm_E) := (congrArg (fun l => l[18]?) cd_162).trans rfl
theorem c_162_19 : (zm_cd 162)[19]? = some ((31, .iload_n 3, 1, 3, 0, 0, 0, 0, []) : zm_E) := (congrArg (fun l => l[19]?) cd_162).trans rfl
theorem c_162_20 : (zm_cd 162)[20]? = some ((32, .ifCond .lt 68, 3, 56, 0, 0, 0, 0, []) : zm_E) := (congrArg (fun l => l[20]?) cd_162).trans rfl
theorem c_162_21 : (zm_cd 162)[21]? = some ((35, .iload_n 3, 1, 3, 0, 0, 0, 0, []) : zm_E) := (congrArg (fun l => l[21]?) cd_162).trans rfl
theorem c_162_22 : (zm_cd 162)[22]? = some ((36, .invokestatic 37, 3, 207, 1, 1, 0, 0, []) : zm_E) := (congrArg (fun l => l[22]?) cd_162).trans rfl
theorem c_162_23 : (zm_cd 162)[23]? = some ((39, .istore 4, 2, 4, 0, 0, 0, 0, []) : zm_E) := (congrArg (fun l => l[23]?) cd_162).trans rfl
theorem c_162_24 : (zm_cd 162)[24]? = some ((41, .iload_n 3, 1, 3, 0, 0, 0, 0, []) : zm_E) := (congrArg (fun l => l[24]?) cd_162).trans rfl
theorem c_162_25 : (zm_cd 162)[25]? = some ((42, .iload_n 2, 1, 2, 0, 0, 0, 0, []) : zm_E) := (congrArg (fun l => l[25]?) cd_162).trans rfl
theorem c_162_26 : (zm_cd 162)[26]? = some ((43, .iconst (-1), 1, 0, 0, 0, (-1), 0, []) : zm_E) := (congrArg (fun l => l[26]?) cd_162).trans rfl
theorem c_162_27 : (zm_cd 162)[27]? = some ((44, .ixor, 1, 0, 0, 0, 0, 0, []) : zm_E) := (congrArg (fun l => l[27]?) cd_162).trans rfl
theorem c_162_28 : (zm_cd 162)[28]? = some ((45, .iand, 1, 0, 0, 0, 0, 0, []) : zm_E) := (congrArg (fun l => l[28]?) cd_162).trans rfl
theorem c_162_29 : (zm_cd 162)[29]? = some ((46, .ifCond .ne 48, 3, 54, 0, 0, 0, 0, []) : zm_E) := (congrArg (fun l => l[29]?) cd_162).trans rfl
theorem c_162_30 : (zm_cd 162)[30]? = some ((49, .iload 4, 2, 4, 0, 0, 0, 0, []) : zm_E) := (congrArg (fun l => l[30]?) cd_162).trans rfl
theorem c_162_31 : (zm_cd 162)[31]? = some ((51, .aload_n 0, 1, 0, 0, 0, 0, 0, []) : zm_E) := (congrArg (fun l => l[31]?) cd_162).trans rfl
theorem c_162_32 : (zm_cd 162)[32]? = some ((52, .getfield 76, 3, 4, 4, 0, 0, 0, []) : zm_E) := (congrArg (fun l => l[32]?) cd_162).trans rfl
theorem c_162_33 : (zm_cd 162)[33]? = some ((55, .if_icmp .ge 39, 3, 54, 0, 0, 0, 0, []) : zm_E) := (congrArg (fun l => l[33]?) cd_162).trans rfl
theorem c_162_34 : (zm_cd 162)[34]? = some ((58, .aload_n 0, 1, 0, 0, 0, 0, 0, []) : zm_E) := (congrArg (fun l => l[34]?) cd_162).trans rfl
theorem c_162_35 : (zm_cd 162)[35]? = some ((59, .getfield 21, 3, 4, 3, 1, 0, 0, []) : zm_E) := (congrArg (fun l => l[35]?) cd_162).trans rfl
theorem c_162_36 : (zm_cd 162)[36]? = some ((62, .iload 4, 2, 4, 0, 0, 0, 0, []) : zm_E) := (congrArg (fun l => l[36]?) cd_162).trans rfl
theorem c_162_37 : (zm_cd 162)[37]? = some ((64, .invokestatic 83, 3, 209, 2, 1, 1, 0, []) : zm_E) := (congrArg (fun l => l[37]?) cd_162).trans rfl
theorem c_162_38 : (zm_cd 162)[38]? = some ((67, .istore 5, 2, 5, 0, 0, 0, 0, []) : zm_E) := (congrArg (fun l => l[38]?) cd_162).trans rfl
theorem c_162_39 : (zm_cd 162)[39]? = some ((69, .aload_n 0, 1, 0, 0, 0, 0, 0, []) : zm_E) := (congrArg (fun l => l[39]?) cd_162).trans rfl
theorem c_162_40 : (zm_cd 162)[40]? = some ((70, .getfield 24, 3, 4, 5, 1, 0, 0, []) : zm_E) := (congrArg (fun l => l[40]?) cd_162).trans rfl
theorem c_162_41 : (zm_cd 162)[41]? = some ((73, .iload_n 3, 1, 3, 0, 0, 0, 0, []) : zm_E) := (congrArg (fun l => l[41]?) cd_162).trans rfl
theorem c_162_42 : (zm_cd 162)[42]? = some ((74, .aload_n 0, 1, 0, 0, 0, 0, 0, []) : zm_E) := (congrArg (fun l => l[42]?) cd_162).trans rfl
theorem c_162_43 : (zm_cd 162)[43]? = some ((75, .aload_n 1, 1, 1, 0, 0, 0, 0, []) : zm_E) := (congrArg (fun l => l[43]?) cd_162).trans rfl
theorem c_162_44 : (zm_cd 162)[44]? = some ((76, .iload 5, 2, 5, 0, 0, 0, 0, []) : zm_E) := (congrArg (fun l => l[44]?) cd_162).trans rfl
theorem c_162_45 : (zm_cd 162)[45]? = some ((78, .iload_n 3, 1, 3, 0, 0, 0, 0, []) : zm_E) := (congrArg (fun l => l[45]?) cd_162).trans rfl
theorem c_162_46 : (zm_cd 162)[46]? = some ((79, .aload_n 0, 1, 0, 0, 0, 0, 0, []) : zm_E) := (congrArg (fun l => l[46]?) cd_162).trans rfl
theorem c_162_47 : (zm_cd 162)[47]? = some ((80, .aload_n 1, 1, 1, 0, 0, 0, 0, []) : zm_E) := (congrArg (fun l => l[47]?) cd_162).trans rfl
theorem c_162_48 : (zm_cd 162)[48]? = some ((81, .iload 5, 2, 5, 0, 0, 0, 0, []) : zm_E) := (congrArg (fun l => l[48]?) cd_162).trans rfl
theorem c_162_49 : (zm_cd 162)[49]? = some ((83, .iload_n 3, 1, 3, 0, 0, 0, 0, []) : zm_E) := (congrArg (fun l => l[49]?) cd_162).trans rfl
theorem c_162_50 : (zm_cd 162)[50]? = some ((84, .iload_n 2, 1, 2, 0, 0, 0, 0, []) : zm_E) := (congrArg (fun l => l[50]?) cd_162).trans rfl
theorem c_162_51 : (zm_cd 162)[51]? = some ((85, .invokevirtual 91, 3, 164, 4, 1, 0, 0, [4]) : zm_E) := (congrArg (fun l => l[51]?) cd_162).trans rfl
theorem c_162_52 : (zm_cd 162)[52]? = some ((88, .invokevirtual 95, 3, 165, 4, 1, 0, 0, [4]) : zm_E) := (congrArg (fun l => l[52]?) cd_162).trans rfl
theorem c_162_53 : (zm_cd 162)[53]? = some ((91, .invokestatic 72, 3, 210, 3, 0, 1, 0, []) : zm_E) := (congrArg (fun l => l[53]?) cd_162).trans rfl
theorem c_162_54 : (zm_cd 162)[54]? = some ((94, .iinc 3 (-1), 3, 3, 0, 0, (-1), 0, []) : zm_E) := (congrArg (fun l => l[54]?) cd_162).trans rfl
theorem c_162_55 : (zm_cd 162)[55]? = some ((97, .goto (-66), 3, 19, 0, 0, 0, 0, []) : zm_E) := (congrArg (fun l => l[55]?) cd_162).trans rfl
theorem c_162_56 : (zm_cd 162)[56]? = some ((100, .aload_n 0, 1, 0, 0, 0, 0, 0, []) : zm_E) := (congrArg (fun l => l[56]?) cd_162).trans rfl
theorem c_162_57 : (zm_cd 162)[57]? = some ((101, .getfield 24, 3, 4, 5, 1, 0, 0, []) : zm_E) := (congrArg (fun l => l[57]?) cd_162).trans rfl
theorem c_162_58 : (zm_cd 162)[58]? = some ((104, .iconst 0, 1, 0, 0, 0, 0, 0, []) : zm_E) := (congrArg (fun l => l[58]?) cd_162).trans rfl
theorem c_162_59 : (zm_cd 162)[59]? = some ((105, .invokestatic 83, 3, 209, 2, 1, 1, 0, []) : zm_E) := (congrArg (fun l => l[59]?) cd_162).trans rfl
theorem c_162_60 : (zm_cd 162)[60]? = some ((108, .ireturn, 1, 0, 0, 0, 0, 0, []) : zm_E) := (congrArg (fun l => l[60]?) cd_162).trans rfl
theorem cd_163 : zm_cd 163 = zd_163 := rfl
theorem ml_163 : zm_ml 163 = 7 := rfl
theorem ht_163 : zm_ht 163 = [] := rfl
theorem c_163_0 : (zm_cd 163)[0]? = some ((0, .aload_n 0, 1, 0, 0, 0, 0, 0, []) : zm_E) := (congrArg (fun l => l[0]?) cd_163).trans rfl
theorem c_163_1 : (zm_cd 163)[1]? = some ((1, .aload_n 1, 1, 1, 0, 0, 0, 0, []) : zm_E) := (congrArg (fun l => l[1]?) cd_163).trans rfl
theorem c_163_2 : (zm_cd 163)[2]? = some ((2, .invokevirtual 98, 3, 162, 1, 1, 0, 0, [4]) : zm_E) := (congrArg (fun l => l[2]?) cd_163).trans rfl
theorem c_163_3 : (zm_cd 163)[3]? = some ((5, .pop, 1, 0, 0, 0, 0, 0, []) : zm_E) := (congrArg (fun l => l[3]?) cd_163).trans rfl
theorem c_163_4 : (zm_cd 163)[4]? = some ((6, .aload_n 1, 1, 1, 0, 0, 0, 0, []) : zm_E) := (congrArg (fun l => l[4]?) cd_163).trans rfl
theorem c_163_5 : (zm_cd 163)[5]? = some ((7, .aload_n 1, 1, 1, 0, 0, 0, 0, []) : zm_E) := (congrArg (fun l => l[5]?) cd_163).trans rfl
theorem c_163_6 : (zm_cd 163)[6]? = some ((8, .invokevirtual 55, 3, 118, 0, 1, 0, 0, [1]) : zm_E) := (congrArg (fun l => l[6]?) cd_163).trans rfl
theorem c_163_7 : (zm_cd 163)[7]? = some ((11, .invokevirtual 58, 3, 126, 1, 1, 0, 0, [1]) : zm_E) := (congrArg (fun l => l[7]?) cd_163).trans rfl
theorem c_163_8 : (zm_cd 163)[8]? = some ((14, .istore_n 3, 1, 3, 0, 0, 0, 0, []) : zm_E) := (congrArg (fun l => l[8]?) cd_163).trans rfl
theorem c_163_9 : (zm_cd 163)[9]? = some ((15, .iconst 0, 1, 0, 0, 0, 0, 0, []) : zm_E) := (congrArg (fun l => l[9]?) cd_163).trans rfl
theorem c_163_10 : (zm_cd 163)[10]? = some ((16, .istore 4, 2, 4, 0, 0, 0, 0, []) : zm_E) := (congrArg (fun l => l[10]?) cd_163).trans rfl
theorem c_163_11 : (zm_cd 163)[11]? = some ((18, .iconst 0, 1, 0, 0, 0, 0, 0, []) : zm_E) := (congrArg (fun l => l[11]?) cd_163).trans rfl
theorem c_163_12 : (zm_cd 163)[12]? = some ((19, .istore 5, 2, 5, 0, 0, 0, 0, []) : zm_E) := (congrArg (fun l => l[12]?) cd_163).trans rfl
theorem c_163_13 : (zm_cd 163)[13]? = some ((21, .iload 5, 2, 5, 0, 0, 0, 0, []) : zm_E) := (congrArg (fun l => l[13]?) cd_163).trans rfl
theorem c_163_14 : (zm_cd 163)[14]? = some ((23, .aload_n 0, 1, 0, 0, 0, 0, 0, []) : zm_E) := (congrArg (fun l => l[14]?) cd_163).trans rfl
theorem c_163_15 : (zm_cd 163)[15]? = some ((24, .getfield 76, 3, 4, 4, 0, 0, 0, []) : zm_E) := (congrArg (fun l => l[15]?) cd_163).trans rfl
theorem c_163_16 : (zm_cd 163)[16]? = some ((27, .if_icmp .ge 54, 3, 42, 0, 0, 0, 0, []) : zm_E) := (congrArg (fun l => l[16]?) cd_163).trans rfl
theorem c_163_17 : (zm_cd 163)[17]? = some ((30, .aload_n 0, 1, 0, 0, 0, 0, 0, []) : zm_E) := (congrArg (fun l => l[17]?) cd_163).trans rfl
theorem c_163_18 : (zm_cd 163)[18]? = some ((31, .aload_n 1, 1, 1, 0, 0, 0, 0, []) : zm_E) := (congrArg (fun l => l[18]?) cd_163).trans rfl
theorem c_163_19 : (zm_cd 163)[19]? = some ((32, .aload_n 0, 1, 0, 0, 0, 0, 0, []) : zm_E) := (congrArg (fun l => l[19]?) cd_163).trans rfl
theorem c_163_20 : (zm_cd 163)[20]? = some ((33, .getfield 21, 3, 4, 3, 1, 0, 0, []) : zm_E) := (congrArg (fun l => l[20]?) cd_163).trans rfl
theorem c_163_21 : (zm_cd 163)[21]? = some ((36, .iload 5, 2, 5, 0, 0, 0, 0, []) : zm_E) := (congrArg (fun l => l[21]?) cd_163).trans rfl
theorem c_163_22 : (zm_cd 163)[22]? = some ((38, .invokestatic 83, 3, 209, 2, 1, 1, 0, []) : zm_E) := (congrArg (fun l => l[22]?) cd_163).trans rfl
theorem c_163_23 : (zm_cd 163)[23]? = some ((41, .iload 4, 2, 4, 0, 0, 0, 0, []) : zm_E) := (congrArg (fun l => l[23]?) cd_163).trans rfl
theorem c_163_24 : (zm_cd 163)[24]? = some ((43, .iload_n 3, 1, 3, 0, 0, 0, 0, []) : zm_E) := (congrArg (fun l => l[24]?) cd_163).trans rfl
theorem c_163_25 : (zm_cd 163)[25]? = some ((44, .invokevirtual 91, 3, 164, 4, 1, 0, 0, [4]) : zm_E) := (congrArg (fun l => l[25]?) cd_163).trans rfl
theorem c_163_26 : (zm_cd 163)[26]? = some ((47, .istore 6, 2, 6, 0, 0, 0, 0, []) : zm_E) := (congrArg (fun l => l[26]?) cd_163).trans rfl
theorem c_163_27 : (zm_cd 163)[27]? = some ((49, .aload_n 0, 1, 0, 0, 0, 0, 0, []) : zm_E) := (congrArg (fun l => l[27]?) cd_163).trans rfl
theorem c_163_28 : (zm_cd 163)[28]? = some ((50, .getfield 21, 3, 4, 3, 1, 0, 0, []) : zm_E) := (congrArg (fun l => l[28]?) cd_163).trans rfl
theorem c_163_29 : (zm_cd 163)[29]? = some ((53, .iload 5, 2, 5, 0, 0, 0, 0, []) : zm_E) := (congrArg (fun l => l[29]?) cd_163).trans rfl
theorem c_163_30 : (zm_cd 163)[30]? = some ((55, .invokestatic 83, 3, 209, 2, 1, 1, 0, []) : zm_E) := (congrArg (fun l => l[30]?) cd_163).trans rfl
theorem c_163_31 : (zm_cd 163)[31]? = some ((58, .iload_n 2, 1, 2, 0, 0, 0, 0, []) : zm_E) := (congrArg (fun l => l[31]?) cd_163).trans rfl
theorem c_163_32 : (zm_cd 163)[32]? = some ((59, .if_icmp .ne 6, 3, 35, 0, 0, 0, 0, []) : zm_E) := (congrArg (fun l => l[32]?) cd_163).trans rfl
theorem c_163_33 : (zm_cd 163)[33]? = some ((62, .iload 6, 2, 6, 0, 0, 0, 0, []) : zm_E) := (congrArg (fun l => l[33]?) cd_163).trans rfl
theorem c_163_34 : (zm_cd 163)[34]? = some ((64, .ireturn, 1, 0, 0, 0, 0, 0, []) : zm_E) := (congrArg (fun l => l[34]?) cd_163).trans rfl
theorem c_163_35 : (zm_cd 163)[35]? = some ((65, .iload 4, 2, 4, 0, 0, 0, 0, []) : zm_E) := (congrArg (fun l => l[35]?) cd_163).trans rfl
theorem c_163_36 : (zm_cd 163)[36]? = some ((67, .iload 6, 2, 6, 0, 0, 0, 0, []) : zm_E) := (congrArg (fun l => l[36]?) cd_163).trans rfl
theorem c_163_37 : (zm_cd 163)[37]? = some ((69, .invokestatic 69, 3, 36, 1, 1, 1, 0, []) : zm_E) := (congrArg (fun l => l[37]?) cd_163).trans rfl
theorem c_163_38 : (zm_cd 163)[38]? = some ((72, .ior, 1, 0, 0, 0, 0, 0, []) : zm_E) := (congrArg (fun l => l[38]?) cd_163).trans rfl
theorem c_163_39 : (zm_cd 163)[39]? = some ((73, .istore 4, 2, 4, 0, 0, 0, 0, []) : zm_E) := (congrArg (fun l => l[39]?) cd_163).trans rfl
theorem c_163_40 : (zm_cd 163)[40]? = some ((75, .iinc 5 1, 3, 5, 0, 0, 1, 0, []) : zm_E) := (congrArg (fun l => l[40]?) cd_163).trans rfl
theorem c_163_41 : (zm_cd 163)[41]? = some ((78, .goto (-57), 3, 13, 0, 0, 0, 0, []) : zm_E) := (congrArg (fun l => l[41]?) cd_163).trans rfl
theorem c_163_42 : (zm_cd 163)[42]? = some ((81, .bipush (-9), 2, 0, 0, 0, (-9), 0, []) : zm_E) := (congrArg (fun l => l[42]?) cd_163).trans rfl
theorem c_163_43 : (zm_cd 163)[43]? = some ((83, .ireturn, 1, 0, 0, 0, 0, 0, []) : zm_E) := (congrArg (fun l => l[43]?) cd_163).trans rfl
