/-! the instructions, by program, part 4 -/
theorem cd_164 : zm_cd 164 = zd_164 := rfl
theorem ml_164 : zm_ml 164 = 8 := rfl
theorem ht_164 : zm_ht 164 = [] := rfl
theorem c_164_0 : (zm_cd 164)[0]? = some ((0, .iload 4, 2, 4, 0, 0, 0, 0, []) : zm_E) := (congrArg (fun l => l[0]?) cd_164).trans rfl
theorem c_164_1 : (zm_cd 164)[1]? = some ((2, .iload_n 3, 1, 3, 0, 0, 0, 0, []) : zm_E) := (congrArg (fun l => l[1]?) cd_164).trans rfl
theorem c_164_2 : (zm_cd 164)[2]? = some ((3, .iconst (-1), 1, 0, 0, 0, (-1), 0, []) : zm_E) := (congrArg (fun l => l[2]?) cd_164).trans rfl
theorem c_164_3 : (zm_cd 164)[3]? = some ((4, .ixor, 1, 0, 0, 0, 0, 0, []) : zm_E) := (congrArg (fun l => l[3]?) cd_164).trans rfl
theorem c_164_4 : (zm_cd 164)[4]? = some ((5, .iand, 1, 0, 0, 0, 0, 0, []) : zm_E) := (congrArg (fun l => l[4]?) cd_164).trans rfl
theorem c_164_5 : (zm_cd 164)[5]? = some ((6, .istore 5, 2, 5, 0, 0, 0, 0, []) : zm_E) := (congrArg (fun l => l[5]?) cd_164).trans rfl
theorem c_164_6 : (zm_cd 164)[6]? = some ((8, .bipush (-9), 2, 0, 0, 0, (-9), 0, []) : zm_E) := (congrArg (fun l => l[6]?) cd_164).trans rfl
theorem c_164_7 : (zm_cd 164)[7]? = some ((10, .istore 6, 2, 6, 0, 0, 0, 0, []) : zm_E) := (congrArg (fun l => l[7]?) cd_164).trans rfl
theorem c_164_8 : (zm_cd 164)[8]? = some ((12, .iconst 0, 1, 0, 0, 0, 0, 0, []) : zm_E) := (congrArg (fun l => l[8]?) cd_164).trans rfl
theorem c_164_9 : (zm_cd 164)[9]? = some ((13, .istore 7, 2, 7, 0, 0, 0, 0, []) : zm_E) := (congrArg (fun l => l[9]?) cd_164).trans rfl
theorem c_164_10 : (zm_cd 164)[10]? = some ((15, .iload 7, 2, 7, 0, 0, 0, 0, []) : zm_E) := (congrArg (fun l => l[10]?) cd_164).trans rfl
theorem c_164_11 : (zm_cd 164)[11]? = some ((17, .aload_n 1, 1, 1, 0, 0, 0, 0, []) : zm_E) := (congrArg (fun l => l[11]?) cd_164).trans rfl
theorem c_164_12 : (zm_cd 164)[12]? = some ((18, .getfield 61, 3, 1, 0, 0, 0, 0, []) : zm_E) := (congrArg (fun l => l[12]?) cd_164).trans rfl
theorem c_164_13 : (zm_cd 164)[13]? = some ((21, .if_icmp .ge 51, 3, 38, 0, 0, 0, 0, []) : zm_E) := (congrArg (fun l => l[13]?) cd_164).trans rfl
theorem c_164_14 : (zm_cd 164)[14]? = some ((24, .iload 5, 2, 5, 0, 0, 0, 0, []) : zm_E) := (congrArg (fun l => l[14]?) cd_164).trans rfl
theorem c_164_15 : (zm_cd 164)[15]? = some ((26, .iload 7, 2, 7, 0, 0, 0, 0, []) : zm_E) := (congrArg (fun l => l[15]?) cd_164).trans rfl
theorem c_164_16 : (zm_cd 164)[16]? = some ((28, .invokestatic 79, 3, 37, 2, 1, 1, 0, []) : zm_E) := (congrArg (fun l => l[16]?) cd_164).trans rfl
theorem c_164_17 : (zm_cd 164)[17]? = some ((31, .ifCond .eq 35, 3, 36, 0, 0, 0, 0, []) : zm_E) := (congrArg (fun l => l[17]?) cd_164).trans rfl
theorem c_164_18 : (zm_cd 164)[18]? = some ((34, .iload 6, 2, 6, 0, 0, 0, 0, []) : zm_E) := (congrArg (fun l => l[18]?) cd_164).trans rfl
theorem c_164_19 : (zm_cd 164)[19]? = some ((36, .bipush (-9), 2, 0, 0, 0, (-9), 0, []) : zm_E) := (congrArg (fun l => l[19]?) cd_164).trans rfl
theorem c_164_20 : (zm_cd 164)[20]? = some ((38, .if_icmp .eq 24, 3, 34, 0, 0, 0, 0, []) : zm_E) := (congrArg (fun l => l[20]?) cd_164).trans rfl
theorem c_164_21 : (zm_cd 164)[21]? = some ((41, .aload_n 0, 1, 0, 0, 0, 0, 0, []) : zm_E) := (congrArg (fun l => l[21]?) cd_164).trans rfl
theorem c_164_22 : (zm_cd 164)[22]? = some ((42, .aload_n 1, 1, 1, 0, 0, 0, 0, []) : zm_E) := (congrArg (fun l => l[22]?) cd_164).trans rfl
theorem c_164_23 : (zm_cd 164)[23]? = some ((43, .iload_n 2, 1, 2, 0, 0, 0, 0, []) : zm_E) := (congrArg (fun l => l[23]?) cd_164).trans rfl
theorem c_164_24 : (zm_cd 164)[24]? = some ((44, .iload_n 3, 1, 3, 0, 0, 0, 0, []) : zm_E) := (congrArg (fun l => l[24]?) cd_164).trans rfl
theorem c_164_25 : (zm_cd 164)[25]? = some ((45, .iload 7, 2, 7, 0, 0, 0, 0, []) : zm_E) := (congrArg (fun l => l[25]?) cd_164).trans rfl
theorem c_164_26 : (zm_cd 164)[26]? = some ((47, .invokevirtual 95, 3, 165, 4, 1, 0, 0, [4]) : zm_E) := (congrArg (fun l => l[26]?) cd_164).trans rfl
theorem c_164_27 : (zm_cd 164)[27]? = some ((50, .aload_n 0, 1, 0, 0, 0, 0, 0, []) : zm_E) := (congrArg (fun l => l[27]?) cd_164).trans rfl
theorem c_164_28 : (zm_cd 164)[28]? = some ((51, .aload_n 1, 1, 1, 0, 0, 0, 0, []) : zm_E) := (congrArg (fun l => l[28]?) cd_164).trans rfl
theorem c_164_29 : (zm_cd 164)[29]? = some ((52, .iload_n 2, 1, 2, 0, 0, 0, 0, []) : zm_E) := (congrArg (fun l => l[29]?) cd_164).trans rfl
theorem c_164_30 : (zm_cd 164)[30]? = some ((53, .iload_n 3, 1, 3, 0, 0, 0, 0, []) : zm_E) := (congrArg (fun l => l[30]?) cd_164).trans rfl
theorem c_164_31 : (zm_cd 164)[31]? = some ((54, .iload 6, 2, 6, 0, 0, 0, 0, []) : zm_E) := (congrArg (fun l => l[31]?) cd_164).trans rfl
theorem c_164_32 : (zm_cd 164)[32]? = some ((56, .invokevirtual 95, 3, 165, 4, 1, 0, 0, [4]) : zm_E) := (congrArg (fun l => l[32]?) cd_164).trans rfl
theorem c_164_33 : (zm_cd 164)[33]? = some ((59, .if_icmp .ge 7, 3, 36, 0, 0, 0, 0, []) : zm_E) := (congrArg (fun l => l[33]?) cd_164).trans rfl
theorem c_164_34 : (zm_cd 164)[34]? = some ((62, .iload 7, 2, 7, 0, 0, 0, 0, []) : zm_E) := (congrArg (fun l => l[34]?) cd_164).trans rfl
theorem c_164_35 : (zm_cd 164)[35]? = some ((64, .istore 6, 2, 6, 0, 0, 0, 0, []) : zm_E) := (congrArg (fun l => l[35]?) cd_164).trans rfl
theorem c_164_36 : (zm_cd 164)[36]? = some ((66, .iinc 7 1, 3, 7, 0, 0, 1, 0, []) : zm_E) := (congrArg (fun l => l[36]?) cd_164).trans rfl
theorem c_164_37 : (zm_cd 164)[37]? = some ((69, .goto (-54), 3, 10, 0, 0, 0, 0, []) : zm_E) := (congrArg (fun l => l[37]?) cd_164).trans rfl
theorem c_164_38 : (zm_cd 164)[38]? = some ((72, .iload 6, 2, 6, 0, 0, 0, 0, []) : zm_E) := (congrArg (fun l => l[38]?) cd_164).trans rfl
theorem c_164_39 : (zm_cd 164)[39]? = some ((74, .ireturn, 1, 0, 0, 0, 0, 0, []) : zm_E) := (congrArg (fun l => l[39]?) cd_164).trans rfl
theorem cd_165 : zm_cd 165 = zd_165 := rfl
theorem ml_165 : zm_ml 165 = 5 := rfl
theorem ht_165 : zm_ht 165 = [] := rfl
theorem c_165_0 : (zm_cd 165)[0]? = some ((0, .aload_n 1, 1, 1, 0, 0, 0, 0, []) : zm_E) := (congrArg (fun l => l[0]?) cd_165).trans rfl
theorem c_165_1 : (zm_cd 165)[1]? = some ((1, .iload_n 2, 1, 2, 0, 0, 0, 0, []) : zm_E) := (congrArg (fun l => l[1]?) cd_165).trans rfl
theorem c_165_2 : (zm_cd 165)[2]? = some ((2, .iload 4, 2, 4, 0, 0, 0, 0, []) : zm_E) := (congrArg (fun l => l[2]?) cd_165).trans rfl
theorem c_165_3 : (zm_cd 165)[3]? = some ((4, .invokevirtual 102, 3, 121, 2, 1, 0, 0, [1]) : zm_E) := (congrArg (fun l => l[3]?) cd_165).trans rfl
theorem c_165_4 : (zm_cd 165)[4]? = some ((7, .aload_n 0, 1, 0, 0, 0, 0, 0, []) : zm_E) := (congrArg (fun l => l[4]?) cd_165).trans rfl
theorem c_165_5 : (zm_cd 165)[5]? = some ((8, .getfield 24, 3, 4, 5, 1, 0, 0, []) : zm_E) := (congrArg (fun l => l[5]?) cd_165).trans rfl
theorem c_165_6 : (zm_cd 165)[6]? = some ((11, .iload_n 3, 1, 3, 0, 0, 0, 0, []) : zm_E) := (congrArg (fun l => l[6]?) cd_165).trans rfl
theorem c_165_7 : (zm_cd 165)[7]? = some ((12, .iload 4, 2, 4, 0, 0, 0, 0, []) : zm_E) := (congrArg (fun l => l[7]?) cd_165).trans rfl
theorem c_165_8 : (zm_cd 165)[8]? = some ((14, .invokestatic 69, 3, 36, 1, 1, 1, 0, []) : zm_E) := (congrArg (fun l => l[8]?) cd_165).trans rfl
theorem c_165_9 : (zm_cd 165)[9]? = some ((17, .ior, 1, 0, 0, 0, 0, 0, []) : zm_E) := (congrArg (fun l => l[9]?) cd_165).trans rfl
theorem c_165_10 : (zm_cd 165)[10]? = some ((18, .invokestatic 83, 3, 209, 2, 1, 1, 0, []) : zm_E) := (congrArg (fun l => l[10]?) cd_165).trans rfl
theorem c_165_11 : (zm_cd 165)[11]? = some ((21, .iadd, 1, 0, 0, 0, 0, 0, []) : zm_E) := (congrArg (fun l => l[11]?) cd_165).trans rfl
theorem c_165_12 : (zm_cd 165)[12]? = some ((22, .ireturn, 1, 0, 0, 0, 0, 0, []) : zm_E) := (congrArg (fun l => l[12]?) cd_165).trans rfl
theorem cd_167 : zm_cd 167 = zd_167 := rfl
theorem ml_167 : zm_ml 167 = 1 := rfl
theorem ht_167 : zm_ht 167 = [] := rfl
theorem c_167_0 : (zm_cd 167)[0]? = some ((0, .aload_n 0, 1, 0, 0, 0, 0, 0, []) : zm_E) := (congrArg (fun l => l[0]?) cd_167).trans rfl
theorem c_167_1 : (zm_cd 167)[1]? = some ((1, .getfield 15, 3, 5, 1, 0, 0, 0, []) : zm_E) := (congrArg (fun l => l[1]?) cd_167).trans rfl
theorem c_167_2 : (zm_cd 167)[2]? = some ((4, .bipush 70, 2, 0, 0, 0, 70, 0, []) : zm_E) := (congrArg (fun l => l[2]?) cd_167).trans rfl
theorem c_167_3 : (zm_cd 167)[3]? = some ((6, .if_icmp .lt 7, 3, 6, 0, 0, 0, 0, []) : zm_E) := (congrArg (fun l => l[3]?) cd_167).trans rfl
theorem c_167_4 : (zm_cd 167)[4]? = some ((9, .iconst 1, 1, 0, 0, 0, 1, 0, []) : zm_E) := (congrArg (fun l => l[4]?) cd_167).trans rfl
theorem c_167_5 : (zm_cd 167)[5]? = some ((10, .goto 4, 3, 7, 0, 0, 0, 0, []) : zm_E) := (congrArg (fun l => l[5]?) cd_167).trans rfl
theorem c_167_6 : (zm_cd 167)[6]? = some ((13, .iconst 0, 1, 0, 0, 0, 0, 0, []) : zm_E) := (congrArg (fun l => l[6]?) cd_167).trans rfl
theorem c_167_7 : (zm_cd 167)[7]? = some ((14, .ireturn, 1, 1, 0, 0, 0, 0, []) : zm_E) := (congrArg (fun l => l[7]?) cd_167).trans rfl
theorem cd_168 : zm_cd 168 = zd_168 := rfl
theorem ml_168 : zm_ml 168 = 2 := rfl
theorem ht_168 : zm_ht 168 = [] := rfl
theorem c_168_0 : (zm_cd 168)[0]? = some ((0, .aload_n 0, 1, 0, 0, 0, 0, 0, []) : zm_E) := (congrArg (fun l => l[0]?) cd_168).trans rfl
theorem c_168_1 : (zm_cd 168)[1]? = some ((1, .invokevirtual 19, 3, 167, 0, 1, 0, 0, [5]) : zm_E) := (congrArg (fun l => l[1]?) cd_168).trans rfl
theorem c_168_2 : (zm_cd 168)[2]? = some ((4, .ifCond .ne 25, 3, 15, 0, 0, 0, 0, []) : zm_E) := (congrArg (fun l => l[2]?) cd_168).trans rfl
theorem c_168_3 : (zm_cd 168)[3]? = some ((7, .aload_n 0, 1, 0, 0, 0, 0, 0, []) : zm_E) := (congrArg (fun l => l[3]?) cd_168).trans rfl
theorem c_168_4 : (zm_cd 168)[4]? = some ((8, .getfield 11, 3, 5, 0, 1, 0, 0, []) : zm_E) := (congrArg (fun l => l[4]?) cd_168).trans rfl
theorem c_168_5 : (zm_cd 168)[5]? = some ((11, .aload_n 0, 1, 0, 0, 0, 0, 0, []) : zm_E) := (congrArg (fun l => l[5]?) cd_168).trans rfl
theorem c_168_6 : (zm_cd 168)[6]? = some ((12, .getfield 15, 3, 5, 1, 0, 0, 0, []) : zm_E) := (congrArg (fun l => l[6]?) cd_168).trans rfl
theorem c_168_7 : (zm_cd 168)[7]? = some ((15, .iload_n 1, 1, 1, 0, 0, 0, 0, []) : zm_E) := (congrArg (fun l => l[7]?) cd_168).trans rfl
theorem c_168_8 : (zm_cd 168)[8]? = some ((16, .invokestatic 23, 3, 210, 3, 0, 1, 0, []) : zm_E) := (congrArg (fun l => l[8]?) cd_168).trans rfl
theorem c_168_9 : (zm_cd 168)[9]? = some ((19, .aload_n 0, 1, 0, 0, 0, 0, 0, []) : zm_E) := (congrArg (fun l => l[9]?) cd_168).trans rfl
theorem c_168_10 : (zm_cd 168)[10]? = some ((20, .dup, 1, 0, 0, 0, 0, 0, []) : zm_E) := (congrArg (fun l => l[10]?) cd_168).trans rfl
theorem c_168_11 : (zm_cd 168)[11]? = some ((21, .getfield 15, 3, 5, 1, 0, 0, 0, []) : zm_E) := (congrArg (fun l => l[11]?) cd_168).trans rfl
theorem c_168_12 : (zm_cd 168)[12]? = some ((24, .iconst 1, 1, 0, 0, 0, 1, 0, []) : zm_E) := (congrArg (fun l => l[12]?) cd_168).trans rfl
theorem c_168_13 : (zm_cd 168)[13]? = some ((25, .iadd, 1, 0, 0, 0, 0, 0, []) : zm_E) := (congrArg (fun l => l[13]?) cd_168).trans rfl
theorem c_168_14 : (zm_cd 168)[14]? = some ((26, .putfield 15, 3, 5, 1, 0, 0, 0, []) : zm_E) := (congrArg (fun l => l[14]?) cd_168).trans rfl
theorem c_168_15 : (zm_cd 168)[15]? = some ((29, .return_, 1, 0, 0, 0, 0, 0, []) : zm_E) := (congrArg (fun l => l[15]?) cd_168).trans rfl
theorem cd_169 : zm_cd 169 = zd_169 := rfl
theorem ml_169 : zm_ml 169 = 2 := rfl
theorem ht_169 : zm_ht 169 = [] := rfl
theorem c_169_0 : (zm_cd 169)[0]? = some ((0, .iload_n 1, 1, 1, 0, 0, 0, 0, []) : zm_E) := (congrArg (fun l => l[0]?) cd_169).trans rfl
theorem c_169_1 : (zm_cd 169)[1]? = some ((1, .ifCond .lt 22, 3, 11, 0, 0, 0, 0, []) : zm_E) := (congrArg (fun l => l[1]?) cd_169).trans rfl
theorem c_169_2 : (zm_cd 169)[2]? = some ((4, .iload_n 1, 1, 1, 0, 0, 0, 0, []) : zm_E) := (congrArg (fun l => l[2]?) cd_169).trans rfl
theorem c_169_3 : (zm_cd 169)[3]? = some ((5, .aload_n 0, 1, 0, 0, 0, 0, 0, []) : zm_E) := (congrArg (fun l => l[3]?) cd_169).trans rfl
theorem c_169_4 : (zm_cd 169)[4]? = some ((6, .getfield 15, 3, 5, 1, 0, 0, 0, []) : zm_E) := (congrArg (fun l => l[4]?) cd_169).trans rfl
theorem c_169_5 : (zm_cd 169)[5]? = some ((9, .if_icmp .ge 14, 3, 11, 0, 0, 0, 0, []) : zm_E) := (congrArg (fun l => l[5]?) cd_169).trans rfl
theorem c_169_6 : (zm_cd 169)[6]? = some ((12, .aload_n 0, 1, 0, 0, 0, 0, 0, []) : zm_E) := (congrArg (fun l => l[6]?) cd_169).trans rfl
theorem c_169_7 : (zm_cd 169)[7]? = some ((13, .getfield 11, 3, 5, 0, 1, 0, 0, []) : zm_E) := (congrArg (fun l => l[7]?) cd_169).trans rfl
theorem c_169_8 : (zm_cd 169)[8]? = some ((16, .iload_n 1, 1, 1, 0, 0, 0, 0, []) : zm_E) := (congrArg (fun l => l[8]?) cd_169).trans rfl
theorem c_169_9 : (zm_cd 169)[9]? = some ((17, .invokestatic 27, 3, 209, 2, 1, 1, 0, []) : zm_E) := (congrArg (fun l => l[9]?) cd_169).trans rfl
theorem c_169_10 : (zm_cd 169)[10]? = some ((20, .goto 4, 3, 12, 0, 0, 0, 0, []) : zm_E) := (congrArg (fun l => l[10]?) cd_169).trans rfl
theorem c_169_11 : (zm_cd 169)[11]? = some ((23, .iconst (-1), 1, 0, 0, 0, (-1), 0, []) : zm_E) := (congrArg (fun l => l[11]?) cd_169).trans rfl
theorem c_169_12 : (zm_cd 169)[12]? = some ((24, .ireturn, 1, 0, 0, 0, 0, 0, []) : zm_E) := (congrArg (fun l => l[12]?) cd_169).trans rfl
theorem cd_170 : zm_cd 170 = zd_170 := rfl
theorem ml_170 : zm_ml 170 = 5 := rfl
theorem ht_170 : zm_ht 170 = [] := rfl
theorem c_170_0 : (zm_cd 170)[0]? = some ((0, .aload_n 0, 1, 0, 0, 0, 0, 0, []) : zm_E) := (congrArg (fun l => l[0]?) cd_170).trans rfl
theorem c_170_1 : (zm_cd 170)[1]? = some ((1, .iload_n 1, 1, 1, 0, 0, 0, 0, []) : zm_E) := (congrArg (fun l => l[1]?) cd_170).trans rfl
theorem c_170_2 : (zm_cd 170)[2]? = some ((2, .invokevirtual 31, 3, 169, 1, 1, 0, 0, [5]) : zm_E) := (congrArg (fun l => l[2]?) cd_170).trans rfl
theorem c_170_3 : (zm_cd 170)[3]? = some ((5, .bipush 48, 2, 0, 0, 0, 48, 0, []) : zm_E) := (congrArg (fun l => l[3]?) cd_170).trans rfl
theorem c_170_4 : (zm_cd 170)[4]? = some ((7, .isub, 1, 0, 0, 0, 0, 0, []) : zm_E) := (congrArg (fun l => l[4]?) cd_170).trans rfl
theorem c_170_5 : (zm_cd 170)[5]? = some ((8, .istore 4, 2, 4, 0, 0, 0, 0, []) : zm_E) := (congrArg (fun l => l[5]?) cd_170).trans rfl
theorem c_170_6 : (zm_cd 170)[6]? = some ((10, .iload 4, 2, 4, 0, 0, 0, 0, []) : zm_E) := (congrArg (fun l => l[6]?) cd_170).trans rfl
theorem c_170_7 : (zm_cd 170)[7]? = some ((12, .iload_n 2, 1, 2, 0, 0, 0, 0, []) : zm_E) := (congrArg (fun l => l[7]?) cd_170).trans rfl
theorem c_170_8 : (zm_cd 170)[8]? = some ((13, .if_icmp .lt 14, 3, 14, 0, 0, 0, 0, []) : zm_E) := (congrArg (fun l => l[8]?) cd_170).trans rfl
theorem c_170_9 : (zm_cd 170)[9]? = some ((16, .iload 4, 2, 4, 0, 0, 0, 0, []) : zm_E) := (congrArg (fun l => l[9]?) cd_170).trans rfl
theorem c_170_10 : (zm_cd 170)[10]? = some ((18, .iload_n 3, 1, 3, 0, 0, 0, 0, []) : zm_E) := (congrArg (fun l => l[10]?) cd_170).trans rfl
theorem c_170_11 : (zm_cd 170)[11]? = some ((19, .if_icmp .gt 8, 3, 14, 0, 0, 0, 0, []) : zm_E) := (congrArg (fun l => l[11]?) cd_170).trans rfl
theorem c_170_12 : (zm_cd 170)[12]? = some ((22, .iload 4, 2, 4, 0, 0, 0, 0, []) : zm_E) := (congrArg (fun l => l[12]?) cd_170).trans rfl
theorem c_170_13 : (zm_cd 170)[13]? = some ((24, .goto 5, 3, 15, 0, 0, 0, 0, []) : zm_E) := (congrArg (fun l => l[13]?) cd_170).trans rfl
theorem c_170_14 : (zm_cd 170)[14]? = some ((27, .bipush (-9), 2, 0, 0, 0, (-9), 0, []) : zm_E) := (congrArg (fun l => l[14]?) cd_170).trans rfl
theorem c_170_15 : (zm_cd 170)[15]? = some ((29, .ireturn, 1, 0, 0, 0, 0, 0, []) : zm_E) := (congrArg (fun l => l[15]?) cd_170).trans rfl
theorem cd_171 : zm_cd 171 = zd_171 := rfl
theorem ml_171 : zm_ml 171 = 5 := rfl
theorem ht_171 : zm_ht 171 = [] := rfl
theorem c_171_0 : (zm_cd 171)[0]? = some ((0, .aload_n 0, 1, 0, 0, 0, 0, 0, []) : zm_E) := (congrArg (fun l => l[0]?) cd_171).trans rfl
theorem c_171_1 : (zm_cd 171)[1]? = some ((1, .iconst 0, 1, 0, 0, 0, 0, 0, []) : zm_E) := (congrArg (fun l => l[1]?) cd_171).trans rfl
theorem c_171_2 : (zm_cd 171)[2]? = some ((2, .invokevirtual 31, 3, 169, 1, 1, 0, 0, [5]) : zm_E) := (congrArg (fun l => l[2]?) cd_171).trans rfl
theorem c_171_3 : (zm_cd 171)[3]? = some ((5, .bipush 77, 2, 0, 0, 0, 77, 0, []) : zm_E) := (congrArg (fun l => l[3]?) cd_171).trans rfl
theorem c_171_4 : (zm_cd 171)[4]? = some ((7, .if_icmp .eq 5, 3, 7, 0, 0, 0, 0, []) : zm_E) := (congrArg (fun l => l[4]?) cd_171).trans rfl
theorem c_171_5 : (zm_cd 171)[5]? = some ((10, .iconst 0, 1, 0, 0, 0, 0, 0, []) : zm_E) := (congrArg (fun l => l[5]?) cd_171).trans rfl
theorem c_171_6 : (zm_cd 171)[6]? = some ((11, .ireturn, 1, 0, 0, 0, 0, 0, []) : zm_E) := (congrArg (fun l => l[6]?) cd_171).trans rfl
theorem c_171_7 : (zm_cd 171)[7]? = some ((12, .aload_n 0, 1, 0, 0, 0, 0, 0, []) : zm_E) := (congrArg (fun l => l[7]?) cd_171).trans rfl
theorem c_171_8 : (zm_cd 171)[8]? = some ((13, .iconst 1, 1, 0, 0, 0, 1, 0, []) : zm_E) := (congrArg (fun l => l[8]?) cd_171).trans rfl
theorem c_171_9 : (zm_cd 171)[9]? = some ((14, .iconst 1, 1, 0, 0, 0, 1, 0, []) : zm_E) := (congrArg (fun l => l[9]?) cd_171).trans rfl
theorem c_171_10 : (zm_cd 171)[10]? = some ((15, .bipush 7, 2, 0, 0, 0, 7, 0, []) : zm_E) := (congrArg (fun l => l[10]?) cd_171).trans rfl
theorem c_171_11 : (zm_cd 171)[11]? = some ((17, .invokevirtual 35, 3, 170, 3, 1, 0, 0, [5]) : zm_E) := (congrArg (fun l => l[11]?) cd_171).trans rfl
theorem c_171_12 : (zm_cd 171)[12]? = some ((20, .istore_n 2, 1, 2, 0, 0, 0, 0, []) : zm_E) := (congrArg (fun l => l[12]?) cd_171).trans rfl
theorem c_171_13 : (zm_cd 171)[13]? = some ((21, .iload_n 2, 1, 2, 0, 0, 0, 0, []) : zm_E) := (congrArg (fun l => l[13]?) cd_171).trans rfl
theorem c_171_14 : (zm_cd 171)[14]? = some ((22, .bipush (-9), 2, 0, 0, 0, (-9), 0, []) : zm_E) := (congrArg (fun l => l[14]?) cd_171).trans rfl
theorem c_171_15 : (zm_cd 171)[15]? = some ((24, .if_icmp .ne 5, 3, 18, 0, 0, 0, 0, []) : zm_E) := (congrArg (fun l => l[15]?) cd_171).trans rfl
theorem c_171_16 : (zm_cd 171)[16]? = some ((27, .iconst 1, 1, 0, 0, 0, 1, 0, []) : zm_E) := (congrArg (fun l => l[16]?) cd_171).trans rfl
theorem c_171_17 : (zm_cd 171)[17]? = some ((28, .ireturn, 1, 0, 0, 0, 0, 0, []) : zm_E) := (congrArg (fun l => l[17]?) cd_171).trans rfl
theorem c_171_18 : (zm_cd 171)[18]? = some ((29, .aload_n 1, 1, 1, 0, 0, 0, 0, []) : zm_E) := (congrArg (fun l => l[18]?) cd_171).trans rfl
theorem c_171_19 : (zm_cd 171)[19]? = some ((30, .iload_n 2, 1, 2, 0, 0, 0, 0, []) : zm_E) := (congrArg (fun l => l[19]?) cd_171).trans rfl
theorem c_171_20 : (zm_cd 171)[20]? = some ((31, .invokevirtual 39, 3, 135, 1, 0, 0, 0, [1]) : zm_E) := (congrArg (fun l => l[20]?) cd_171).trans rfl
theorem c_171_21 : (zm_cd 171)[21]? = some ((34, .aload_n 0, 1, 0, 0, 0, 0, 0, []) : zm_E) := (congrArg (fun l => l[21]?) cd_171).trans rfl
theorem c_171_22 : (zm_cd 171)[22]? = some ((35, .aload_n 1, 1, 1, 0, 0, 0, 0, []) : zm_E) := (congrArg (fun l => l[22]?) cd_171).trans rfl
theorem c_171_23 : (zm_cd 171)[23]? = some ((36, .iconst 2, 1, 0, 0, 0, 2, 0, []) : zm_E) := (congrArg (fun l => l[23]?) cd_171).trans rfl
theorem c_171_24 : (zm_cd 171)[24]? = some ((37, .invokevirtual 45, 3, 172, 2, 1, 0, 0, [5]) : zm_E) := (congrArg (fun l => l[24]?) cd_171).trans rfl
theorem c_171_25 : (zm_cd 171)[25]? = some ((40, .istore_n 3, 1, 3, 0, 0, 0, 0, []) : zm_E) := (congrArg (fun l => l[25]?) cd_171).trans rfl
theorem c_171_26 : (zm_cd 171)[26]? = some ((41, .iload_n 3, 1, 3, 0, 0, 0, 0, []) : zm_E) := (congrArg (fun l => l[26]?) cd_171).trans rfl
theorem c_171_27 : (zm_cd 171)[27]? = some ((42, .bipush (-9), 2, 0, 0, 0, (-9), 0, []) : zm_E) := (congrArg (fun l => l[27]?) cd_171).trans rfl
theorem c_171_28 : (zm_cd 171)[28]? = some ((44, .if_icmp .eq 5, 3, 31, 0, 0, 0, 0, []) : zm_E) := (congrArg (fun l => l[28]?) cd_171).trans rfl
theorem c_171_29 : (zm_cd 171)[29]? = some ((47, .iload_n 3, 1, 3, 0, 0, 0, 0, []) : zm_E) := (congrArg (fun l => l[29]?) cd_171).trans rfl
theorem c_171_30 : (zm_cd 171)[30]? = some ((48, .ireturn, 1, 0, 0, 0, 0, 0, []) : zm_E) := (congrArg (fun l => l[30]?) cd_171).trans rfl
theorem c_171_31 : (zm_cd 171)[31]? = some ((49, .iconst 2, 1, 0, 0, 0, 2, 0, []) : zm_E) := (congrArg (fun l => l[31]?) cd_171).trans rfl
theorem c_171_32 : (zm_cd 171)[32]? = some ((50, .iload_n 2, 1, 2, 0, 0, 0, 0, []) : zm_E) := (congrArg (fun l => l[32]?) cd_171).trans rfl
theorem c_171_33 : (zm_cd 171)[33]? = some ((51, .iload_n 2, 1, 2, 0, 0, 0, 0, []) : zm_E) := (congrArg (fun l => l[33]?) cd_171).trans rfl
theorem c_171_34 : (zm_cd 171)[34]? = some ((52, .imul, 1, 0, 0, 0, 0, 0, []) : zm_E) := (congrArg (fun l => l[34]?) cd_171).trans rfl
theorem c_171_35 : (zm_cd 171)[35]? = some ((53, .iadd, 1, 0, 0, 0, 0, 0, []) : zm_E) := (congrArg (fun l => l[35]?) cd_171).trans rfl
theorem c_171_36 : (zm_cd 171)[36]? = some ((54, .istore 4, 2, 4, 0, 0, 0, 0, []) : zm_E) := (congrArg (fun l => l[36]?) cd_171).trans rfl
theorem c_171_37 : (zm_cd 171)[37]? = some ((56, .aload_n 0, 1, 0, 0, 0, 0, 0, []) : zm_E) := (congrArg (fun l => l[37]?) cd_171).trans rfl
theorem c_171_38 : (zm_cd 171)[38]? = some ((57, .iload 4, 2, 4, 0, 0, 0, 0, []) : zm_E) := (congrArg (fun l => l[38]?) cd_171).trans rfl
theorem c_171_39 : (zm_cd 171)[39]? = some ((59, .invokevirtual 31, 3, 169, 1, 1, 0, 0, [5]) : zm_E) := (congrArg (fun l => l[39]?) cd_171).trans rfl
theorem c_171_40 : (zm_cd 171)[40]? = some ((62, .iconst (-1), 1, 0, 0, 0, (-1), 0, []) : zm_E) := (congrArg (fun l => l[40]?) cd_171).trans rfl
theorem c_171_41 : (zm_cd 171)[41]? = some ((63, .if_icmp .ne 6, 3, 44, 0, 0, 0, 0, []) : zm_E) := (congrArg (fun l => l[41]?) cd_171).trans rfl
theorem c_171_42 : (zm_cd 171)[42]? = some ((66, .bipush (-9), 2, 0, 0, 0, (-9), 0, []) : zm_E) := (congrArg (fun l => l[42]?) cd_171).trans rfl
theorem c_171_43 : (zm_cd 171)[43]? = some ((68, .ireturn, 1, 0, 0, 0, 0, 0, []) : zm_E) := (congrArg (fun l => l[43]?) cd_171).trans rfl
theorem c_171_44 : (zm_cd 171)[44]? = some ((69, .aload_n 0, 1, 0, 0, 0, 0, 0, []) : zm_E) := (congrArg (fun l => l[44]?) cd_171).trans rfl
theorem c_171_45 : (zm_cd 171)[45]? = some ((70, .iload 4, 2, 4, 0, 0, 0, 0, []) : zm_E) := (congrArg (fun l => l[45]?) cd_171).trans rfl
theorem c_171_46 : (zm_cd 171)[46]? = some ((72, .invokevirtual 31, 3, 169, 1, 1, 0, 0, [5]) : zm_E) := (congrArg (fun l => l[46]?) cd_171).trans rfl
theorem c_171_47 : (zm_cd 171)[47]? = some ((75, .bipush 47, 2, 0, 0, 0, 47, 0, []) : zm_E) := (congrArg (fun l => l[47]?) cd_171).trans rfl
theorem c_171_48 : (zm_cd 171)[48]? = some ((77, .if_icmp .ne 15, 3, 56, 0, 0, 0, 0, []) : zm_E) := (congrArg (fun l => l[48]?) cd_171).trans rfl
theorem c_171_49 : (zm_cd 171)[49]? = some ((80, .aload_n 0, 1, 0, 0, 0, 0, 0, []) : zm_E) := (congrArg (fun l => l[49]?) cd_171).trans rfl
theorem c_171_50 : (zm_cd 171)[50]? = some ((81, .aload_n 1, 1, 1, 0, 0, 0, 0, []) : zm_E) := (congrArg (fun l => l[50]?) cd_171).trans rfl
theorem c_171_51 : (zm_cd 171)[51]? = some ((82, .iload 4, 2, 4, 0, 0, 0, 0, []) : zm_E) := (congrArg (fun l => l[51]?) cd_171).trans rfl
theorem c_171_52 : (zm_cd 171)[52]? = some ((84, .iconst 1, 1, 0, 0, 0, 1, 0, []) : zm_E) := (congrArg (fun l => l[52]?) cd_171).trans rfl
theorem c_171_53 : (zm_cd 171)[53]? = some ((85, .iadd, 1, 0, 0, 0, 0, 0, []) : zm_E) := (congrArg (fun l => l[53]?) cd_171).trans rfl
theorem c_171_54 : (zm_cd 171)[54]? = some ((86, .invokevirtual 49, 3, 173, 2, 1, 0, 0, [5]) : zm_E) := (congrArg (fun l => l[54]?) cd_171).trans rfl
theorem c_171_55 : (zm_cd 171)[55]? = some ((89, .goto 5, 3, 57, 0, 0, 0, 0, []) : zm_E) := (congrArg (fun l => l[55]?) cd_171).trans rfl
theorem c_171_56 : (zm_cd 171)[56]? = some ((92, .iload 4, 2, 4, 0, 0, 0, 0, []) : zm_E) := (congrArg (fun l => l[56]?) cd_171).trans rfl
theorem c_171_57 : (zm_cd 171)[57]? = some ((94, .ireturn, 1, 0, 0, 0, 0, 0, []) : zm_E) := (congrArg (fun l => l[57]?) cd_171).trans rfl
theorem cd_172 : zm_cd 172 = zd_172 := rfl
theorem ml_172 : zm_ml 172 = 7 := rfl
theorem ht_172 : zm_ht 172 = [] := rfl
theorem c_172_0 : (zm_cd 172)[0]? = some ((0, .iload_n 2, 1, 2, 0, 0, 0, 0, []) : zm_E) := (congrArg (fun l => l[0]?) cd_172).trans rfl
theorem c_172_1 : (zm_cd 172)[1]? = some ((1, .istore_n 3, 1, 3, 0, 0, 0, 0, []) : zm_E) := (congrArg (fun l => l[1]?) cd_172).trans rfl
theorem c_172_2 : (zm_cd 172)[2]? = some ((2, .iconst 0, 1, 0, 0, 0, 0, 0, []) : zm_E) := (congrArg (fun l => l[2]?) cd_172).trans rfl
theorem c_172_3 : (zm_cd 172)[3]? = some ((3, .istore 4, 2, 4, 0, 0, 0, 0, []) : zm_E) := (congrArg (fun l => l[3]?) cd_172).trans rfl
theorem c_172_4 : (zm_cd 172)[4]? = some ((5, .iload 4, 2, 4, 0, 0, 0, 0, []) : zm_E) := (congrArg (fun l => l[4]?) cd_172).trans rfl
theorem c_172_5 : (zm_cd 172)[5]? = some ((7, .aload_n 1, 1, 1, 0, 0, 0, 0, []) : zm_E) := (congrArg (fun l => l[5]?) cd_172).trans rfl
theorem c_172_6 : (zm_cd 172)[6]? = some ((8, .getfield 52, 3, 1, 0, 0, 0, 0, []) : zm_E) := (congrArg (fun l => l[6]?) cd_172).trans rfl
theorem c_172_7 : (zm_cd 172)[7]? = some ((11, .if_icmp .ge 59, 3, 35, 0, 0, 0, 0, []) : zm_E) := (congrArg (fun l => l[7]?) cd_172).trans rfl
theorem c_172_8 : (zm_cd 172)[8]? = some ((14, .iconst 0, 1, 0, 0, 0, 0, 0, []) : zm_E) := (congrArg (fun l => l[8]?) cd_172).trans rfl
theorem c_172_9 : (zm_cd 172)[9]? = some ((15, .istore 5, 2, 5, 0, 0, 0, 0, []) : zm_E) := (congrArg (fun l => l[9]?) cd_172).trans rfl
theorem c_172_10 : (zm_cd 172)[10]? = some ((17, .iload 5, 2, 5, 0, 0, 0, 0, []) : zm_E) := (congrArg (fun l => l[10]?) cd_172).trans rfl
theorem c_172_11 : (zm_cd 172)[11]? = some ((19, .aload_n 1, 1, 1, 0, 0, 0, 0, []) : zm_E) := (congrArg (fun l => l[11]?) cd_172).trans rfl
theorem c_172_12 : (zm_cd 172)[12]? = some ((20, .getfield 52, 3, 1, 0, 0, 0, 0, []) : zm_E) := (congrArg (fun l => l[12]?) cd_172).trans rfl
theorem c_172_13 : (zm_cd 172)[13]? = some ((23, .if_icmp .ge 41, 3, 33, 0, 0, 0, 0, []) : zm_E) := (congrArg (fun l => l[13]?) cd_172).trans rfl
theorem c_172_14 : (zm_cd 172)[14]? = some ((26, .aload_n 0, 1, 0, 0, 0, 0, 0, []) : zm_E) := (congrArg (fun l => l[14]?) cd_172).trans rfl
theorem c_172_15 : (zm_cd 172)[15]? = some ((27, .iload_n 3, 1, 3, 0, 0, 0, 0, []) : zm_E) := (congrArg (fun l => l[15]?) cd_172).trans rfl
theorem c_172_16 : (zm_cd 172)[16]? = some ((28, .iconst 0, 1, 0, 0, 0, 0, 0, []) : zm_E) := (congrArg (fun l => l[16]?) cd_172).trans rfl
theorem c_172_17 : (zm_cd 172)[17]? = some ((29, .bipush 9, 2, 0, 0, 0, 9, 0, []) : zm_E) := (congrArg (fun l => l[17]?) cd_172).trans rfl
theorem c_172_18 : (zm_cd 172)[18]? = some ((31, .invokevirtual 35, 3, 170, 3, 1, 0, 0, [5]) : zm_E) := (congrArg (fun l => l[18]?) cd_172).trans rfl
theorem c_172_19 : (zm_cd 172)[19]? = some ((34, .istore 6, 2, 6, 0, 0, 0, 0, []) : zm_E) := (congrArg (fun l => l[19]?) cd_172).trans rfl
theorem c_172_20 : (zm_cd 172)[20]? = some ((36, .iload 6, 2, 6, 0, 0, 0, 0, []) : zm_E) := (congrArg (fun l => l[20]?) cd_172).trans rfl
theorem c_172_21 : (zm_cd 172)[21]? = some ((38, .bipush (-9), 2, 0, 0, 0, (-9), 0, []) : zm_E) := (congrArg (fun l => l[21]?) cd_172).trans rfl
theorem c_172_22 : (zm_cd 172)[22]? = some ((40, .if_icmp .ne 5, 3, 25, 0, 0, 0, 0, []) : zm_E) := (congrArg (fun l => l[22]?) cd_172).trans rfl
theorem c_172_23 : (zm_cd 172)[23]? = some ((43, .iload_n 3, 1, 3, 0, 0, 0, 0, []) : zm_E) := (congrArg (fun l => l[23]?) cd_172).trans rfl
theorem c_172_24 : (zm_cd 172)[24]? = some ((44, .ireturn, 1, 0, 0, 0, 0, 0, []) : zm_E) := (congrArg (fun l => l[24]?) cd_172).trans rfl
theorem c_172_25 : (zm_cd 172)[25]? = some ((45, .aload_n 1, 1, 1, 0, 0, 0, 0, []) : zm_E) := (congrArg (fun l => l[25]?) cd_172).trans rfl
theorem c_172_26 : (zm_cd 172)[26]? = some ((46, .iload 4, 2, 4, 0, 0, 0, 0, []) : zm_E) := (congrArg (fun l => l[26]?) cd_172).trans rfl
theorem c_172_27 : (zm_cd 172)[27]? = some ((48, .iload 5, 2, 5, 0, 0, 0, 0, []) : zm_E) := (congrArg (fun l => l[27]?) cd_172).trans rfl
theorem c_172_28 : (zm_cd 172)[28]? = some ((50, .iload 6, 2, 6, 0, 0, 0, 0, []) : zm_E) := (congrArg (fun l => l[28]?) cd_172).trans rfl
theorem c_172_29 : (zm_cd 172)[29]? = some ((52, .invokevirtual 55, 3, 123, 3, 0, 0, 0, [1]) : zm_E) := (congrArg (fun l => l[29]?) cd_172).trans rfl
theorem c_172_30 : (zm_cd 172)[30]? = some ((55, .iinc 3 1, 3, 3, 0, 0, 1, 0, []) : zm_E) := (congrArg (fun l => l[30]?) cd_172).trans rfl
theorem c_172_31 : (zm_cd 172)[31]? = some ((58, .iinc 5 1, 3, 5, 0, 0, 1, 0, []) : zm_E) := (congrArg (fun l => l[31]?) cd_172).trans rfl
theorem c_172_32 : (zm_cd 172)[32]? = some ((61, .goto (-44), 3, 10, 0, 0, 0, 0, []) : zm_E) := (congrArg (fun l => l[32]?) cd_172).trans rfl
theorem c_172_33 : (zm_cd 172)[33]? = some ((64, .iinc 4 1, 3, 4, 0, 0, 1, 0, []) : zm_E) := (congrArg (fun l => l[33]?) cd_172).trans rfl
theorem c_172_34 : (zm_cd 172)[34]? = some ((67, .goto (-62), 3, 4, 0, 0, 0, 0, []) : zm_E) := (congrArg (fun l => l[34]?) cd_172).trans rfl
theorem c_172_35 : (zm_cd 172)[35]? = some ((70, .bipush (-9), 2, 0, 0, 0, (-9), 0, []) : zm_E) := (congrArg (fun l => l[35]?) cd_172).trans rfl
theorem c_172_36 : (zm_cd 172)[36]? = some ((72, .ireturn, 1, 0, 0, 0, 0, 0, []) : zm_E) := (congrArg (fun l => l[36]?) cd_172).trans rfl
theorem cd_173 : zm_cd 173 = zd_173 := rfl
theorem ml_173 : zm_ml 173 = 7 := rfl
theorem ht_173 : zm_ht 173 = [] := rfl
theorem c_173_0 : (zm_cd 173)[0]? = some ((0, .iload_n 2, 1, 2, 0, 0, 0, 0, []) : zm_E) := (congrArg (fun l => l[0]?) cd_173).trans rfl
theorem c_173_1 : (zm_cd 173)[1]? = some ((1, .istore_n 3, 1, 3, 0, 0, 0, 0, []) : zm_E) := (congrArg (fun l => l[1]?) cd_173).trans rfl
theorem c_173_2 : (zm_cd 173)[2]? = some ((2, .iconst 0, 1, 0, 0, 0, 0, 0, []) : zm_E) := (congrArg (fun l => l[2]?) cd_173).trans rfl
theorem c_173_3 : (zm_cd 173)[3]? = some ((3, .istore 4, 2, 4, 0, 0, 0, 0, []) : zm_E) := (congrArg (fun l => l[3]?) cd_173).trans rfl
theorem c_173_4 : (zm_cd 173)[4]? = some ((5, .iconst 0, 1, 0, 0, 0, 0, 0, []) : zm_E) := (congrArg (fun l => l[4]?) cd_173).trans rfl
theorem c_173_5 : (zm_cd 173)[5]? = some ((6, .istore 5, 2, 5, 0, 0, 0, 0, []) : zm_E) := (congrArg (fun l => l[5]?) cd_173).trans rfl
theorem c_173_6 : (zm_cd 173)[6]? = some ((8, .iload 5, 2, 5, 0, 0, 0, 0, []) : zm_E) := (congrArg (fun l => l[6]?) cd_173).trans rfl
theorem c_173_7 : (zm_cd 173)[7]? = some ((10, .aload_n 1, 1, 1, 0, 0, 0, 0, []) : zm_E) := (congrArg (fun l => l[7]?) cd_173).trans rfl
theorem c_173_8 : (zm_cd 173)[8]? = some ((11, .getfield 52, 3, 1, 0, 0, 0, 0, []) : zm_E) := (congrArg (fun l => l[8]?) cd_173).trans rfl
theorem c_173_9 : (zm_cd 173)[9]? = some ((14, .if_icmp .ge 85, 3, 50, 0, 0, 0, 0, []) : zm_E) := (congrArg (fun l => l[9]?) cd_173).trans rfl
theorem c_173_10 : (zm_cd 173)[10]? = some ((17, .aload_n 0, 1, 0, 0, 0, 0, 0, []) : zm_E) := (congrArg (fun l => l[10]?) cd_173).trans rfl
theorem c_173_11 : (zm_cd 173)[11]? = some ((18, .iload_n 3, 1, 3, 0, 0, 0, 0, []) : zm_E) := (congrArg (fun l => l[11]?) cd_173).trans rfl
theorem c_173_12 : (zm_cd 173)[12]? = some ((19, .iconst 0, 1, 0, 0, 0, 0, 0, []) : zm_E) := (congrArg (fun l => l[12]?) cd_173).trans rfl
theorem c_173_13 : (zm_cd 173)[13]? = some ((20, .aload_n 1, 1, 1, 0, 0, 0, 0, []) : zm_E) := (congrArg (fun l => l[13]?) cd_173).trans rfl
theorem c_173_14 : (zm_cd 173)[14]? = some ((21, .getfield 52, 3, 1, 0, 0, 0, 0, []) : zm_E) := (congrArg (fun l => l[14]?) cd_173).trans rfl
theorem c_173_15 : (zm_cd 173)[15]? = some ((24, .iconst 1, 1, 0, 0, 0, 1, 0, []) : zm_E) := (congrArg (fun l => l[15]?) cd_173).trans rfl
theorem c_173_16 : (zm_cd 173)[16]? = some ((25, .isub, 1, 0, 0, 0, 0, 0, []) : zm_E) := (congrArg (fun l => l[16]?) cd_173).trans rfl
theorem c_173_17 : (zm_cd 173)[17]? = some ((26, .invokevirtual 35, 3, 170, 3, 1, 0, 0, [5]) : zm_E) := (congrArg (fun l => l[17]?) cd_173).trans rfl
theorem c_173_18 : (zm_cd 173)[18]? = some ((29, .istore 6, 2, 6, 0, 0, 0, 0, []) : zm_E) := (congrArg (fun l => l[18]?) cd_173).trans rfl
theorem c_173_19 : (zm_cd 173)[19]? = some ((31, .iload 6, 2, 6, 0, 0, 0, 0, []) : zm_E) := (congrArg (fun l => l[19]?) cd_173).trans rfl
theorem c_173_20 : (zm_cd 173)[20]? = some ((33, .bipush (-9), 2, 0, 0, 0, (-9), 0, []) : zm_E) := (congrArg (fun l => l[20]?) cd_173).trans rfl
theorem c_173_21 : (zm_cd 173)[21]? = some ((35, .if_icmp .eq 13, 3, 26, 0, 0, 0, 0, []) : zm_E) := (congrArg (fun l => l[21]?) cd_173).trans rfl
theorem c_173_22 : (zm_cd 173)[22]? = some ((38, .iload 4, 2, 4, 0, 0, 0, 0, []) : zm_E) := (congrArg (fun l => l[22]?) cd_173).trans rfl
theorem c_173_23 : (zm_cd 173)[23]? = some ((40, .iload 6, 2, 6, 0, 0, 0, 0, []) : zm_E) := (congrArg (fun l => l[23]?) cd_173).trans rfl
theorem c_173_24 : (zm_cd 173)[24]? = some ((42, .invokestatic 59, 3, 37, 2, 1, 1, 0, []) : zm_E) := (congrArg (fun l => l[24]?) cd_173).trans rfl
theorem c_173_25 : (zm_cd 173)[25]? = some ((45, .ifCond .eq 5, 3, 28, 0, 0, 0, 0, []) : zm_E) := (congrArg (fun l => l[25]?) cd_173).trans rfl
theorem c_173_26 : (zm_cd 173)[26]? = some ((48, .iload_n 3, 1, 3, 0, 0, 0, 0, []) : zm_E) := (congrArg (fun l => l[26]?) cd_173).trans rfl
theorem c_173_27 : (zm_cd 173)[27]? = some ((49, .ireturn, 1, 0, 0, 0, 0, 0, []) : zm_E) := (congrArg (fun l => l[27]?) cd_173).trans rfl
theorem c_173_28 : (zm_cd 173)[28]? = some ((50, .iload 4, 2, 4, 0, 0, 0, 0, []) : zm_E) := (congrArg (fun l => l[28]?) cd_173).trans rfl
theorem c_173_29 : (zm_cd 173)[29]? = some ((52, .iload 6, 2, 6, 0, 0, 0, 0, []) : zm_E) := (congrArg (fun l => l[29]?) cd_173).trans rfl
theorem c_173_30 : (zm_cd 173)[30]? = some ((54, .invokestatic 63, 3, 36, 1, 1, 1, 0, []) : zm_E) := (congrArg (fun l => l[30]?) cd_173).trans rfl
theorem c_173_31 : (zm_cd 173)[31]? = some ((57, .ior, 1, 0, 0, 0, 0, 0, []) : zm_E) := (congrArg (fun l => l[31]?) cd_173).trans rfl
theorem c_173_32 : (zm_cd 173)[32]? = some ((58, .istore 4, 2, 4, 0, 0, 0, 0, []) : zm_E) := (congrArg (fun l => l[32]?) cd_173).trans rfl
theorem c_173_33 : (zm_cd 173)[33]? = some ((60, .aload_n 1, 1, 1, 0, 0, 0, 0, []) : zm_E) := (congrArg (fun l => l[33]?) cd_173).trans rfl
theorem c_173_34 : (zm_cd 173)[34]? = some ((61, .getfield 66, 3, 1, 3, 1, 0, 0, []) : zm_E) := (congrArg (fun l => l[34]?) cd_173).trans rfl
theorem c_173_35 : (zm_cd 173)[35]? = some ((64, .iload 5, 2, 5, 0, 0, 0, 0, []) : zm_E) := (congrArg (fun l => l[35]?) cd_173).trans rfl
theorem c_173_36 : (zm_cd 173)[36]? = some ((66, .iload 6, 2, 6, 0, 0, 0, 0, []) : zm_E) := (congrArg (fun l => l[36]?) cd_173).trans rfl
theorem c_173_37 : (zm_cd 173)[37]? = some ((68, .invokestatic 23, 3, 210, 3, 0, 1, 0, []) : zm_E) := (congrArg (fun l => l[37]?) cd_173).trans rfl
theorem c_173_38 : (zm_cd 173)[38]? = some ((71, .iinc 3 1, 3, 3, 0, 0, 1, 0, []) : zm_E) := (congrArg (fun l => l[38]?) cd_173).trans rfl
theorem c_173_39 : (zm_cd 173)[39]? = some ((74, .aload_n 0, 1, 0, 0, 0, 0, 0, []) : zm_E) := (congrArg (fun l => l[39]?) cd_173).trans rfl
theorem c_173_40 : (zm_cd 173)[40]? = some ((75, .iload_n 3, 1, 3, 0, 0, 0, 0, []) : zm_E) := (congrArg (fun l => l[40]?) cd_173).trans rfl
theorem c_173_41 : (zm_cd 173)[41]? = some ((76, .invokevirtual 31, 3, 169, 1, 1, 0, 0, [5]) : zm_E) := (congrArg (fun l => l[41]?) cd_173).trans rfl
theorem c_173_42 : (zm_cd 173)[42]? = some ((79, .bipush 33, 2, 0, 0, 0, 33, 0, []) : zm_E) := (congrArg (fun l => l[42]?) cd_173).trans rfl
theorem c_173_43 : (zm_cd 173)[43]? = some ((81, .if_icmp .ne 12, 3, 48, 0, 0, 0, 0, []) : zm_E) := (congrArg (fun l => l[43]?) cd_173).trans rfl
theorem c_173_44 : (zm_cd 173)[44]? = some ((84, .aload_n 1, 1, 1, 0, 0, 0, 0, []) : zm_E) := (congrArg (fun l => l[44]?) cd_173).trans rfl
theorem c_173_45 : (zm_cd 173)[45]? = some ((85, .iload 5, 2, 5, 0, 0, 0, 0, []) : zm_E) := (congrArg (fun l => l[45]?) cd_173).trans rfl
theorem c_173_46 : (zm_cd 173)[46]? = some ((87, .invokevirtual 69, 3, 133, 1, 0, 0, 0, [1]) : zm_E) := (congrArg (fun l => l[46]?) cd_173).trans rfl
theorem c_173_47 : (zm_cd 173)[47]? = some ((90, .iinc 3 1, 3, 3, 0, 0, 1, 0, []) : zm_E) := (congrArg (fun l => l[47]?) cd_173).trans rfl
theorem c_173_48 : (zm_cd 173)[48]? = some ((93, .iinc 5 1, 3, 5, 0, 0, 1, 0, []) : zm_E) := (congrArg (fun l => l[48]?) cd_173).trans rfl
theorem c_173_49 : (zm_cd 173)[49]? = some ((96, .goto (-88), 3, 6, 0, 0, 0, 0, []) : zm_E) := (congrArg (fun l => l[49]?) cd_173).trans rfl
theorem c_173_50 : (zm_cd 173)[50]? = some ((99, .aload_n 0, 1, 0, 0, 0, 0, 0, []) : zm_E) := (congrArg (fun l => l[50]?) cd_173).trans rfl
theorem c_173_51 : (zm_cd 173)[51]? = some ((100, .iload_n 3, 1, 3, 0, 0, 0, 0, []) : zm_E) := (congrArg (fun l => l[51]?) cd_173).trans rfl
theorem c_173_52 : (zm_cd 173)[52]? = some ((101, .invokevirtual 31, 3, 169, 1, 1, 0, 0, [5]) : zm_E) := (congrArg (fun l => l[52]?) cd_173).trans rfl
theorem c_173_53 : (zm_cd 173)[53]? = some ((104, .iconst (-1), 1, 0, 0, 0, (-1), 0, []) : zm_E) := (congrArg (fun l => l[53]?) cd_173).trans rfl
theorem c_173_54 : (zm_cd 173)[54]? = some ((105, .if_icmp .ne 8, 3, 57, 0, 0, 0, 0, []) : zm_E) := (congrArg (fun l => l[54]?) cd_173).trans rfl
theorem c_173_55 : (zm_cd 173)[55]? = some ((108, .bipush (-9), 2, 0, 0, 0, (-9), 0, []) : zm_E) := (congrArg (fun l => l[55]?) cd_173).trans rfl
theorem c_173_56 : (zm_cd 173)[56]? = some ((110, .goto 4, 3, 58, 0, 0, 0, 0, []) : zm_E) := (congrArg (fun l => l[56]?) cd_173).trans rfl
theorem c_173_57 : (zm_cd 173)[57]? = some ((113, .iload_n 3, 1, 3, 0, 0, 0, 0, []) : zm_E) := (congrArg (fun l => l[57]?) cd_173).trans rfl
theorem c_173_58 : (zm_cd 173)[58]? = some ((114, .ireturn, 1, 0, 0, 0, 0, 0, []) : zm_E) := (congrArg (fun l => l[58]?) cd_173).trans rfl
theorem cd_175 : zm_cd 175 = zd_175 := rfl
theorem ml_175 : zm_ml 175 = 4 := rfl
theorem ht_175 : zm_ht 175 = [] := rfl
theorem c_175_0 : (zm_cd 175)[0]? = some ((0, .aload_n 0, 1, 0, 0, 0, 0, 0, []) : zm_E) := (congrArg (fun l => l[0]?) cd_175).trans rfl
theorem c_175_1 : (zm_cd 175)[1]? = some ((1, .invokevirtual 33, 3, 179, 0, 0, 0, 0, [6]) : zm_E) := (congrArg (fun l => l[1]?) cd_175).trans rfl
theorem c_175_2 : (zm_cd 175)[2]? = some ((4, .iload_n 2, 1, 2, 0, 0, 0, 0, []) : zm_E) := (congrArg (fun l => l[2]?) cd_175).trans rfl
theorem c_175_3 : (zm_cd 175)[3]? = some ((5, .istore_n 3, 1, 3, 0, 0, 0, 0, []) : zm_E) := (congrArg (fun l => l[3]?) cd_175).trans rfl
theorem c_175_4 : (zm_cd 175)[4]? = some ((6, .iload_n 3, 1, 3, 0, 0, 0, 0, []) : zm_E) := (congrArg (fun l => l[4]?) cd_175).trans rfl
theorem c_175_5 : (zm_cd 175)[5]? = some ((7, .ifCond .eq 42, 3, 30, 0, 0, 0, 0, []) : zm_E) := (congrArg (fun l => l[5]?) cd_175).trans rfl
theorem c_175_6 : (zm_cd 175)[6]? = some ((10, .aload_n 0, 1, 0, 0, 0, 0, 0, []) : zm_E) := (congrArg (fun l => l[6]?) cd_175).trans rfl
theorem c_175_7 : (zm_cd 175)[7]? = some ((11, .getfield 36, 3, 6, 1, 0, 0, 0, []) : zm_E) := (congrArg (fun l => l[7]?) cd_175).trans rfl
theorem c_175_8 : (zm_cd 175)[8]? = some ((14, .bipush 7, 2, 0, 0, 0, 7, 0, []) : zm_E) := (congrArg (fun l => l[8]?) cd_175).trans rfl
theorem c_175_9 : (zm_cd 175)[9]? = some ((16, .if_icmp .ge 33, 3, 30, 0, 0, 0, 0, []) : zm_E) := (congrArg (fun l => l[9]?) cd_175).trans rfl
theorem c_175_10 : (zm_cd 175)[10]? = some ((19, .aload_n 0, 1, 0, 0, 0, 0, 0, []) : zm_E) := (congrArg (fun l => l[10]?) cd_175).trans rfl
theorem c_175_11 : (zm_cd 175)[11]? = some ((20, .aload_n 1, 1, 1, 0, 0, 0, 0, []) : zm_E) := (congrArg (fun l => l[11]?) cd_175).trans rfl
theorem c_175_12 : (zm_cd 175)[12]? = some ((21, .iload_n 3, 1, 3, 0, 0, 0, 0, []) : zm_E) := (congrArg (fun l => l[12]?) cd_175).trans rfl
theorem c_175_13 : (zm_cd 175)[13]? = some ((22, .invokevirtual 40, 3, 180, 2, 0, 0, 0, [6]) : zm_E) := (congrArg (fun l => l[13]?) cd_175).trans rfl
theorem c_175_14 : (zm_cd 175)[14]? = some ((25, .iload_n 3, 1, 3, 0, 0, 0, 0, []) : zm_E) := (congrArg (fun l => l[14]?) cd_175).trans rfl
theorem c_175_15 : (zm_cd 175)[15]? = some ((26, .aload_n 0, 1, 0, 0, 0, 0, 0, []) : zm_E) := (congrArg (fun l => l[15]?) cd_175).trans rfl
theorem c_175_16 : (zm_cd 175)[16]? = some ((27, .aload_n 1, 1, 1, 0, 0, 0, 0, []) : zm_E) := (congrArg (fun l => l[16]?) cd_175).trans rfl
theorem c_175_17 : (zm_cd 175)[17]? = some ((28, .iload_n 3, 1, 3, 0, 0, 0, 0, []) : zm_E) := (congrArg (fun l => l[17]?) cd_175).trans rfl
theorem c_175_18 : (zm_cd 175)[18]? = some ((29, .invokevirtual 44, 3, 182, 2, 1, 0, 0, [6]) : zm_E) := (congrArg (fun l => l[18]?) cd_175).trans rfl
theorem c_175_19 : (zm_cd 175)[19]? = some ((32, .iconst (-1), 1, 0, 0, 0, (-1), 0, []) : zm_E) := (congrArg (fun l => l[19]?) cd_175).trans rfl
theorem c_175_20 : (zm_cd 175)[20]? = some ((33, .ixor, 1, 0, 0, 0, 0, 0, []) : zm_E) := (congrArg (fun l => l[20]?) cd_175).trans rfl
theorem c_175_21 : (zm_cd 175)[21]? = some ((34, .iand, 1, 0, 0, 0, 0, 0, []) : zm_E) := (congrArg (fun l => l[21]?) cd_175).trans rfl
theorem c_175_22 : (zm_cd 175)[22]? = some ((35, .istore_n 3, 1, 3, 0, 0, 0, 0, []) : zm_E) := (congrArg (fun l => l[22]?) cd_175).trans rfl
theorem c_175_23 : (zm_cd 175)[23]? = some ((36, .aload_n 0, 1, 0, 0, 0, 0, 0, []) : zm_E) := (congrArg (fun l => l[23]?) cd_175).trans rfl
theorem c_175_24 : (zm_cd 175)[24]? = some ((37, .dup, 1, 0, 0, 0, 0, 0, []) : zm_E) := (congrArg (fun l => l[24]?) cd_175).trans rfl
theorem c_175_25 : (zm_cd 175)[25]? = some ((38, .getfield 36, 3, 6, 1, 0, 0, 0, []) : zm_E) := (congrArg (fun l => l[25]?) cd_175).trans rfl
theorem c_175_26 : (zm_cd 175)[26]? = some ((41, .iconst 1, 1, 0, 0, 0, 1, 0, []) : zm_E) := (congrArg (fun l => l[26]?) cd_175).trans rfl
theorem c_175_27 : (zm_cd 175)[27]? = some ((42, .iadd, 1, 0, 0, 0, 0, 0, []) : zm_E) := (congrArg (fun l => l[27]?) cd_175).trans rfl
theorem c_175_28 : (zm_cd 175)[28]? = some ((43, .putfield 36, 3, 6, 1, 0, 0, 0, []) : zm_E) := (congrArg (fun l => l[28]?) cd_175).trans rfl
theorem c_175_29 : (zm_cd 175)[29]? = some ((46, .goto (-40), 3, 4, 0, 0, 0, 0, []) : zm_E) := (congrArg (fun l => l[29]?) cd_175).trans rfl
theorem c_175_30 : (zm_cd 175)[30]? = some ((49, .return_, 1, 0, 0, 0, 0, 0, []) : zm_E) := (congrArg (fun l => l[30]?) cd_175).trans rfl
theorem cd_176 : zm_cd 176 = zd_176 := rfl
theorem ml_176 : zm_ml 176 = 2 := rfl
theorem ht_176 : zm_ht 176 = [] := rfl
theorem c_176_0 : (zm_cd 176)[0]? = some ((0, .iload_n 1, 1, 1, 0, 0, 0, 0, []) : zm_E) := (congrArg (fun l => l[0]?) cd_176).trans rfl
theorem c_176_1 : (zm_cd 176)[1]? = some ((1, .ifCond .lt 15, 3, 8, 0, 0, 0, 0, []) : zm_E) := (congrArg (fun l => l[1]?) cd_176).trans rfl
theorem c_176_2 : (zm_cd 176)[2]? = some ((4, .iload_n 1, 1, 1, 0, 0, 0, 0, []) : zm_E) := (congrArg (fun l => l[2]?) cd_176).trans rfl
theorem c_176_3 : (zm_cd 176)[3]? = some ((5, .aload_n 0, 1, 0, 0, 0, 0, 0, []) : zm_E) := (congrArg (fun l => l[3]?) cd_176).trans rfl
theorem c_176_4 : (zm_cd 176)[4]? = some ((6, .getfield 48, 3, 6, 0, 0, 0, 0, []) : zm_E) := (congrArg (fun l => l[4]?) cd_176).trans rfl
theorem c_176_5 : (zm_cd 176)[5]? = some ((9, .if_icmp .ge 7, 3, 8, 0, 0, 0, 0, []) : zm_E) := (congrArg (fun l => l[5]?) cd_176).trans rfl
theorem c_176_6 : (zm_cd 176)[6]? = some ((12, .iconst 1, 1, 0, 0, 0, 1, 0, []) : zm_E) := (congrArg (fun l => l[6]?) cd_176).trans rfl
theorem c_176_7 : (zm_cd 176)[7]? = some ((13, .goto 4, 3, 9, 0, 0, 0, 0, []) : zm_E) := (congrArg (fun l => l[7]?) cd_176).trans rfl
theorem c_176_8 : (zm_cd 176)[8]? = some ((16, .iconst 0, 1, 0, 0, 0, 0, 0, []) : zm_E) := (congrArg (fun l => l[8]?) cd_176).trans rfl
theorem c_176_9 : (zm_cd 176)[9]? = some ((17, .ireturn, 1, 1, 0, 0, 0, 0, []) : zm_E) := (congrArg (fun l => l[9]?) cd_176).trans rfl
theorem cd_177 : zm_cd 177 = zd_177 := rfl
theorem ml_177 : zm_ml 177 = 5 := rfl
theorem ht_177 : zm_ht 177 = [] := rfl
theorem c_177_0 : (zm_cd 177)[0]? = some ((0, .iconst 0, 1, 0, 0, 0, 0, 0, []) : zm_E) := (congrArg (fun l => l[0]?) cd_177).trans rfl
theorem c_177_1 : (zm_cd 177)[1]? = some ((1, .istore_n 2, 1, 2, 0, 0, 0, 0, []) : zm_E) := (congrArg (fun l => l[1]?) cd_177).trans rfl
theorem c_177_2 : (zm_cd 177)[2]? = some ((2, .iconst 0, 1, 0, 0, 0, 0, 0, []) : zm_E) := (congrArg (fun l => l[2]?) cd_177).trans rfl
theorem c_177_3 : (zm_cd 177)[3]? = some ((3, .istore_n 3, 1, 3, 0, 0, 0, 0, []) : zm_E) := (congrArg (fun l => l[3]?) cd_177).trans rfl
theorem c_177_4 : (zm_cd 177)[4]? = some ((4, .iload_n 3, 1, 3, 0, 0, 0, 0, []) : zm_E) := (congrArg (fun l => l[4]?) cd_177).trans rfl
theorem c_177_5 : (zm_cd 177)[5]? = some ((5, .aload_n 1, 1, 1, 0, 0, 0, 0, []) : zm_E) := (congrArg (fun l => l[5]?) cd_177).trans rfl
theorem c_177_6 : (zm_cd 177)[6]? = some ((6, .getfield 51, 3, 1, 0, 0, 0, 0, []) : zm_E) := (congrArg (fun l => l[6]?) cd_177).trans rfl
theorem c_177_7 : (zm_cd 177)[7]? = some ((9, .if_icmp .ge 42, 3, 25, 0, 0, 0, 0, []) : zm_E) := (congrArg (fun l => l[7]?) cd_177).trans rfl
theorem c_177_8 : (zm_cd 177)[8]? = some ((12, .aload_n 0, 1, 0, 0, 0, 0, 0, []) : zm_E) := (congrArg (fun l => l[8]?) cd_177).trans rfl
theorem c_177_9 : (zm_cd 177)[9]? = some ((13, .getfield 9, 3, 6, 2, 1, 0, 0, []) : zm_E) := (congrArg (fun l => l[9]?) cd_177).trans rfl
theorem c_177_10 : (zm_cd 177)[10]? = some ((16, .iload_n 3, 1, 3, 0, 0, 0, 0, []) : zm_E) := (congrArg (fun l => l[10]?) cd_177).trans rfl
theorem c_177_11 : (zm_cd 177)[11]? = some ((17, .invokestatic 56, 3, 209, 2, 1, 1, 0, []) : zm_E) := (congrArg (fun l => l[11]?) cd_177).trans rfl
theorem c_177_12 : (zm_cd 177)[12]? = some ((20, .istore 4, 2, 4, 0, 0, 0, 0, []) : zm_E) := (congrArg (fun l => l[12]?) cd_177).trans rfl
theorem c_177_13 : (zm_cd 177)[13]? = some ((22, .iload 4, 2, 4, 0, 0, 0, 0, []) : zm_E) := (congrArg (fun l => l[13]?) cd_177).trans rfl
theorem c_177_14 : (zm_cd 177)[14]? = some ((24, .bipush (-9), 2, 0, 0, 0, (-9), 0, []) : zm_E) := (congrArg (fun l => l[14]?) cd_177).trans rfl
theorem c_177_15 : (zm_cd 177)[15]? = some ((26, .if_icmp .eq 19, 3, 23, 0, 0, 0, 0, []) : zm_E) := (congrArg (fun l => l[15]?) cd_177).trans rfl
theorem c_177_16 : (zm_cd 177)[16]? = some ((29, .iload 4, 2, 4, 0, 0, 0, 0, []) : zm_E) := (congrArg (fun l => l[16]?) cd_177).trans rfl
theorem c_177_17 : (zm_cd 177)[17]? = some ((31, .aload_n 1, 1, 1, 0, 0, 0, 0, []) : zm_E) := (congrArg (fun l => l[17]?) cd_177).trans rfl
theorem c_177_18 : (zm_cd 177)[18]? = some ((32, .getfield 60, 3, 1, 3, 1, 0, 0, []) : zm_E) := (congrArg (fun l => l[18]?) cd_177).trans rfl
theorem c_177_19 : (zm_cd 177)[19]? = some ((35, .iload_n 3, 1, 3, 0, 0, 0, 0, []) : zm_E) := (congrArg (fun l => l[19]?) cd_177).trans rfl
theorem c_177_20 : (zm_cd 177)[20]? = some ((36, .invokestatic 56, 3, 209, 2, 1, 1, 0, []) : zm_E) := (congrArg (fun l => l[20]?) cd_177).trans rfl
theorem c_177_21 : (zm_cd 177)[21]? = some ((39, .if_icmp .eq 6, 3, 23, 0, 0, 0, 0, []) : zm_E) := (congrArg (fun l => l[21]?) cd_177).trans rfl
theorem c_177_22 : (zm_cd 177)[22]? = some ((42, .iinc 2 1, 3, 2, 0, 0, 1, 0, []) : zm_E) := (congrArg (fun l => l[22]?) cd_177).trans rfl
theorem c_177_23 : (zm_cd 177)[23]? = some ((45, .iinc 3 1, 3, 3, 0, 0, 1, 0, []) : zm_E) := (congrArg (fun l => l[23]?) cd_177).trans rfl
theorem c_177_24 : (zm_cd 177)[24]? = some ((48, .goto (-44), 3, 4, 0, 0, 0, 0, []) : zm_E) := (congrArg (fun l => l[24]?) cd_177).trans rfl
theorem c_177_25 : (zm_cd 177)[25]? = some ((51, .iload_n 2, 1, 2, 0, 0, 0, 0, []) : zm_E) := (congrArg (fun l => l[25]?) cd_177).trans rfl
theorem c_177_26 : (zm_cd 177)[26]? = some ((52, .ireturn, 1, 0, 0, 0, 0, 0, []) : zm_E) := (congrArg (fun l => l[26]?) cd_177).trans rfl
theorem cd_178 : zm_cd 178 = zd_178 := rfl
theorem ml_178 : zm_ml 178 = 5 := rfl
theorem ht_178 : zm_ht 178 = [] := rfl
theorem c_178_0 : (zm_cd 178)[0]? = some ((0, .iconst 0, 1, 0, 0, 0, 0, 0, []) : zm_E) := (congrArg (fun l => l[0]?) cd_178).trans rfl
theorem c_178_1 : (zm_cd 178)[1]? = some ((1, .istore_n 3, 1, 3, 0, 0, 0, 0, []) : zm_E) := (congrArg (fun l => l[1]?) cd_178).trans rfl
theorem c_178_2 : (zm_cd 178)[2]? = some ((2, .iconst 0, 1, 0, 0, 0, 0, 0, []) : zm_E) := (congrArg (fun l => l[2]?) cd_178).trans rfl
theorem c_178_3 : (zm_cd 178)[3]? = some ((3, .istore 4, 2, 4, 0, 0, 0, 0, []) : zm_E) := (congrArg (fun l => l[3]?) cd_178).trans rfl
theorem c_178_4 : (zm_cd 178)[4]? = some ((5, .iload 4, 2, 4, 0, 0, 0, 0, []) : zm_E) := (congrArg (fun l => l[4]?) cd_178).trans rfl
theorem c_178_5 : (zm_cd 178)[5]? = some ((7, .aload_n 1, 1, 1, 0, 0, 0, 0, []) : zm_E) := (congrArg (fun l => l[5]?) cd_178).trans rfl
theorem c_178_6 : (zm_cd 178)[6]? = some ((8, .getfield 51, 3, 1, 0, 0, 0, 0, []) : zm_E) := (congrArg (fun l => l[6]?) cd_178).trans rfl
theorem c_178_7 : (zm_cd 178)[7]? = some ((11, .if_icmp .ge 43, 3, 27, 0, 0, 0, 0, []) : zm_E) := (congrArg (fun l => l[7]?) cd_178).trans rfl
theorem c_178_8 : (zm_cd 178)[8]? = some ((14, .aload_n 0, 1, 0, 0, 0, 0, 0, []) : zm_E) := (congrArg (fun l => l[8]?) cd_178).trans rfl
theorem c_178_9 : (zm_cd 178)[9]? = some ((15, .getfield 24, 3, 6, 6, 1, 0, 0, []) : zm_E) := (congrArg (fun l => l[9]?) cd_178).trans rfl
theorem c_178_10 : (zm_cd 178)[10]? = some ((18, .iload_n 2, 1, 2, 0, 0, 0, 0, []) : zm_E) := (congrArg (fun l => l[10]?) cd_178).trans rfl
theorem c_178_11 : (zm_cd 178)[11]? = some ((19, .invokestatic 56, 3, 209, 2, 1, 1, 0, []) : zm_E) := (congrArg (fun l => l[11]?) cd_178).trans rfl
theorem c_178_12 : (zm_cd 178)[12]? = some ((22, .iload 4, 2, 4, 0, 0, 0, 0, []) : zm_E) := (congrArg (fun l => l[12]?) cd_178).trans rfl
theorem c_178_13 : (zm_cd 178)[13]? = some ((24, .invokestatic 63, 3, 37, 2, 1, 1, 0, []) : zm_E) := (congrArg (fun l => l[13]?) cd_178).trans rfl
theorem c_178_14 : (zm_cd 178)[14]? = some ((27, .ifCond .eq 21, 3, 25, 0, 0, 0, 0, []) : zm_E) := (congrArg (fun l => l[14]?) cd_178).trans rfl
theorem c_178_15 : (zm_cd 178)[15]? = some ((30, .iload_n 3, 1, 3, 0, 0, 0, 0, []) : zm_E) := (congrArg (fun l => l[15]?) cd_178).trans rfl
theorem c_178_16 : (zm_cd 178)[16]? = some ((31, .aload_n 1, 1, 1, 0, 0, 0, 0, []) : zm_E) := (congrArg (fun l => l[16]?) cd_178).trans rfl
theorem c_178_17 : (zm_cd 178)[17]? = some ((32, .iload 4, 2, 4, 0, 0, 0, 0, []) : zm_E) := (congrArg (fun l => l[17]?) cd_178).trans rfl
theorem c_178_18 : (zm_cd 178)[18]? = some ((34, .aload_n 0, 1, 0, 0, 0, 0, 0, []) : zm_E) := (congrArg (fun l => l[18]?) cd_178).trans rfl
theorem c_178_19 : (zm_cd 178)[19]? = some ((35, .getfield 9, 3, 6, 2, 1, 0, 0, []) : zm_E) := (congrArg (fun l => l[19]?) cd_178).trans rfl
theorem c_178_20 : (zm_cd 178)[20]? = some ((38, .iload 4, 2, 4, 0, 0, 0, 0, []) : zm_E) := (congrArg (fun l => l[20]?) cd_178).trans rfl
theorem c_178_21 : (zm_cd 178)[21]? = some ((40, .invokestatic 56, 3, 209, 2, 1, 1, 0, []) : zm_E) := (congrArg (fun l => l[21]?) cd_178).trans rfl
theorem c_178_22 : (zm_cd 178)[22]? = some ((43, .invokevirtual 67, 3, 124, 2, 1, 0, 0, [1]) : zm_E) := (congrArg (fun l => l[22]?) cd_178).trans rfl
theorem c_178_23 : (zm_cd 178)[23]? = some ((46, .isub, 1, 0, 0, 0, 0, 0, []) : zm_E) := (congrArg (fun l => l[23]?) cd_178).trans rfl
theorem c_178_24 : (zm_cd 178)[24]? = some ((47, .istore_n 3, 1, 3, 0, 0, 0, 0, []) : zm_E) := (congrArg (fun l => l[24]?) cd_178).trans rfl
theorem c_178_25 : (zm_cd 178)[25]? = some ((48, .iinc 4 1, 3, 4, 0, 0, 1, 0, []) : zm_E) := (congrArg (fun l => l[25]?) cd_178).trans rfl
theorem c_178_26 : (zm_cd 178)[26]? = some ((51, .goto (-46), 3, 4, 0, 0, 0, 0, []) : zm_E) := (congrArg (fun l => l[26]?) cd_178).trans rfl
theorem c_178_27 : (zm_cd 178)[27]? = some ((54, .iload_n 3, 1, 3, 0, 0, 0, 0, []) : zm_E) := (congrArg (fun l => l[27]?) cd_178).trans rfl
theorem c_178_28 : (zm_cd 178)[28]? = some ((55, .ireturn, 1, 0, 0, 0, 0, 0, []) : zm_E) := (congrArg (fun l => l[28]?) cd_178).trans rfl
theorem cd_179 : zm_cd 179 = zd_179 := rfl
theorem ml_179 : zm_ml 179 = 2 := rfl
theorem ht_179 : zm_ht 179 = [] := rfl
theorem c_179_0 : (zm_cd 179)[0]? = some ((0, .aload_n 0, 1, 0, 0, 0, 0, 0, []) : zm_E) := (congrArg (fun l => l[0]?) cd_179).trans rfl
theorem c_179_1 : (zm_cd 179)[1]? = some ((1, .iconst 0, 1, 0, 0, 0, 0, 0, []) : zm_E) := (congrArg (fun l => l[1]?) cd_179).trans rfl
theorem c_179_2 : (zm_cd 179)[2]? = some ((2, .putfield 48, 3, 6, 0, 0, 0, 0, []) : zm_E) := (congrArg (fun l => l[2]?) cd_179).trans rfl
theorem c_179_3 : (zm_cd 179)[3]? = some ((5, .aload_n 0, 1, 0, 0, 0, 0, 0, []) : zm_E) := (congrArg (fun l => l[3]?) cd_179).trans rfl
theorem c_179_4 : (zm_cd 179)[4]? = some ((6, .iconst 0, 1, 0, 0, 0, 0, 0, []) : zm_E) := (congrArg (fun l => l[4]?) cd_179).trans rfl
theorem c_179_5 : (zm_cd 179)[5]? = some ((7, .putfield 36, 3, 6, 1, 0, 0, 0, []) : zm_E) := (congrArg (fun l => l[5]?) cd_179).trans rfl
theorem c_179_6 : (zm_cd 179)[6]? = some ((10, .iconst 0, 1, 0, 0, 0, 0, 0, []) : zm_E) := (congrArg (fun l => l[6]?) cd_179).trans rfl
theorem c_179_7 : (zm_cd 179)[7]? = some ((11, .istore_n 1, 1, 1, 0, 0, 0, 0, []) : zm_E) := (congrArg (fun l => l[7]?) cd_179).trans rfl
theorem c_179_8 : (zm_cd 179)[8]? = some ((12, .iload_n 1, 1, 1, 0, 0, 0, 0, []) : zm_E) := (congrArg (fun l => l[8]?) cd_179).trans rfl
theorem c_179_9 : (zm_cd 179)[9]? = some ((13, .bipush 7, 2, 0, 0, 0, 7, 0, []) : zm_E) := (congrArg (fun l => l[9]?) cd_179).trans rfl
theorem c_179_10 : (zm_cd 179)[10]? = some ((15, .if_icmp .ge 49, 3, 33, 0, 0, 0, 0, []) : zm_E) := (congrArg (fun l => l[10]?) cd_179).trans rfl
theorem c_179_11 : (zm_cd 179)[11]? = some ((18, .aload_n 0, 1, 0, 0, 0, 0, 0, []) : zm_E) := (congrArg (fun l => l[11]?) cd_179).trans rfl
theorem c_179_12 : (zm_cd 179)[12]? = some ((19, .getfield 9, 3, 6, 2, 1, 0, 0, []) : zm_E) := (congrArg (fun l => l[12]?) cd_179).trans rfl
theorem c_179_13 : (zm_cd 179)[13]? = some ((22, .iload_n 1, 1, 1, 0, 0, 0, 0, []) : zm_E) := (congrArg (fun l => l[13]?) cd_179).trans rfl
theorem c_179_14 : (zm_cd 179)[14]? = some ((23, .bipush (-9), 2, 0, 0, 0, (-9), 0, []) : zm_E) := (congrArg (fun l => l[14]?) cd_179).trans rfl
theorem c_179_15 : (zm_cd 179)[15]? = some ((25, .invokestatic 71, 3, 210, 3, 0, 1, 0, []) : zm_E) := (congrArg (fun l => l[15]?) cd_179).trans rfl
theorem c_179_16 : (zm_cd 179)[16]? = some ((28, .aload_n 0, 1, 0, 0, 0, 0, 0, []) : zm_E) := (congrArg (fun l => l[16]?) cd_179).trans rfl
theorem c_179_17 : (zm_cd 179)[17]? = some ((29, .getfield 15, 3, 6, 3, 1, 0, 0, []) : zm_E) := (congrArg (fun l => l[17]?) cd_179).trans rfl
theorem c_179_18 : (zm_cd 179)[18]? = some ((32, .iload_n 1, 1, 1, 0, 0, 0, 0, []) : zm_E) := (congrArg (fun l => l[18]?) cd_179).trans rfl
theorem c_179_19 : (zm_cd 179)[19]? = some ((33, .bipush (-9), 2, 0, 0, 0, (-9), 0, []) : zm_E) := (congrArg (fun l => l[19]?) cd_179).trans rfl
theorem c_179_20 : (zm_cd 179)[20]? = some ((35, .invokestatic 71, 3, 210, 3, 0, 1, 0, []) : zm_E) := (congrArg (fun l => l[20]?) cd_179).trans rfl
theorem c_179_21 : (zm_cd 179)[21]? = some ((38, .aload_n 0, 1, 0, 0, 0, 0, 0, []) : zm_E) := (congrArg (fun l => l[21]?) cd_179).trans rfl
theorem c_179_22 : (zm_cd 179)[22]? = some ((39, .getfield 18, 3, 6, 4, 1, 0, 0, []) : zm_E) := (congrArg (fun l => l[22]?) cd_179).trans rfl
theorem c_179_23 : (zm_cd 179)[23]? = some ((42, .iload_n 1, 1, 1, 0, 0, 0, 0, []) : zm_E) := (congrArg (fun l => l[23]?) cd_179).trans rfl
theorem c_179_24 : (zm_cd 179)[24]? = some ((43, .bipush (-9), 2, 0, 0, 0, (-9), 0, []) : zm_E) := (congrArg (fun l => l[24]?) cd_179).trans rfl
theorem c_179_25 : (zm_cd 179)[25]? = some ((45, .invokestatic 71, 3, 210, 3, 0, 1, 0, []) : zm_E) := (congrArg (fun l => l[25]?) cd_179).trans rfl
theorem c_179_26 : (zm_cd 179)[26]? = some ((48, .aload_n 0, 1, 0, 0, 0, 0, 0, []) : zm_E) := (congrArg (fun l => l[26]?) cd_179).trans rfl
theorem c_179_27 : (zm_cd 179)[27]? = some ((49, .getfield 21, 3, 6, 5, 1, 0, 0, []) : zm_E) := (congrArg (fun l => l[27]?) cd_179).trans rfl
theorem c_179_28 : (zm_cd 179)[28]? = some ((52, .iload_n 1, 1, 1, 0, 0, 0, 0, []) : zm_E) := (congrArg (fun l => l[28]?) cd_179).trans rfl
theorem c_179_29 : (zm_cd 179)[29]? = some ((53, .bipush (-9), 2, 0, 0, 0, (-9), 0, []) : zm_E) := (congrArg (fun l => l[29]?) cd_179).trans rfl
theorem c_179_30 : (zm_cd 179)[30]? = some ((55, .invokestatic 71, 3, 210, 3, 0, 1, 0, []) : zm_E) := (congrArg (fun l => l[30]?) cd_179).trans rfl
theorem c_179_31 : (zm_cd 179)[31]? = some ((58, .iinc 1 1, 3, 1, 0, 0, 1, 0, []) : zm_E) := (congrArg (fun l => l[31]?) cd_179).trans rfl
theorem c_179_32 : (zm_cd 179)[32]? = some ((61, .goto (-49), 3, 8, 0, 0, 0, 0, []) : zm_E) := (congrArg (fun l => l[32]?) cd_179).trans rfl
theorem c_179_33 : (zm_cd 179)[33]? = some ((64, .return_, 1, 0, 0, 0, 0, 0, []) : zm_E) := (congrArg (fun l => l[33]?) cd_179).trans rfl
theorem cd_180 : zm_cd 180 = zd_180 := rfl
theorem ml_180 : zm_ml 180 = 5 := rfl
theorem ht_180 : zm_ht 180 = [] := rfl
theorem c_180_0 : (zm_cd 180)[0]? = some ((0, .iconst 0, 1, 0, 0, 0, 0, 0, []) : zm_E) := (congrArg (fun l => l[0]?) cd_180).trans rfl
theorem c_180_1 : (zm_cd 180)[1]? = some ((1, .istore_n 3, 1, 3, 0, 0, 0, 0, []) : zm_E) := (congrArg (fun l => l[1]?) cd_180).trans rfl
theorem c_180_2 : (zm_cd 180)[2]? = some ((2, .iload_n 3, 1, 3, 0, 0, 0, 0, []) : zm_E) := (congrArg (fun l => l[2]?) cd_180).trans rfl
theorem c_180_3 : (zm_cd 180)[3]? = some ((3, .aload_n 1, 1, 1, 0, 0, 0, 0, []) : zm_E) := (congrArg (fun l => l[3]?) cd_180).trans rfl
theorem c_180_4 : (zm_cd 180)[4]? = some ((4, .getfield 51, 3, 1, 0, 0, 0, 0, []) : zm_E) := (congrArg (fun l => l[4]?) cd_180).trans rfl
theorem c_180_5 : (zm_cd 180)[5]? = some ((7, .if_icmp .ge 52, 3, 30, 0, 0, 0, 0, []) : zm_E) := (congrArg (fun l => l[5]?) cd_180).trans rfl
theorem c_180_6 : (zm_cd 180)[6]? = some ((10, .iload_n 2, 1, 2, 0, 0, 0, 0, []) : zm_E) := (congrArg (fun l => l[6]?) cd_180).trans rfl
theorem c_180_7 : (zm_cd 180)[7]? = some ((11, .iload_n 3, 1, 3, 0, 0, 0, 0, []) : zm_E) := (congrArg (fun l => l[7]?) cd_180).trans rfl
theorem c_180_8 : (zm_cd 180)[8]? = some ((12, .invokestatic 63, 3, 37, 2, 1, 1, 0, []) : zm_E) := (congrArg (fun l => l[8]?) cd_180).trans rfl
theorem c_180_9 : (zm_cd 180)[9]? = some ((15, .ifCond .eq 38, 3, 28, 0, 0, 0, 0, []) : zm_E) := (congrArg (fun l => l[9]?) cd_180).trans rfl
theorem c_180_10 : (zm_cd 180)[10]? = some ((18, .aload_n 1, 1, 1, 0, 0, 0, 0, []) : zm_E) := (congrArg (fun l => l[10]?) cd_180).trans rfl
theorem c_180_11 : (zm_cd 180)[11]? = some ((19, .iload_n 3, 1, 3, 0, 0, 0, 0, []) : zm_E) := (congrArg (fun l => l[11]?) cd_180).trans rfl
theorem c_180_12 : (zm_cd 180)[12]? = some ((20, .iload_n 2, 1, 2, 0, 0, 0, 0, []) : zm_E) := (congrArg (fun l => l[12]?) cd_180).trans rfl
theorem c_180_13 : (zm_cd 180)[13]? = some ((21, .invokestatic 75, 3, 181, 3, 1, 0, 0, []) : zm_E) := (congrArg (fun l => l[13]?) cd_180).trans rfl
theorem c_180_14 : (zm_cd 180)[14]? = some ((24, .istore 4, 2, 4, 0, 0, 0, 0, []) : zm_E) := (congrArg (fun l => l[14]?) cd_180).trans rfl
theorem c_180_15 : (zm_cd 180)[15]? = some ((26, .aload_n 0, 1, 0, 0, 0, 0, 0, []) : zm_E) := (congrArg (fun l => l[15]?) cd_180).trans rfl
theorem c_180_16 : (zm_cd 180)[16]? = some ((27, .getfield 30, 3, 6, 8, 1, 0, 0, []) : zm_E) := (congrArg (fun l => l[16]?) cd_180).trans rfl
theorem c_180_17 : (zm_cd 180)[17]? = some ((30, .iload_n 3, 1, 3, 0, 0, 0, 0, []) : zm_E) := (congrArg (fun l => l[17]?) cd_180).trans rfl
theorem c_180_18 : (zm_cd 180)[18]? = some ((31, .iload 4, 2, 4, 0, 0, 0, 0, []) : zm_E) := (congrArg (fun l => l[18]?) cd_180).trans rfl
theorem c_180_19 : (zm_cd 180)[19]? = some ((33, .invokestatic 71, 3, 210, 3, 0, 1, 0, []) : zm_E) := (congrArg (fun l => l[19]?) cd_180).trans rfl
theorem c_180_20 : (zm_cd 180)[20]? = some ((36, .aload_n 0, 1, 0, 0, 0, 0, 0, []) : zm_E) := (congrArg (fun l => l[20]?) cd_180).trans rfl
theorem c_180_21 : (zm_cd 180)[21]? = some ((37, .getfield 36, 3, 6, 1, 0, 0, 0, []) : zm_E) := (congrArg (fun l => l[21]?) cd_180).trans rfl
theorem c_180_22 : (zm_cd 180)[22]? = some ((40, .ifCond .ne 13, 3, 28, 0, 0, 0, 0, []) : zm_E) := (congrArg (fun l => l[22]?) cd_180).trans rfl
theorem c_180_23 : (zm_cd 180)[23]? = some ((43, .aload_n 0, 1, 0, 0, 0, 0, 0, []) : zm_E) := (congrArg (fun l => l[23]?) cd_180).trans rfl
theorem c_180_24 : (zm_cd 180)[24]? = some ((44, .getfield 21, 3, 6, 5, 1, 0, 0, []) : zm_E) := (congrArg (fun l => l[24]?) cd_180).trans rfl
theorem c_180_25 : (zm_cd 180)[25]? = some ((47, .iload_n 3, 1, 3, 0, 0, 0, 0, []) : zm_E) := (congrArg (fun l => l[25]?) cd_180).trans rfl
theorem c_180_26 : (zm_cd 180)[26]? = some ((48, .iload 4, 2, 4, 0, 0, 0, 0, []) : zm_E) := (congrArg (fun l => l[26]?) cd_180).trans rfl
theorem c_180_27 : (zm_cd 180)[27]? = some ((50, .invokestatic 71, 3, 210, 3, 0, 1, 0, []) : zm_E) := (congrArg (fun l => l[27]?) cd_180).trans rfl
theorem c_180_28 : (zm_cd 180)[28]? = some ((53, .iinc 3 1, 3, 3, 0, 0, 1, 0, []) : zm_E) := (congrArg (fun l => l[28]?) cd_180).trans rfl
theorem c_180_29 : (zm_cd 180)[29]? = some ((56, .goto (-54), 3, 2, 0, 0, 0, 0, []) : zm_E) := (congrArg (fun l => l[29]?) cd_180).trans rfl
theorem c_180_30 : (zm_cd 180)[30]? = some ((59, .return_, 1, 0, 0, 0, 0, 0, []) : zm_E) := (congrArg (fun l => l[30]?) cd_180).trans rfl
theorem cd_181 : zm_cd 181 = zd_181 := rfl
theorem ml_181 : zm_ml 181 = 5 := rfl
theorem ht_181 : zm_ht 181 = [] := rfl
theorem c_181_0 : (zm_cd 181)[0]? = some ((0, .iload_n 1, 1, 1, 0, 0, 0, 0, []) : zm_E) := (congrArg (fun l => l[0]?) cd_181).trans rfl
theorem c_181_1 : (zm_cd 181)[1]? = some ((1, .istore_n 3, 1, 3, 0, 0, 0, 0, []) : zm_E) := (congrArg (fun l => l[1]?) cd_181).trans rfl
theorem c_181_2 : (zm_cd 181)[2]? = some ((2, .iconst 0, 1, 0, 0, 0, 0, 0, []) : zm_E) := (congrArg (fun l => l[2]?) cd_181).trans rfl
theorem c_181_3 : (zm_cd 181)[3]? = some ((3, .istore 4, 2, 4, 0, 0, 0, 0, []) : zm_E) := (congrArg (fun l => l[3]?) cd_181).trans rfl
theorem c_181_4 : (zm_cd 181)[4]? = some ((5, .iload 4, 2, 4, 0, 0, 0, 0, []) : zm_E) := (congrArg (fun l => l[4]?) cd_181).trans rfl
theorem c_181_5 : (zm_cd 181)[5]? = some ((7, .aload_n 0, 1, 0, 0, 0, 0, 0, []) : zm_E) := (congrArg (fun l => l[5]?) cd_181).trans rfl
theorem c_181_6 : (zm_cd 181)[6]? = some ((8, .getfield 51, 3, 1, 0, 0, 0, 0, []) : zm_E) := (congrArg (fun l => l[6]?) cd_181).trans rfl
theorem c_181_7 : (zm_cd 181)[7]? = some ((11, .if_icmp .ge 51, 3, 31, 0, 0, 0, 0, []) : zm_E) := (congrArg (fun l => l[7]?) cd_181).trans rfl
theorem c_181_8 : (zm_cd 181)[8]? = some ((14, .iload_n 2, 1, 2, 0, 0, 0, 0, []) : zm_E) := (congrArg (fun l => l[8]?) cd_181).trans rfl
theorem c_181_9 : (zm_cd 181)[9]? = some ((15, .iload 4, 2, 4, 0, 0, 0, 0, []) : zm_E) := (congrArg (fun l => l[9]?) cd_181).trans rfl
theorem c_181_10 : (zm_cd 181)[10]? = some ((17, .invokestatic 63, 3, 37, 2, 1, 1, 0, []) : zm_E) := (congrArg (fun l => l[10]?) cd_181).trans rfl
theorem c_181_11 : (zm_cd 181)[11]? = some ((20, .ifCond .eq 36, 3, 29, 0, 0, 0, 0, []) : zm_E) := (congrArg (fun l => l[11]?) cd_181).trans rfl
theorem c_181_12 : (zm_cd 181)[12]? = some ((23, .aload_n 0, 1, 0, 0, 0, 0, 0, []) : zm_E) := (congrArg (fun l => l[12]?) cd_181).trans rfl
theorem c_181_13 : (zm_cd 181)[13]? = some ((24, .iload_n 1, 1, 1, 0, 0, 0, 0, []) : zm_E) := (congrArg (fun l => l[13]?) cd_181).trans rfl
theorem c_181_14 : (zm_cd 181)[14]? = some ((25, .aload_n 0, 1, 0, 0, 0, 0, 0, []) : zm_E) := (congrArg (fun l => l[14]?) cd_181).trans rfl
theorem c_181_15 : (zm_cd 181)[15]? = some ((26, .getfield 60, 3, 1, 3, 1, 0, 0, []) : zm_E) := (congrArg (fun l => l[15]?) cd_181).trans rfl
theorem c_181_16 : (zm_cd 181)[16]? = some ((29, .iload 4, 2, 4, 0, 0, 0, 0, []) : zm_E) := (congrArg (fun l => l[16]?) cd_181).trans rfl
theorem c_181_17 : (zm_cd 181)[17]? = some ((31, .invokestatic 56, 3, 209, 2, 1, 1, 0, []) : zm_E) := (congrArg (fun l => l[17]?) cd_181).trans rfl
theorem c_181_18 : (zm_cd 181)[18]? = some ((34, .invokevirtual 79, 3, 121, 2, 1, 0, 0, [1]) : zm_E) := (congrArg (fun l => l[18]?) cd_181).trans rfl
theorem c_181_19 : (zm_cd 181)[19]? = some ((37, .aload_n 0, 1, 0, 0, 0, 0, 0, []) : zm_E) := (congrArg (fun l => l[19]?) cd_181).trans rfl
theorem c_181_20 : (zm_cd 181)[20]? = some ((38, .iload_n 1, 1, 1, 0, 0, 0, 0, []) : zm_E) := (congrArg (fun l => l[20]?) cd_181).trans rfl
theorem c_181_21 : (zm_cd 181)[21]? = some ((39, .aload_n 0, 1, 0, 0, 0, 0, 0, []) : zm_E) := (congrArg (fun l => l[21]?) cd_181).trans rfl
theorem c_181_22 : (zm_cd 181)[22]? = some ((40, .getfield 60, 3, 1, 3, 1, 0, 0, []) : zm_E) := (congrArg (fun l => l[22]?) cd_181).trans rfl
theorem c_181_23 : (zm_cd 181)[23]? = some ((43, .iload_n 3, 1, 3, 0, 0, 0, 0, []) : zm_E) := (congrArg (fun l => l[23]?) cd_181).trans rfl
theorem c_181_24 : (zm_cd 181)[24]? = some ((44, .invokestatic 56, 3, 209, 2, 1, 1, 0, []) : zm_E) := (congrArg (fun l => l[24]?) cd_181).trans rfl
theorem c_181_25 : (zm_cd 181)[25]? = some ((47, .invokevirtual 79, 3, 121, 2, 1, 0, 0, [1]) : zm_E) := (congrArg (fun l => l[25]?) cd_181).trans rfl
theorem c_181_26 : (zm_cd 181)[26]? = some ((50, .if_icmp .ge 6, 3, 29, 0, 0, 0, 0, []) : zm_E) := (congrArg (fun l => l[26]?) cd_181).trans rfl
theorem c_181_27 : (zm_cd 181)[27]? = some ((53, .iload 4, 2, 4, 0, 0, 0, 0, []) : zm_E) := (congrArg (fun l => l[27]?) cd_181).trans rfl
theorem c_181_28 : (zm_cd 181)[28]? = some ((55, .istore_n 3, 1, 3, 0, 0, 0, 0, []) : zm_E) := (congrArg (fun l => l[28]?) cd_181).trans rfl
theorem c_181_29 : (zm_cd 181)[29]? = some ((56, .iinc 4 1, 3, 4, 0, 0, 1, 0, []) : zm_E) := (congrArg (fun l => l[29]?) cd_181).trans rfl
theorem c_181_30 : (zm_cd 181)[30]? = some ((59, .goto (-54), 3, 4, 0, 0, 0, 0, []) : zm_E) := (congrArg (fun l => l[30]?) cd_181).trans rfl
theorem c_181_31 : (zm_cd 181)[31]? = some ((62, .iload_n 3, 1, 3, 0, 0, 0, 0, []) : zm_E) := (congrArg (fun l => l[31]?) cd_181).trans rfl
theorem c_181_32 : (zm_cd 181)[32]? = some ((63, .ireturn, 1, 0, 0, 0, 0, 0, []) : zm_E) := (congrArg (fun l => l[32]?) cd_181).trans rfl
theorem cd_182 : zm_cd 182 = zd_182 := rfl
theorem ml_182 : zm_ml 182 = 6 := rfl
theorem ht_182 : zm_ht 182 = [] := rfl
theorem c_182_0 : (zm_cd 182)[0]? = some ((0, .iconst 0, 1, 0, 0, 0, 0, 0, []) : zm_E) := (congrArg (fun l => l[0]?) cd_182).trans rfl
theorem c_182_1 : (zm_cd 182)[1]? = some ((1, .istore_n 3, 1, 3, 0, 0, 0, 0, []) : zm_E) := (congrArg (fun l => l[1]?) cd_182).trans rfl
theorem c_182_2 : (zm_cd 182)[2]? = some ((2, .iconst 0, 1, 0, 0, 0, 0, 0, []) : zm_E) := (congrArg (fun l => l[2]?) cd_182).trans rfl
theorem c_182_3 : (zm_cd 182)[3]? = some ((3, .istore 4, 2, 4, 0, 0, 0, 0, []) : zm_E) := (congrArg (fun l => l[3]?) cd_182).trans rfl
theorem c_182_4 : (zm_cd 182)[4]? = some ((5, .iload 4, 2, 4, 0, 0, 0, 0, []) : zm_E) := (congrArg (fun l => l[4]?) cd_182).trans rfl
theorem c_182_5 : (zm_cd 182)[5]? = some ((7, .aload_n 1, 1, 1, 0, 0, 0, 0, []) : zm_E) := (congrArg (fun l => l[5]?) cd_182).trans rfl
theorem c_182_6 : (zm_cd 182)[6]? = some ((8, .getfield 51, 3, 1, 0, 0, 0, 0, []) : zm_E) := (congrArg (fun l => l[6]?) cd_182).trans rfl
theorem c_182_7 : (zm_cd 182)[7]? = some ((11, .if_icmp .ge 47, 3, 32, 0, 0, 0, 0, []) : zm_E) := (congrArg (fun l => l[7]?) cd_182).trans rfl
theorem c_182_8 : (zm_cd 182)[8]? = some ((14, .iload_n 2, 1, 2, 0, 0, 0, 0, []) : zm_E) := (congrArg (fun l => l[8]?) cd_182).trans rfl
theorem c_182_9 : (zm_cd 182)[9]? = some ((15, .iload_n 3, 1, 3, 0, 0, 0, 0, []) : zm_E) := (congrArg (fun l => l[9]?) cd_182).trans rfl
theorem c_182_10 : (zm_cd 182)[10]? = some ((16, .iconst (-1), 1, 0, 0, 0, (-1), 0, []) : zm_E) := (congrArg (fun l => l[10]?) cd_182).trans rfl
theorem c_182_11 : (zm_cd 182)[11]? = some ((17, .ixor, 1, 0, 0, 0, 0, 0, []) : zm_E) := (congrArg (fun l => l[11]?) cd_182).trans rfl
theorem c_182_12 : (zm_cd 182)[12]? = some ((18, .iand, 1, 0, 0, 0, 0, 0, []) : zm_E) := (congrArg (fun l => l[12]?) cd_182).trans rfl
theorem c_182_13 : (zm_cd 182)[13]? = some ((19, .iload 4, 2, 4, 0, 0, 0, 0, []) : zm_E) := (congrArg (fun l => l[13]?) cd_182).trans rfl
theorem c_182_14 : (zm_cd 182)[14]? = some ((21, .invokestatic 63, 3, 37, 2, 1, 1, 0, []) : zm_E) := (congrArg (fun l => l[14]?) cd_182).trans rfl
theorem c_182_15 : (zm_cd 182)[15]? = some ((24, .ifCond .eq 28, 3, 30, 0, 0, 0, 0, []) : zm_E) := (congrArg (fun l => l[15]?) cd_182).trans rfl
theorem c_182_16 : (zm_cd 182)[16]? = some ((27, .aload_n 0, 1, 0, 0, 0, 0, 0, []) : zm_E) := (congrArg (fun l => l[16]?) cd_182).trans rfl
theorem c_182_17 : (zm_cd 182)[17]? = some ((28, .iload 4, 2, 4, 0, 0, 0, 0, []) : zm_E) := (congrArg (fun l => l[17]?) cd_182).trans rfl
theorem c_182_18 : (zm_cd 182)[18]? = some ((30, .invokevirtual 82, 3, 183, 1, 1, 0, 0, [6]) : zm_E) := (congrArg (fun l => l[18]?) cd_182).trans rfl
theorem c_182_19 : (zm_cd 182)[19]? = some ((33, .istore 5, 2, 5, 0, 0, 0, 0, []) : zm_E) := (congrArg (fun l => l[19]?) cd_182).trans rfl
theorem c_182_20 : (zm_cd 182)[20]? = some ((35, .iload 5, 2, 5, 0, 0, 0, 0, []) : zm_E) := (congrArg (fun l => l[20]?) cd_182).trans rfl
theorem c_182_21 : (zm_cd 182)[21]? = some ((37, .ifCond .eq 15, 3, 30, 0, 0, 0, 0, []) : zm_E) := (congrArg (fun l => l[21]?) cd_182).trans rfl
theorem c_182_22 : (zm_cd 182)[22]? = some ((40, .aload_n 0, 1, 0, 0, 0, 0, 0, []) : zm_E) := (congrArg (fun l => l[22]?) cd_182).trans rfl
theorem c_182_23 : (zm_cd 182)[23]? = some ((41, .aload_n 1, 1, 1, 0, 0, 0, 0, []) : zm_E) := (congrArg (fun l => l[23]?) cd_182).trans rfl
theorem c_182_24 : (zm_cd 182)[24]? = some ((42, .iload 5, 2, 5, 0, 0, 0, 0, []) : zm_E) := (congrArg (fun l => l[24]?) cd_182).trans rfl
theorem c_182_25 : (zm_cd 182)[25]? = some ((44, .invokevirtual 86, 3, 184, 2, 0, 0, 0, [6]) : zm_E) := (congrArg (fun l => l[25]?) cd_182).trans rfl
theorem c_182_26 : (zm_cd 182)[26]? = some ((47, .iload_n 3, 1, 3, 0, 0, 0, 0, []) : zm_E) := (congrArg (fun l => l[26]?) cd_182).trans rfl
theorem c_182_27 : (zm_cd 182)[27]? = some ((48, .iload 5, 2, 5, 0, 0, 0, 0, []) : zm_E) := (congrArg (fun l => l[27]?) cd_182).trans rfl
theorem c_182_28 : (zm_cd 182)[28]? = some ((50, .ior, 1, 0, 0, 0, 0, 0, []) : zm_E) := (congrArg (fun l => l[28]?) cd_182).trans rfl
theorem c_182_29 : (zm_cd 182)[29]? = some ((51, .istore_n 3, 1, 3, 0, 0, 0, 0, []) : zm_E) := (congrArg (fun l => l[29]?) cd_182).trans rfl
theorem c_182_30 : (zm_cd 182)[30]? = some ((52, .iinc 4 1, 3, 4, 0, 0, 1, 0, []) : zm_E) := (congrArg (fun l => l[30]?) cd_182).trans rfl
theorem c_182_31 : (zm_cd 182)[31]? = some ((55, .goto (-50), 3, 4, 0, 0, 0, 0, []) : zm_E) := (congrArg (fun l => l[31]?) cd_182).trans rfl
theorem c_182_32 : (zm_cd 182)[32]? = some ((58, .iload_n 3, 1, 3, 0, 0, 0, 0, []) : zm_E) := (congrArg (fun l => l[32]?) cd_182).trans rfl
theorem c_182_33 : (zm_cd 182)[33]? = some ((59, .ireturn, 1, 0, 0, 0, 0, 0, []) : zm_E) := (congrArg (fun l => l[33]?) cd_182).trans rfl
theorem cd_183 : zm_cd 183 = zd_183 := rfl
theorem ml_183 : zm_ml 183 = 5 := rfl
theorem ht_183 : zm_ht 183 = [] := rfl
theorem c_183_0 : (zm_cd 183)[0]? = some ((0, .iconst 0, 1, 0, 0, 0, 0, 0, []) : zm_E) := (congrArg (fun l => l[0]?) cd_183).trans rfl
theorem c_183_1 : (zm_cd 183)[1]? = some ((1, .istore_n 2, 1, 2, 0, 0, 0, 0, []) : zm_E) := (congrArg (fun l => l[1]?) cd_183).trans rfl
theorem c_183_2 : (zm_cd 183)[2]? = some ((2, .iload_n 1, 1, 1, 0, 0, 0, 0, []) : zm_E) := (congrArg (fun l => l[2]?) cd_183).trans rfl
theorem c_183_3 : (zm_cd 183)[3]? = some ((3, .istore_n 3, 1, 3, 0, 0, 0, 0, []) : zm_E) := (congrArg (fun l => l[3]?) cd_183).trans rfl
theorem c_183_4 : (zm_cd 183)[4]? = some ((4, .iconst 0, 1, 0, 0, 0, 0, 0, []) : zm_E) := (congrArg (fun l => l[4]?) cd_183).trans rfl
theorem c_183_5 : (zm_cd 183)[5]? = some ((5, .istore 4, 2, 4, 0, 0, 0, 0, []) : zm_E) := (congrArg (fun l => l[5]?) cd_183).trans rfl
theorem c_183_6 : (zm_cd 183)[6]? = some ((7, .iload 4, 2, 4, 0, 0, 0, 0, []) : zm_E) := (congrArg (fun l => l[6]?) cd_183).trans rfl
theorem c_183_7 : (zm_cd 183)[7]? = some ((9, .bipush 7, 2, 0, 0, 0, 7, 0, []) : zm_E) := (congrArg (fun l => l[7]?) cd_183).trans rfl
theorem c_183_8 : (zm_cd 183)[8]? = some ((11, .if_icmp .ge 32, 3, 26, 0, 0, 0, 0, []) : zm_E) := (congrArg (fun l => l[8]?) cd_183).trans rfl
theorem c_183_9 : (zm_cd 183)[9]? = some ((14, .iload_n 2, 1, 2, 0, 0, 0, 0, []) : zm_E) := (congrArg (fun l => l[9]?) cd_183).trans rfl
theorem c_183_10 : (zm_cd 183)[10]? = some ((15, .iload_n 3, 1, 3, 0, 0, 0, 0, []) : zm_E) := (congrArg (fun l => l[10]?) cd_183).trans rfl
theorem c_183_11 : (zm_cd 183)[11]? = some ((16, .invokestatic 89, 3, 36, 1, 1, 1, 0, []) : zm_E) := (congrArg (fun l => l[11]?) cd_183).trans rfl
theorem c_183_12 : (zm_cd 183)[12]? = some ((19, .ior, 1, 0, 0, 0, 0, 0, []) : zm_E) := (congrArg (fun l => l[12]?) cd_183).trans rfl
theorem c_183_13 : (zm_cd 183)[13]? = some ((20, .istore_n 2, 1, 2, 0, 0, 0, 0, []) : zm_E) := (congrArg (fun l => l[13]?) cd_183).trans rfl
theorem c_183_14 : (zm_cd 183)[14]? = some ((21, .aload_n 0, 1, 0, 0, 0, 0, 0, []) : zm_E) := (congrArg (fun l => l[14]?) cd_183).trans rfl
theorem c_183_15 : (zm_cd 183)[15]? = some ((22, .getfield 30, 3, 6, 8, 1, 0, 0, []) : zm_E) := (congrArg (fun l => l[15]?) cd_183).trans rfl
theorem c_183_16 : (zm_cd 183)[16]? = some ((25, .iload_n 3, 1, 3, 0, 0, 0, 0, []) : zm_E) := (congrArg (fun l => l[16]?) cd_183).trans rfl
theorem c_183_17 : (zm_cd 183)[17]? = some ((26, .invokestatic 56, 3, 209, 2, 1, 1, 0, []) : zm_E) := (congrArg (fun l => l[17]?) cd_183).trans rfl
theorem c_183_18 : (zm_cd 183)[18]? = some ((29, .istore_n 3, 1, 3, 0, 0, 0, 0, []) : zm_E) := (congrArg (fun l => l[18]?) cd_183).trans rfl
theorem c_183_19 : (zm_cd 183)[19]? = some ((30, .iload_n 3, 1, 3, 0, 0, 0, 0, []) : zm_E) := (congrArg (fun l => l[19]?) cd_183).trans rfl
theorem c_183_20 : (zm_cd 183)[20]? = some ((31, .iload_n 1, 1, 1, 0, 0, 0, 0, []) : zm_E) := (congrArg (fun l => l[20]?) cd_183).trans rfl
theorem c_183_21 : (zm_cd 183)[21]? = some ((32, .if_icmp .ne 5, 3, 24, 0, 0, 0, 0, []) : zm_E) := (congrArg (fun l => l[21]?) cd_183).trans rfl
theorem c_183_22 : (zm_cd 183)[22]? = some ((35, .iload_n 2, 1, 2, 0, 0, 0, 0, []) : zm_E) := (congrArg (fun l => l[22]?) cd_183).trans rfl
theorem c_183_23 : (zm_cd 183)[23]? = some ((36, .ireturn, 1, 0, 0, 0, 0, 0, []) : zm_E) := (congrArg (fun l => l[23]?) cd_183).trans rfl
theorem c_183_24 : (zm_cd 183)[24]? = some ((37, .iinc 4 1, 3, 4, 0, 0, 1, 0, []) : zm_E) := (congrArg (fun l => l[24]?) cd_183).trans rfl
theorem c_183_25 : (zm_cd 183)[25]? = some ((40, .goto (-33), 3, 6, 0, 0, 0, 0, []) : zm_E) := (congrArg (fun l => l[25]?) cd_183).trans rfl
theorem c_183_26 : (zm_cd 183)[26]? = some ((43, .iconst 0, 1, 0, 0, 0, 0, 0, []) : zm_E) := (congrArg (fun l => l[26]?) cd_183).trans rfl
theorem c_183_27 : (zm_cd 183)[27]? = some ((44, .ireturn, 1, 0, 0, 0, 0, 0, []) : zm_E) := (congrArg (fun l => l[27]?) cd_183).trans rfl
theorem cd_184 : zm_cd 184 = zd_184 := rfl
theorem ml_184 : zm_ml 184 = 4 := rfl
theorem ht_184 : zm_ht 184 = [] := rfl
theorem c_184_0 : (zm_cd 184)[0]? = some ((0, .iconst 0, 1, 0, 0, 0, 0, 0, []) : zm_E) := (congrArg (fun l => l[0]?) cd_184).trans rfl
theorem c_184_1 : (zm_cd 184)[1]? = some ((1, .istore_n 3, 1, 3, 0, 0, 0, 0, []) : zm_E) := (congrArg (fun l => l[1]?) cd_184).trans rfl
theorem c_184_2 : (zm_cd 184)[2]? = some ((2, .iload_n 3, 1, 3, 0, 0, 0, 0, []) : zm_E) := (congrArg (fun l => l[2]?) cd_184).trans rfl
theorem c_184_3 : (zm_cd 184)[3]? = some ((3, .aload_n 1, 1, 1, 0, 0, 0, 0, []) : zm_E) := (congrArg (fun l => l[3]?) cd_184).trans rfl
theorem c_184_4 : (zm_cd 184)[4]? = some ((4, .getfield 51, 3, 1, 0, 0, 0, 0, []) : zm_E) := (congrArg (fun l => l[4]?) cd_184).trans rfl
theorem c_184_5 : (zm_cd 184)[5]? = some ((7, .if_icmp .ge 64, 3, 35, 0, 0, 0, 0, []) : zm_E) := (congrArg (fun l => l[5]?) cd_184).trans rfl
theorem c_184_6 : (zm_cd 184)[6]? = some ((10, .iload_n 2, 1, 2, 0, 0, 0, 0, []) : zm_E) := (congrArg (fun l => l[6]?) cd_184).trans rfl
theorem c_184_7 : (zm_cd 184)[7]? = some ((11, .iload_n 3, 1, 3, 0, 0, 0, 0, []) : zm_E) := (congrArg (fun l => l[7]?) cd_184).trans rfl
theorem c_184_8 : (zm_cd 184)[8]? = some ((12, .invokestatic 63, 3, 37, 2, 1, 1, 0, []) : zm_E) := (congrArg (fun l => l[8]?) cd_184).trans rfl
theorem c_184_9 : (zm_cd 184)[9]? = some ((15, .ifCond .eq 50, 3, 33, 0, 0, 0, 0, []) : zm_E) := (congrArg (fun l => l[9]?) cd_184).trans rfl
theorem c_184_10 : (zm_cd 184)[10]? = some ((18, .aload_n 0, 1, 0, 0, 0, 0, 0, []) : zm_E) := (congrArg (fun l => l[10]?) cd_184).trans rfl
theorem c_184_11 : (zm_cd 184)[11]? = some ((19, .getfield 9, 3, 6, 2, 1, 0, 0, []) : zm_E) := (congrArg (fun l => l[11]?) cd_184).trans rfl
theorem c_184_12 : (zm_cd 184)[12]? = some ((22, .iload_n 3, 1, 3, 0, 0, 0, 0, []) : zm_E) := (congrArg (fun l => l[12]?) cd_184).trans rfl
theorem c_184_13 : (zm_cd 184)[13]? = some ((23, .aload_n 1, 1, 1, 0, 0, 0, 0, []) : zm_E) := (congrArg (fun l => l[13]?) cd_184).trans rfl
theorem c_184_14 : (zm_cd 184)[14]? = some ((24, .getfield 60, 3, 1, 3, 1, 0, 0, []) : zm_E) := (congrArg (fun l => l[14]?) cd_184).trans rfl
theorem c_184_15 : (zm_cd 184)[15]? = some ((27, .aload_n 0, 1, 0, 0, 0, 0, 0, []) : zm_E) := (congrArg (fun l => l[15]?) cd_184).trans rfl
theorem c_184_16 : (zm_cd 184)[16]? = some ((28, .getfield 30, 3, 6, 8, 1, 0, 0, []) : zm_E) := (congrArg (fun l => l[16]?) cd_184).trans rfl
theorem c_184_17 : (zm_cd 184)[17]? = some ((31, .iload_n 3, 1, 3, 0, 0, 0, 0, []) : zm_E) := (congrArg (fun l => l[17]?) cd_184).trans rfl
theorem c_184_18 : (zm_cd 184)[18]? = some ((32, .invokestatic 56, 3, 209, 2, 1, 1, 0, []) : zm_E) := (congrArg (fun l => l[18]?) cd_184).trans rfl
theorem c_184_19 : (zm_cd 184)[19]? = some ((35, .invokestatic 56, 3, 209, 2, 1, 1, 0, []) : zm_E) := (congrArg (fun l => l[19]?) cd_184).trans rfl
theorem c_184_20 : (zm_cd 184)[20]? = some ((38, .invokestatic 71, 3, 210, 3, 0, 1, 0, []) : zm_E) := (congrArg (fun l => l[20]?) cd_184).trans rfl
theorem c_184_21 : (zm_cd 184)[21]? = some ((41, .aload_n 0, 1, 0, 0, 0, 0, 0, []) : zm_E) := (congrArg (fun l => l[21]?) cd_184).trans rfl
theorem c_184_22 : (zm_cd 184)[22]? = some ((42, .getfield 15, 3, 6, 3, 1, 0, 0, []) : zm_E) := (congrArg (fun l => l[22]?) cd_184).trans rfl
theorem c_184_23 : (zm_cd 184)[23]? = some ((45, .iload_n 3, 1, 3, 0, 0, 0, 0, []) : zm_E) := (congrArg (fun l => l[23]?) cd_184).trans rfl
theorem c_184_24 : (zm_cd 184)[24]? = some ((46, .aload_n 0, 1, 0, 0, 0, 0, 0, []) : zm_E) := (congrArg (fun l => l[24]?) cd_184).trans rfl
theorem c_184_25 : (zm_cd 184)[25]? = some ((47, .getfield 36, 3, 6, 1, 0, 0, 0, []) : zm_E) := (congrArg (fun l => l[25]?) cd_184).trans rfl
theorem c_184_26 : (zm_cd 184)[26]? = some ((50, .invokestatic 71, 3, 210, 3, 0, 1, 0, []) : zm_E) := (congrArg (fun l => l[26]?) cd_184).trans rfl
theorem c_184_27 : (zm_cd 184)[27]? = some ((53, .aload_n 0, 1, 0, 0, 0, 0, 0, []) : zm_E) := (congrArg (fun l => l[27]?) cd_184).trans rfl
theorem c_184_28 : (zm_cd 184)[28]? = some ((54, .getfield 18, 3, 6, 4, 1, 0, 0, []) : zm_E) := (congrArg (fun l => l[28]?) cd_184).trans rfl
theorem c_184_29 : (zm_cd 184)[29]? = some ((57, .iload_n 3, 1, 3, 0, 0, 0, 0, []) : zm_E) := (congrArg (fun l => l[29]?) cd_184).trans rfl
theorem c_184_30 : (zm_cd 184)[30]? = some ((58, .aload_n 0, 1, 0, 0, 0, 0, 0, []) : zm_E) := (congrArg (fun l => l[30]?) cd_184).trans rfl
theorem c_184_31 : (zm_cd 184)[31]? = some ((59, .getfield 48, 3, 6, 0, 0, 0, 0, []) : zm_E) := (congrArg (fun l => l[31]?) cd_184).trans rfl
theorem c_184_32 : (zm_cd 184)[32]? = some ((62, .invokestatic 71, 3, 210, 3, 0, 1, 0, []) : zm_E) := (congrArg (fun l => l[32]?) cd_184).trans rfl
theorem c_184_33 : (zm_cd 184)[33]? = some ((65, .iinc 3 1, 3, 3, 0, 0, 1, 0, []) : zm_E) := (congrArg (fun l => l[33]?) cd_184).trans rfl
theorem c_184_34 : (zm_cd 184)[34]? = some ((68, .goto (-66), 3, 2, 0, 0, 0, 0, []) : zm_E) := (congrArg (fun l => l[34]?) cd_184).trans rfl
theorem c_184_35 : (zm_cd 184)[35]? = some ((71, .aload_n 0, 1, 0, 0, 0, 0, 0, []) : zm_E) := (congrArg (fun l => l[35]?) cd_184).trans rfl
theorem c_184_36 : (zm_cd 184)[36]? = some ((72, .getfield 24, 3, 6, 6, 1, 0, 0, []) : zm_E) := (congrArg (fun l => l[36]?) cd_184).trans rfl
theorem c_184_37 : (zm_cd 184)[37]? = some ((75, .aload_n 0, 1, 0, 0, 0, 0, 0, []) : zm_E) := (congrArg (fun l => l[37]?) cd_184).trans rfl
theorem c_184_38 : (zm_cd 184)[38]? = some ((76, .getfield 48, 3, 6, 0, 0, 0, 0, []) : zm_E) := (congrArg (fun l => l[38]?) cd_184).trans rfl
theorem c_184_39 : (zm_cd 184)[39]? = some ((79, .iload_n 2, 1, 2, 0, 0, 0, 0, []) : zm_E) := (congrArg (fun l => l[39]?) cd_184).trans rfl
theorem c_184_40 : (zm_cd 184)[40]? = some ((80, .invokestatic 71, 3, 210, 3, 0, 1, 0, []) : zm_E) := (congrArg (fun l => l[40]?) cd_184).trans rfl
theorem c_184_41 : (zm_cd 184)[41]? = some ((83, .aload_n 0, 1, 0, 0, 0, 0, 0, []) : zm_E) := (congrArg (fun l => l[41]?) cd_184).trans rfl
theorem c_184_42 : (zm_cd 184)[42]? = some ((84, .getfield 27, 3, 6, 7, 1, 0, 0, []) : zm_E) := (congrArg (fun l => l[42]?) cd_184).trans rfl
theorem c_184_43 : (zm_cd 184)[43]? = some ((87, .aload_n 0, 1, 0, 0, 0, 0, 0, []) : zm_E) := (congrArg (fun l => l[43]?) cd_184).trans rfl
theorem c_184_44 : (zm_cd 184)[44]? = some ((88, .getfield 48, 3, 6, 0, 0, 0, 0, []) : zm_E) := (congrArg (fun l => l[44]?) cd_184).trans rfl
theorem c_184_45 : (zm_cd 184)[45]? = some ((91, .aload_n 0, 1, 0, 0, 0, 0, 0, []) : zm_E) := (congrArg (fun l => l[45]?) cd_184).trans rfl
theorem c_184_46 : (zm_cd 184)[46]? = some ((92, .getfield 36, 3, 6, 1, 0, 0, 0, []) : zm_E) := (congrArg (fun l => l[46]?) cd_184).trans rfl
theorem c_184_47 : (zm_cd 184)[47]? = some ((95, .invokestatic 71, 3, 210, 3, 0, 1, 0, []) : zm_E) := (congrArg (fun l => l[47]?) cd_184).trans rfl
theorem c_184_48 : (zm_cd 184)[48]? = some ((98, .aload_n 0, 1, 0, 0, 0, 0, 0, []) : zm_E) := (congrArg (fun l => l[48]?) cd_184).trans rfl
theorem c_184_49 : (zm_cd 184)[49]? = some ((99, .dup, 1, 0, 0, 0, 0, 0, []) : zm_E) := (congrArg (fun l => l[49]?) cd_184).trans rfl
theorem c_184_50 : (zm_cd 184)[50]? = some ((100, .getfield 48, 3, 6, 0, 0, 0, 0, []) : zm_E) := (congrArg (fun l => l[50]?) cd_184).trans rfl
theorem c_184_51 : (zm_cd 184)[51]? = some ((103, .iconst 1, 1, 0, 0, 0, 1, 0, []) : zm_E) := (congrArg (fun l => l[51]?) cd_184).trans rfl
theorem c_184_52 : (zm_cd 184)[52]? = some ((104, .iadd, 1, 0, 0, 0, 0, 0, []) : zm_E) := (congrArg (fun l => l[52]?) cd_184).trans rfl
theorem c_184_53 : (zm_cd 184)[53]? = some ((105, .putfield 48, 3, 6, 0, 0, 0, 0, []) : zm_E) := (congrArg (fun l => l[53]?) cd_184).trans rfl
theorem c_184_54 : (zm_cd 184)[54]? = some ((108, .return_, 1, 0, 0, 0, 0, 0, []) : zm_E) := (congrArg (fun l => l[54]?) cd_184).trans rfl
theorem cd_185 : zm_cd 185 = zd_185 := rfl
theorem ml_185 : zm_ml 185 = 4 := rfl
theorem ht_185 : zm_ht 185 = [(0, 7, 0, 9, 3), (0, 7, 1, 12, 3)] := rfl
theorem c_185_0 : (zm_cd 185)[0]? = some ((0, .aload_n 2, 1, 2, 0, 0, 0, 0, []) : zm_E) := (congrArg (fun l => l[0]?) cd_185).trans rfl
theorem c_185_1 : (zm_cd 185)[1]? = some ((1, .iconst 0, 1, 0, 0, 0, 0, 0, []) : zm_E) := (congrArg (fun l => l[1]?) cd_185).trans rfl
theorem c_185_2 : (zm_cd 185)[2]? = some ((2, .aload_n 0, 1, 0, 0, 0, 0, 0, []) : zm_E) := (congrArg (fun l => l[2]?) cd_185).trans rfl
theorem c_185_3 : (zm_cd 185)[3]? = some ((3, .iload_n 1, 1, 1, 0, 0, 0, 0, []) : zm_E) := (congrArg (fun l => l[3]?) cd_185).trans rfl
theorem c_185_4 : (zm_cd 185)[4]? = some ((4, .invokevirtual 7, 3, 1, 1, 1, 0, 0, [7]) : zm_E) := (congrArg (fun l => l[4]?) cd_185).trans rfl
theorem c_185_5 : (zm_cd 185)[5]? = some ((7, .i2l, 1, 0, 0, 0, 0, 0, []) : zm_E) := (congrArg (fun l => l[5]?) cd_185).trans rfl
theorem c_185_6 : (zm_cd 185)[6]? = some ((8, .lastore, 1, 0, 0, 0, 0, 0, []) : zm_E) := (congrArg (fun l => l[6]?) cd_185).trans rfl
theorem c_185_7 : (zm_cd 185)[7]? = some ((9, .goto 9, 3, 14, 0, 0, 0, 0, []) : zm_E) := (congrArg (fun l => l[7]?) cd_185).trans rfl
theorem c_185_8 : (zm_cd 185)[8]? = some ((12, .astore_n 3, 1, 3, 0, 0, 0, 0, []) : zm_E) := (congrArg (fun l => l[8]?) cd_185).trans rfl
theorem c_185_9 : (zm_cd 185)[9]? = some ((13, .iconst 1, 1, 0, 0, 0, 1, 0, []) : zm_E) := (congrArg (fun l => l[9]?) cd_185).trans rfl
theorem c_185_10 : (zm_cd 185)[10]? = some ((14, .ireturn, 1, 0, 0, 0, 0, 0, []) : zm_E) := (congrArg (fun l => l[10]?) cd_185).trans rfl
theorem c_185_11 : (zm_cd 185)[11]? = some ((15, .astore_n 3, 1, 3, 0, 0, 0, 0, []) : zm_E) := (congrArg (fun l => l[11]?) cd_185).trans rfl
theorem c_185_12 : (zm_cd 185)[12]? = some ((16, .iconst 2, 1, 0, 0, 0, 2, 0, []) : zm_E) := (congrArg (fun l => l[12]?) cd_185).trans rfl
theorem c_185_13 : (zm_cd 185)[13]? = some ((17, .ireturn, 1, 0, 0, 0, 0, 0, []) : zm_E) := (congrArg (fun l => l[13]?) cd_185).trans rfl
theorem c_185_14 : (zm_cd 185)[14]? = some ((18, .iconst 0, 1, 0, 0, 0, 0, 0, []) : zm_E) := (congrArg (fun l => l[14]?) cd_185).trans rfl
theorem c_185_15 : (zm_cd 185)[15]? = some ((19, .ireturn, 1, 0, 0, 0, 0, 0, []) : zm_E) := (congrArg (fun l => l[15]?) cd_185).trans rfl
theorem cd_186 : zm_cd 186 = zd_186 := rfl
theorem ml_186 : zm_ml 186 = 3 := rfl
theorem ht_186 : zm_ht 186 = [(0, 6, 1, 8, 2)] := rfl
theorem c_186_0 : (zm_cd 186)[0]? = some ((0, .aload_n 1, 1, 1, 0, 0, 0, 0, []) : zm_E) := (congrArg (fun l => l[0]?) cd_186).trans rfl
theorem c_186_1 : (zm_cd 186)[1]? = some ((1, .iconst 0, 1, 0, 0, 0, 0, 0, []) : zm_E) := (congrArg (fun l => l[1]?) cd_186).trans rfl
theorem c_186_2 : (zm_cd 186)[2]? = some ((2, .aload_n 0, 1, 0, 0, 0, 0, 0, []) : zm_E) := (congrArg (fun l => l[2]?) cd_186).trans rfl
theorem c_186_3 : (zm_cd 186)[3]? = some ((3, .invokevirtual 17, 3, 4, 0, 1, 0, 0, [7]) : zm_E) := (congrArg (fun l => l[3]?) cd_186).trans rfl
theorem c_186_4 : (zm_cd 186)[4]? = some ((6, .i2l, 1, 0, 0, 0, 0, 0, []) : zm_E) := (congrArg (fun l => l[4]?) cd_186).trans rfl
theorem c_186_5 : (zm_cd 186)[5]? = some ((7, .lastore, 1, 0, 0, 0, 0, 0, []) : zm_E) := (congrArg (fun l => l[5]?) cd_186).trans rfl
theorem c_186_6 : (zm_cd 186)[6]? = some ((8, .goto 6, 3, 10, 0, 0, 0, 0, []) : zm_E) := (congrArg (fun l => l[6]?) cd_186).trans rfl
theorem c_186_7 : (zm_cd 186)[7]? = some ((11, .astore_n 2, 1, 2, 0, 0, 0, 0, []) : zm_E) := (congrArg (fun l => l[7]?) cd_186).trans rfl
theorem c_186_8 : (zm_cd 186)[8]? = some ((12, .iconst 1, 1, 0, 0, 0, 1, 0, []) : zm_E) := (congrArg (fun l => l[8]?) cd_186).trans rfl
theorem c_186_9 : (zm_cd 186)[9]? = some ((13, .ireturn, 1, 0, 0, 0, 0, 0, []) : zm_E) := (congrArg (fun l => l[9]?) cd_186).trans rfl
theorem c_186_10 : (zm_cd 186)[10]? = some ((14, .iconst 0, 1, 0, 0, 0, 0, 0, []) : zm_E) := (congrArg (fun l => l[10]?) cd_186).trans rfl
theorem c_186_11 : (zm_cd 186)[11]? = some ((15, .ireturn, 1, 0, 0, 0, 0, 0, []) : zm_E) := (congrArg (fun l => l[11]?) cd_186).trans rfl
theorem cd_187 : zm_cd 187 = zd_187 := rfl
theorem ml_187 : zm_ml 187 = 4 := rfl
theorem ht_187 : zm_ht 187 = [(0, 7, 0, 9, 3)] := rfl
theorem c_187_0 : (zm_cd 187)[0]? = some ((0, .aload_n 2, 1, 2, 0, 0, 0, 0, []) : zm_E) := (congrArg (fun l => l[0]?) cd_187).trans rfl
theorem c_187_1 : (zm_cd 187)[1]? = some ((1, .iconst 0, 1, 0, 0, 0, 0, 0, []) : zm_E) := (congrArg (fun l => l[1]?) cd_187).trans rfl
theorem c_187_2 : (zm_cd 187)[2]? = some ((2, .aload_n 0, 1, 0, 0, 0, 0, 0, []) : zm_E) := (congrArg (fun l => l[2]?) cd_187).trans rfl
theorem c_187_3 : (zm_cd 187)[3]? = some ((3, .iload_n 1, 1, 1, 0, 0, 0, 0, []) : zm_E) := (congrArg (fun l => l[3]?) cd_187).trans rfl
theorem c_187_4 : (zm_cd 187)[4]? = some ((4, .invokevirtual 21, 3, 5, 1, 1, 0, 0, [7]) : zm_E) := (congrArg (fun l => l[4]?) cd_187).trans rfl
theorem c_187_5 : (zm_cd 187)[5]? = some ((7, .i2l, 1, 0, 0, 0, 0, 0, []) : zm_E) := (congrArg (fun l => l[5]?) cd_187).trans rfl
theorem c_187_6 : (zm_cd 187)[6]? = some ((8, .lastore, 1, 0, 0, 0, 0, 0, []) : zm_E) := (congrArg (fun l => l[6]?) cd_187).trans rfl
theorem c_187_7 : (zm_cd 187)[7]? = some ((9, .goto 6, 3, 11, 0, 0, 0, 0, []) : zm_E) := (congrArg (fun l => l[7]?) cd_187).trans rfl
theorem c_187_8 : (zm_cd 187)[8]? = some ((12, .astore_n 3, 1, 3, 0, 0, 0, 0, []) : zm_E) := (congrArg (fun l => l[8]?) cd_187).trans rfl
theorem c_187_9 : (zm_cd 187)[9]? = some ((13, .iconst 1, 1, 0, 0, 0, 1, 0, []) : zm_E) := (congrArg (fun l => l[9]?) cd_187).trans rfl
theorem c_187_10 : (zm_cd 187)[10]? = some ((14, .ireturn, 1, 0, 0, 0, 0, 0, []) : zm_E) := (congrArg (fun l => l[10]?) cd_187).trans rfl
theorem c_187_11 : (zm_cd 187)[11]? = some ((15, .iconst 0, 1, 0, 0, 0, 0, 0, []) : zm_E) := (congrArg (fun l => l[11]?) cd_187).trans rfl
theorem c_187_12 : (zm_cd 187)[12]? = some ((16, .ireturn, 1, 0, 0, 0, 0, 0, []) : zm_E) := (congrArg (fun l => l[12]?) cd_187).trans rfl
theorem cd_188 : zm_cd 188 = zd_188 := rfl
theorem ml_188 : zm_ml 188 = 5 := rfl
theorem ht_188 : zm_ht 188 = [(0, 8, 2, 10, 4), (0, 8, 0, 13, 4)] := rfl
theorem c_188_0 : (zm_cd 188)[0]? = some ((0, .aload_n 3, 1, 3, 0, 0, 0, 0, []) : zm_E) := (congrArg (fun l => l[0]?) cd_188).trans rfl
theorem c_188_1 : (zm_cd 188)[1]? = some ((1, .iconst 0, 1, 0, 0, 0, 0, 0, []) : zm_E) := (congrArg (fun l => l[1]?) cd_188).trans rfl
theorem c_188_2 : (zm_cd 188)[2]? = some ((2, .aload_n 0, 1, 0, 0, 0, 0, 0, []) : zm_E) := (congrArg (fun l => l[2]?) cd_188).trans rfl
theorem c_188_3 : (zm_cd 188)[3]? = some ((3, .iload_n 1, 1, 1, 0, 0, 0, 0, []) : zm_E) := (congrArg (fun l => l[3]?) cd_188).trans rfl
theorem c_188_4 : (zm_cd 188)[4]? = some ((4, .iload_n 2, 1, 2, 0, 0, 0, 0, []) : zm_E) := (congrArg (fun l => l[4]?) cd_188).trans rfl
theorem c_188_5 : (zm_cd 188)[5]? = some ((5, .invokevirtual 24, 3, 6, 2, 1, 0, 0, [7]) : zm_E) := (congrArg (fun l => l[5]?) cd_188).trans rfl
theorem c_188_6 : (zm_cd 188)[6]? = some ((8, .i2l, 1, 0, 0, 0, 0, 0, []) : zm_E) := (congrArg (fun l => l[6]?) cd_188).trans rfl
theorem c_188_7 : (zm_cd 188)[7]? = some ((9, .lastore, 1, 0, 0, 0, 0, 0, []) : zm_E) := (congrArg (fun l => l[7]?) cd_188).trans rfl
theorem c_188_8 : (zm_cd 188)[8]? = some ((10, .goto 11, 3, 15, 0, 0, 0, 0, []) : zm_E) := (congrArg (fun l => l[8]?) cd_188).trans rfl
theorem c_188_9 : (zm_cd 188)[9]? = some ((13, .astore 4, 2, 4, 0, 0, 0, 0, []) : zm_E) := (congrArg (fun l => l[9]?) cd_188).trans rfl
theorem c_188_10 : (zm_cd 188)[10]? = some ((15, .iconst 1, 1, 0, 0, 0, 1, 0, []) : zm_E) := (congrArg (fun l => l[10]?) cd_188).trans rfl
theorem c_188_11 : (zm_cd 188)[11]? = some ((16, .ireturn, 1, 0, 0, 0, 0, 0, []) : zm_E) := (congrArg (fun l => l[11]?) cd_188).trans rfl
theorem c_188_12 : (zm_cd 188)[12]? = some ((17, .astore 4, 2, 4, 0, 0, 0, 0, []) : zm_E) := (congrArg (fun l => l[12]?) cd_188).trans rfl
theorem c_188_13 : (zm_cd 188)[13]? = some ((19, .iconst 2, 1, 0, 0, 0, 2, 0, []) : zm_E) := (congrArg (fun l => l[13]?) cd_188).trans rfl
theorem c_188_14 : (zm_cd 188)[14]? = some ((20, .ireturn, 1, 0, 0, 0, 0, 0, []) : zm_E) := (congrArg (fun l => l[14]?) cd_188).trans rfl
theorem c_188_15 : (zm_cd 188)[15]? = some ((21, .iconst 0, 1, 0, 0, 0, 0, 0, []) : zm_E) := (congrArg (fun l => l[15]?) cd_188).trans rfl
theorem c_188_16 : (zm_cd 188)[16]? = some ((22, .ireturn, 1, 0, 0, 0, 0, 0, []) : zm_E) := (congrArg (fun l => l[16]?) cd_188).trans rfl
theorem cd_189 : zm_cd 189 = zd_189 := rfl
theorem ml_189 : zm_ml 189 = 5 := rfl
theorem ht_189 : zm_ht 189 = [(0, 8, 2, 10, 4)] := rfl
theorem c_189_0 : (zm_cd 189)[0]? = some ((0, .aload_n 3, 1, 3, 0, 0, 0, 0, []) : zm_E) := (congrArg (fun l => l[0]?) cd_189).trans rfl
theorem c_189_1 : (zm_cd 189)[1]? = some ((1, .iconst 0, 1, 0, 0, 0, 0, 0, []) : zm_E) := (congrArg (fun l => l[1]?) cd_189).trans rfl
theorem c_189_2 : (zm_cd 189)[2]? = some ((2, .aload_n 0, 1, 0, 0, 0, 0, 0, []) : zm_E) := (congrArg (fun l => l[2]?) cd_189).trans rfl
theorem c_189_3 : (zm_cd 189)[3]? = some ((3, .iload_n 1, 1, 1, 0, 0, 0, 0, []) : zm_E) := (congrArg (fun l => l[3]?) cd_189).trans rfl
theorem c_189_4 : (zm_cd 189)[4]? = some ((4, .iload_n 2, 1, 2, 0, 0, 0, 0, []) : zm_E) := (congrArg (fun l => l[4]?) cd_189).trans rfl
theorem c_189_5 : (zm_cd 189)[5]? = some ((5, .invokevirtual 30, 3, 7, 2, 1, 0, 0, [7]) : zm_E) := (congrArg (fun l => l[5]?) cd_189).trans rfl
theorem c_189_6 : (zm_cd 189)[6]? = some ((8, .i2l, 1, 0, 0, 0, 0, 0, []) : zm_E) := (congrArg (fun l => l[6]?) cd_189).trans rfl
theorem c_189_7 : (zm_cd 189)[7]? = some ((9, .lastore, 1, 0, 0, 0, 0, 0, []) : zm_E) := (congrArg (fun l => l[7]?) cd_189).trans rfl
theorem c_189_8 : (zm_cd 189)[8]? = some ((10, .goto 7, 3, 12, 0, 0, 0, 0, []) : zm_E) := (congrArg (fun l => l[8]?) cd_189).trans rfl
theorem c_189_9 : (zm_cd 189)[9]? = some ((13, .astore 4, 2, 4, 0, 0, 0, 0, []) : zm_E) := (congrArg (fun l => l[9]?) cd_189).trans rfl
theorem c_189_10 : (zm_cd 189)[10]? = some ((15, .iconst 1, 1, 0, 0, 0, 1, 0, []) : zm_E) := (congrArg (fun l => l[10]?) cd_189).trans rfl
theorem c_189_11 : (zm_cd 189)[11]? = some ((16, .ireturn, 1, 0, 0, 0, 0, 0, []) : zm_E) := (congrArg (fun l => l[11]?) cd_189).trans rfl
theorem c_189_12 : (zm_cd 189)[12]? = some ((17, .iconst 0, 1, 0, 0, 0, 0, 0, []) : zm_E) := (congrArg (fun l => l[12]?) cd_189).trans rfl
theorem c_189_13 : (zm_cd 189)[13]? = some ((18, .ireturn, 1, 0, 0, 0, 0, 0, []) : zm_E) := (congrArg (fun l => l[13]?) cd_189).trans rfl
theorem cd_190 : zm_cd 190 = zd_190 := rfl
theorem ml_190 : zm_ml 190 = 4 := rfl
theorem ht_190 : zm_ht 190 = [(0, 7, 2, 9, 3)] := rfl
theorem c_190_0 : (zm_cd 190)[0]? = some ((0, .aload_n 2, 1, 2, 0, 0, 0, 0, []) : zm_E) := (congrArg (fun l => l[0]?) cd_190).trans rfl
theorem c_190_1 : (zm_cd 190)[1]? = some ((1, .iconst 0, 1, 0, 0, 0, 0, 0, []) : zm_E) := (congrArg (fun l => l[1]?) cd_190).trans rfl
theorem c_190_2 : (zm_cd 190)[2]? = some ((2, .aload_n 0, 1, 0, 0, 0, 0, 0, []) : zm_E) := (congrArg (fun l => l[2]?) cd_190).trans rfl
theorem c_190_3 : (zm_cd 190)[3]? = some ((3, .iload_n 1, 1, 1, 0, 0, 0, 0, []) : zm_E) := (congrArg (fun l => l[3]?) cd_190).trans rfl
theorem c_190_4 : (zm_cd 190)[4]? = some ((4, .invokevirtual 33, 3, 8, 1, 1, 0, 0, [7]) : zm_E) := (congrArg (fun l => l[4]?) cd_190).trans rfl
theorem c_190_5 : (zm_cd 190)[5]? = some ((7, .i2l, 1, 0, 0, 0, 0, 0, []) : zm_E) := (congrArg (fun l => l[5]?) cd_190).trans rfl
theorem c_190_6 : (zm_cd 190)[6]? = some ((8, .lastore, 1, 0, 0, 0, 0, 0, []) : zm_E) := (congrArg (fun l => l[6]?) cd_190).trans rfl
theorem c_190_7 : (zm_cd 190)[7]? = some ((9, .goto 6, 3, 11, 0, 0, 0, 0, []) : zm_E) := (congrArg (fun l => l[7]?) cd_190).trans rfl
theorem c_190_8 : (zm_cd 190)[8]? = some ((12, .astore_n 3, 1, 3, 0, 0, 0, 0, []) : zm_E) := (congrArg (fun l => l[8]?) cd_190).trans rfl
theorem c_190_9 : (zm_cd 190)[9]? = some ((13, .iconst 1, 1, 0, 0, 0, 1, 0, []) : zm_E) := (congrArg (fun l => l[9]?) cd_190).trans rfl
theorem c_190_10 : (zm_cd 190)[10]? = some ((14, .ireturn, 1, 0, 0, 0, 0, 0, []) : zm_E) := (congrArg (fun l => l[10]?) cd_190).trans rfl
theorem c_190_11 : (zm_cd 190)[11]? = some ((15, .iconst 0, 1, 0, 0, 0, 0, 0, []) : zm_E) := (congrArg (fun l => l[11]?) cd_190).trans rfl
theorem c_190_12 : (zm_cd 190)[12]? = some ((16, .ireturn, 1, 0, 0, 0, 0, 0, []) : zm_E) := (congrArg (fun l => l[12]?) cd_190).trans rfl
theorem cd_191 : zm_cd 191 = zd_191 := rfl
theorem ml_191 : zm_ml 191 = 5 := rfl
theorem ht_191 : zm_ht 191 = [(0, 8, 2, 10, 4), (0, 8, 0, 13, 4)] := rfl
theorem c_191_0 : (zm_cd 191)[0]? = some ((0, .aload_n 3, 1, 3, 0, 0, 0, 0, []) : zm_E) := (congrArg (fun l => l[0]?) cd_191).trans rfl
theorem c_191_1 : (zm_cd 191)[1]? = some ((1, .iconst 0, 1, 0, 0, 0, 0, 0, []) : zm_E) := (congrArg (fun l => l[1]?) cd_191).trans rfl
theorem c_191_2 : (zm_cd 191)[2]? = some ((2, .aload_n 0, 1, 0, 0, 0, 0, 0, []) : zm_E) := (congrArg (fun l => l[2]?) cd_191).trans rfl
theorem c_191_3 : (zm_cd 191)[3]? = some ((3, .iload_n 1, 1, 1, 0, 0, 0, 0, []) : zm_E) := (congrArg (fun l => l[3]?) cd_191).trans rfl
theorem c_191_4 : (zm_cd 191)[4]? = some ((4, .iload_n 2, 1, 2, 0, 0, 0, 0, []) : zm_E) := (congrArg (fun l => l[4]?) cd_191).trans rfl
theorem c_191_5 : (zm_cd 191)[5]? = some ((5, .invokevirtual 36, 3, 9, 2, 1, 0, 0, [7]) : zm_E) := (congrArg (fun l => l[5]?) cd_191).trans rfl
theorem c_191_6 : (zm_cd 191)[6]? = some ((8, .i2l, 1, 0, 0, 0, 0, 0, []) : zm_E) := (congrArg (fun l => l[6]?) cd_191).trans rfl
theorem c_191_7 : (zm_cd 191)[7]? = some ((9, .lastore, 1, 0, 0, 0, 0, 0, []) : zm_E) := (congrArg (fun l => l[7]?) cd_191).trans rfl
theorem c_191_8 : (zm_cd 191)[8]? = some ((10, .goto 11, 3, 15, 0, 0, 0, 0, []) : zm_E) := (congrArg (fun l => l[8]?) cd_191).trans rfl
theorem c_191_9 : (zm_cd 191)[9]? = some ((13, .astore 4, 2, 4, 0, 0, 0, 0, []) : zm_E) := (congrArg (fun l => l[9]?) cd_191).trans rfl
theorem c_191_10 : (zm_cd 191)[10]? = some ((15, .iconst 1, 1, 0, 0, 0, 1, 0, []) : zm_E) := (congrArg (fun l => l[10]?) cd_191).trans rfl
theorem c_191_11 : (zm_cd 191)[11]? = some ((16, .ireturn, 1, 0, 0, 0, 0, 0, []) : zm_E) := (congrArg (fun l => l[11]?) cd_191).trans rfl
theorem c_191_12 : (zm_cd 191)[12]? = some ((17, .astore 4, 2, 4, 0, 0, 0, 0, []) : zm_E) := (congrArg (fun l => l[12]?) cd_191).trans rfl
theorem c_191_13 : (zm_cd 191)[13]? = some ((19, .iconst 2, 1, 0, 0, 0, 2, 0, []) : zm_E) := (congrArg (fun l => l[13]?) cd_191).trans rfl
theorem c_191_14 : (zm_cd 191)[14]? = some ((20, .ireturn, 1, 0, 0, 0, 0, 0, []) : zm_E) := (congrArg (fun l => l[14]?) cd_191).trans rfl
theorem c_191_15 : (zm_cd 191)[15]? = some ((21, .iconst 0, 1, 0, 0, 0, 0, 0, []) : zm_E) := (congrArg (fun l => l[15]?) cd_191).trans rfl
theorem c_191_16 : (zm_cd 191)[16]? = some ((22, .ireturn, 1, 0, 0, 0, 0, 0, []) : zm_E) := (congrArg (fun l => l[16]?) cd_191).trans rfl
theorem cd_192 : zm_cd 192 = zd_192 := rfl
theorem ml_192 : zm_ml 192 = 5 := rfl
theorem ht_192 : zm_ht 192 = [(0, 8, 2, 10, 4)] := rfl
theorem c_192_0 : (zm_cd 192)[0]? = some ((0, .aload_n 3, 1, 3, 0, 0, 0, 0, []) : zm_E) := (congrArg (fun l => l[0]?) cd_192).trans rfl
theorem c_192_1 : (zm_cd 192)[1]? = some ((1, .iconst 0, 1, 0, 0, 0, 0, 0, []) : zm_E) := (congrArg (fun l => l[1]?) cd_192).trans rfl
theorem c_192_2 : (zm_cd 192)[2]? = some ((2, .aload_n 0, 1, 0, 0, 0, 0, 0, []) : zm_E) := (congrArg (fun l => l[2]?) cd_192).trans rfl
theorem c_192_3 : (zm_cd 192)[3]? = some ((3, .iload_n 1, 1, 1, 0, 0, 0, 0, []) : zm_E) := (congrArg (fun l => l[3]?) cd_192).trans rfl
theorem c_192_4 : (zm_cd 192)[4]? = some ((4, .iload_n 2, 1, 2, 0, 0, 0, 0, []) : zm_E) := (congrArg (fun l => l[4]?) cd_192).trans rfl
theorem c_192_5 : (zm_cd 192)[5]? = some ((5, .invokevirtual 39, 3, 10, 2, 1, 0, 0, [7]) : zm_E) := (congrArg (fun l => l[5]?) cd_192).trans rfl
theorem c_192_6 : (zm_cd 192)[6]? = some ((8, .i2l, 1, 0, 0, 0, 0, 0, []) : zm_E) := (congrArg (fun l => l[6]?) cd_192).trans rfl
theorem c_192_7 : (zm_cd 192)[7]? = some ((9, .lastore, 1, 0, 0, 0, 0, 0, []) : zm_E) := (congrArg (fun l => l[7]?) cd_192).trans rfl
theorem c_192_8 : (zm_cd 192)[8]? = some ((10, .goto 7, 3, 12, 0, 0, 0, 0, []) : zm_E) := (congrArg (fun l => l[8]?) cd_192).trans rfl
theorem c_192_9 : (zm_cd 192)[9]? = some ((13, .astore 4, 2, 4, 0, 0, 0, 0, []) : zm_E) := (congrArg (fun l => l[9]?) cd_192).trans rfl
theorem c_192_10 : (zm_cd 192)[10]? = some ((15, .iconst 1, 1, 0, 0, 0, 1, 0, []) : zm_E) := (congrArg (fun l => l[10]?) cd_192).trans rfl
theorem c_192_11 : (zm_cd 192)[11]? = some ((16, .ireturn, 1, 0, 0, 0, 0, 0, []) : zm_E) := (congrArg (fun l => l[11]?) cd_192).trans rfl
theorem c_192_12 : (zm_cd 192)[12]? = some ((17, .iconst 0, 1, 0, 0, 0, 0, 0, []) : zm_E) := (congrArg (fun l => l[12]?) cd_192).trans rfl
theorem c_192_13 : (zm_cd 192)[13]? = some ((18, .ireturn, 1, 0, 0, 0, 0, 0, []) : zm_E) := (congrArg (fun l => l[13]?) cd_192).trans rfl
theorem cd_193 : zm_cd 193 = zd_193 := rfl
theorem ml_193 : zm_ml 193 = 3 := rfl
theorem ht_193 : zm_ht 193 = [(0, 6, 1, 8, 2)] := rfl
theorem c_193_0 : (zm_cd 193)[0]? = some ((0, .aload_n 1, 1, 1, 0, 0, 0, 0, []) : zm_E) := (congrArg (fun l => l[0]?) cd_193).trans rfl
theorem c_193_1 : (zm_cd 193)[1]? = some ((1, .iconst 0, 1, 0, 0, 0, 0, 0, []) : zm_E) := (congrArg (fun l => l[1]?) cd_193).trans rfl
theorem c_193_2 : (zm_cd 193)[2]? = some ((2, .aload_n 0, 1, 0, 0, 0, 0, 0, []) : zm_E) := (congrArg (fun l => l[2]?) cd_193).trans rfl
theorem c_193_3 : (zm_cd 193)[3]? = some ((3, .invokevirtual 42, 3, 11, 0, 1, 0, 0, [7]) : zm_E) := (congrArg (fun l => l[3]?) cd_193).trans rfl
theorem c_193_4 : (zm_cd 193)[4]? = some ((6, .i2l, 1, 0, 0, 0, 0, 0, []) : zm_E) := (congrArg (fun l => l[4]?) cd_193).trans rfl
theorem c_193_5 : (zm_cd 193)[5]? = some ((7, .lastore, 1, 0, 0, 0, 0, 0, []) : zm_E) := (congrArg (fun l => l[5]?) cd_193).trans rfl
theorem c_193_6 : (zm_cd 193)[6]? = some ((8, .goto 6, 3, 10, 0, 0, 0, 0, []) : zm_E) := (congrArg (fun l => l[6]?) cd_193).trans rfl
theorem c_193_7 : (zm_cd 193)[7]? = some ((11, .astore_n 2, 1, 2, 0, 0, 0, 0, []) : zm_E) := (congrArg (fun l => l[7]?) cd_193).trans rfl
theorem c_193_8 : (zm_cd 193)[8]? = some ((12, .iconst 1, 1, 0, 0, 0, 1, 0, []) : zm_E) := (congrArg (fun l => l[8]?) cd_193).trans rfl
theorem c_193_9 : (zm_cd 193)[9]? = some ((13, .ireturn, 1, 0, 0, 0, 0, 0, []) : zm_E) := (congrArg (fun l => l[9]?) cd_193).trans rfl
theorem c_193_10 : (zm_cd 193)[10]? = some ((14, .iconst 0, 1, 0, 0, 0, 0, 0, []) : zm_E) := (congrArg (fun l => l[10]?) cd_193).trans rfl
theorem c_193_11 : (zm_cd 193)[11]? = some ((15, .ireturn, 1, 0, 0, 0, 0, 0, []) : zm_E) := (congrArg (fun l => l[11]?) cd_193).trans rfl
theorem cd_194 : zm_cd 194 = zd_194 := rfl
theorem ml_194 : zm_ml 194 = 6 := rfl
theorem ht_194 : zm_ht 194 = [(0, 9, 2, 11, 5), (0, 9, 0, 14, 5)] := rfl
theorem c_194_0 : (zm_cd 194)[0]? = some ((0, .aload 4, 2, 4, 0, 0, 0, 0, []) : zm_E) := (congrArg (fun l => l[0]?) cd_194).trans rfl
theorem c_194_1 : (zm_cd 194)[1]? = some ((2, .iconst 0, 1, 0, 0, 0, 0, 0, []) : zm_E) := (congrArg (fun l => l[1]?) cd_194).trans rfl
theorem c_194_2 : (zm_cd 194)[2]? = some ((3, .aload_n 0, 1, 0, 0, 0, 0, 0, []) : zm_E) := (congrArg (fun l => l[2]?) cd_194).trans rfl
theorem c_194_3 : (zm_cd 194)[3]? = some ((4, .iload_n 1, 1, 1, 0, 0, 0, 0, []) : zm_E) := (congrArg (fun l => l[3]?) cd_194).trans rfl
theorem c_194_4 : (zm_cd 194)[4]? = some ((5, .iload_n 2, 1, 2, 0, 0, 0, 0, []) : zm_E) := (congrArg (fun l => l[4]?) cd_194).trans rfl
theorem c_194_5 : (zm_cd 194)[5]? = some ((6, .iload_n 3, 1, 3, 0, 0, 0, 0, []) : zm_E) := (congrArg (fun l => l[5]?) cd_194).trans rfl
theorem c_194_6 : (zm_cd 194)[6]? = some ((7, .invokevirtual 45, 3, 12, 3, 1, 0, 0, [7]) : zm_E) := (congrArg (fun l => l[6]?) cd_194).trans rfl
theorem c_194_7 : (zm_cd 194)[7]? = some ((10, .i2l, 1, 0, 0, 0, 0, 0, []) : zm_E) := (congrArg (fun l => l[7]?) cd_194).trans rfl
theorem c_194_8 : (zm_cd 194)[8]? = some ((11, .lastore, 1, 0, 0, 0, 0, 0, []) : zm_E) := (congrArg (fun l => l[8]?) cd_194).trans rfl
theorem c_194_9 : (zm_cd 194)[9]? = some ((12, .goto 11, 3, 16, 0, 0, 0, 0, []) : zm_E) := (congrArg (fun l => l[9]?) cd_194).trans rfl
theorem c_194_10 : (zm_cd 194)[10]? = some ((15, .astore 5, 2, 5, 0, 0, 0, 0, []) : zm_E) := (congrArg (fun l => l[10]?) cd_194).trans rfl
theorem c_194_11 : (zm_cd 194)[11]? = some ((17, .iconst 1, 1, 0, 0, 0, 1, 0, []) : zm_E) := (congrArg (fun l => l[11]?) cd_194).trans rfl
theorem c_194_12 : (zm_cd 194)[12]? = some ((18, .ireturn, 1, 0, 0, 0, 0, 0, []) : zm_E) := (congrArg (fun l => l[12]?) cd_194).trans rfl
theorem c_194_13 : (zm_cd 194)[13]? = some ((19, .astore 5, 2, 5, 0, 0, 0, 0, []) : zm_E) := (congrArg (fun l => l[13]?) cd_194).trans rfl
theorem c_194_14 : (zm_cd 194)[14]? = some ((21, .iconst 2, 1, 0, 0, 0, 2, 0, []) : zm_E) := (congrArg (fun l => l[14]?) cd_194).trans rfl
theorem c_194_15 : (zm_cd 194)[15]? = some ((22, .ireturn, 1, 0, 0, 0, 0, 0, []) : zm_E) := (congrArg (fun l => l[15]?) cd_194).trans rfl
theorem c_194_16 : (zm_cd 194)[16]? = some ((23, .iconst 0, 1, 0, 0, 0, 0, 0, []) : zm_E) := (congrArg (fun l => l[16]?) cd_194).trans rfl
theorem c_194_17 : (zm_cd 194)[17]? = some ((24, .ireturn, 1, 0, 0, 0, 0, 0, []) : zm_E) := (congrArg (fun l => l[17]?) cd_194).trans rfl
theorem cd_195 : zm_cd 195 = zd_195 := rfl
theorem ml_195 : zm_ml 195 = 5 := rfl
theorem ht_195 : zm_ht 195 = [(0, 8, 2, 10, 4), (0, 8, 1, 13, 4)] := rfl
theorem c_195_0 : (zm_cd 195)[0]? = some ((0, .aload_n 3, 1, 3, 0, 0, 0, 0, []) : zm_E) := (congrArg (fun l => l[0]?) cd_195).trans rfl
theorem c_195_1 : (zm_cd 195)[1]? = some ((1, .iconst 0, 1, 0, 0, 0, 0, 0, []) : zm_E) := (congrArg (fun l => l[1]?) cd_195).trans rfl
theorem c_195_2 : (zm_cd 195)[2]? = some ((2, .aload_n 0, 1, 0, 0, 0, 0, 0, []) : zm_E) := (congrArg (fun l => l[2]?) cd_195).trans rfl
theorem c_195_3 : (zm_cd 195)[3]? = some ((3, .iload_n 1, 1, 1, 0, 0, 0, 0, []) : zm_E) := (congrArg (fun l => l[3]?) cd_195).trans rfl
theorem c_195_4 : (zm_cd 195)[4]? = some ((4, .iload_n 2, 1, 2, 0, 0, 0, 0, []) : zm_E) := (congrArg (fun l => l[4]?) cd_195).trans rfl
theorem c_195_5 : (zm_cd 195)[5]? = some ((5, .invokevirtual 49, 3, 13, 2, 1, 0, 0, [7]) : zm_E) := (congrArg (fun l => l[5]?) cd_195).trans rfl
theorem c_195_6 : (zm_cd 195)[6]? = some ((8, .i2l, 1, 0, 0, 0, 0, 0, []) : zm_E) := (congrArg (fun l => l[6]?) cd_195).trans rfl
theorem c_195_7 : (zm_cd 195)[7]? = some ((9, .lastore, 1, 0, 0, 0, 0, 0, []) : zm_E) := (congrArg (fun l => l[7]?) cd_195).trans rfl
theorem c_195_8 : (zm_cd 195)[8]? = some ((10, .goto 11, 3, 15, 0, 0, 0, 0, []) : zm_E) := (congrArg (fun l => l[8]?) cd_195).trans rfl
theorem c_195_9 : (zm_cd 195)[9]? = some ((13, .astore 4, 2, 4, 0, 0, 0, 0, []) : zm_E) := (congrArg (fun l => l[9]?) cd_195).trans rfl
theorem c_195_10 : (zm_cd 195)[10]? = some ((15, .iconst 1, 1, 0, 0, 0, 1, 0, []) : zm_E) := (congrArg (fun l => l[10]?) cd_195).trans rfl
theorem c_195_11 : (zm_cd 195)[11]? = some ((16, .ireturn, 1, 0, 0, 0, 0, 0, []) : zm_E) := (congrArg (fun l => l[11]?) cd_195).trans rfl
theorem c_195_12 : (zm_cd 195)[12]? = some ((17, .astore 4, 2, 4, 0, 0, 0, 0, []) : zm_E) := (congrArg (fun l => l[12]?) cd_195).trans rfl
theorem c_195_13 : (zm_cd 195)[13]? = some ((19, .iconst 2, 1, 0, 0, 0, 2, 0, []) : zm_E) := (congrArg (fun l => l[13]?) cd_195).trans rfl
theorem c_195_14 : (zm_cd 195)[14]? = some ((20, .ireturn, 1, 0, 0, 0, 0, 0, []) : zm_E) := (congrArg (fun l => l[14]?) cd_195).trans rfl
theorem c_195_15 : (zm_cd 195)[15]? = some ((21, .iconst 0, 1, 0, 0, 0, 0, 0, []) : zm_E) := (congrArg (fun l => l[15]?) cd_195).trans rfl
theorem c_195_16 : (zm_cd 195)[16]? = some ((22, .ireturn, 1, 0, 0, 0, 0, 0, []) : zm_E) := (congrArg (fun l => l[16]?) cd_195).trans rfl
theorem cd_196 : zm_cd 196 = zd_196 := rfl
theorem ml_196 : zm_ml 196 = 4 := rfl
theorem ht_196 : zm_ht 196 = [(0, 7, 2, 9, 3)] := rfl
theorem c_196_0 : (zm_cd 196)[0]? = some ((0, .aload_n 2, 1, 2, 0, 0, 0, 0, []) : zm_E) := (congrArg (fun l => l[0]?) cd_196).trans rfl
theorem c_196_1 : (zm_cd 196)[1]? = some ((1, .iconst 0, 1, 0, 0, 0, 0, 0, []) : zm_E) := (congrArg (fun l => l[1]?) cd_196).trans rfl
theorem c_196_2 : (zm_cd 196)[2]? = some ((2, .aload_n 0, 1, 0, 0, 0, 0, 0, []) : zm_E) := (congrArg (fun l => l[2]?) cd_196).trans rfl
theorem c_196_3 : (zm_cd 196)[3]? = some ((3, .iload_n 1, 1, 1, 0, 0, 0, 0, []) : zm_E) := (congrArg (fun l => l[3]?) cd_196).trans rfl
theorem c_196_4 : (zm_cd 196)[4]? = some ((4, .invokevirtual 52, 3, 14, 1, 1, 0, 0, [7]) : zm_E) := (congrArg (fun l => l[4]?) cd_196).trans rfl
theorem c_196_5 : (zm_cd 196)[5]? = some ((7, .i2l, 1, 0, 0, 0, 0, 0, []) : zm_E) := (congrArg (fun l => l[5]?) cd_196).trans rfl
theorem c_196_6 : (zm_cd 196)[6]? = some ((8, .lastore, 1, 0, 0, 0, 0, 0, []) : zm_E) := (congrArg (fun l => l[6]?) cd_196).trans rfl
theorem c_196_7 : (zm_cd 196)[7]? = some ((9, .goto 6, 3, 11, 0, 0, 0, 0, []) : zm_E) := (congrArg (fun l => l[7]?) cd_196).trans rfl
theorem c_196_8 : (zm_cd 196)[8]? = some ((12, .astore_n 3, 1, 3, 0, 0, 0, 0, []) : zm_E) := (congrArg (fun l => l[8]?) cd_196).trans rfl
theorem c_196_9 : (zm_cd 196)[9]? = some ((13, .iconst 1, 1, 0, 0, 0, 1, 0, []) : zm_E) := (congrArg (fun l => l[9]?) cd_196).trans rfl
theorem c_196_10 : (zm_cd 196)[10]? = some ((14, .ireturn, 1, 0, 0, 0, 0, 0, []) : zm_E) := (congrArg (fun l => l[10]?) cd_196).trans rfl
theorem c_196_11 : (zm_cd 196)[11]? = some ((15, .iconst 0, 1, 0, 0, 0, 0, 0, []) : zm_E) := (congrArg (fun l => l[11]?) cd_196).trans rfl
theorem c_196_12 : (zm_cd 196)[12]? = some ((16, .ireturn, 1, 0, 0, 0, 0, 0, []) : zm_E) := (congrArg (fun l => l[12]?) cd_196).trans rfl
theorem cd_197 : zm_cd 197 = zd_197 := rfl
theorem ml_197 : zm_ml 197 = 4 := rfl
theorem ht_197 : zm_ht 197 = [(0, 7, 2, 9, 3), (0, 7, 1, 12, 3)] := rfl
theorem c_197_0 : (zm_cd 197)[0]? = some ((0, .aload_n 2, 1, 2, 0, 0, 0, 0, []) : zm_E) := (congrArg (fun l => l[0]?) cd_197).trans rfl
theorem c_197_1 : (zm_cd 197)[1]? = some ((1, .iconst 0, 1, 0, 0, 0, 0, 0, []) : zm_E) := (congrArg (fun l => l[1]?) cd_197).trans rfl
theorem c_197_2 : (zm_cd 197)[2]? = some ((2, .aload_n 0, 1, 0, 0, 0, 0, 0, []) : zm_E) := (congrArg (fun l => l[2]?) cd_197).trans rfl
theorem c_197_3 : (zm_cd 197)[3]? = some ((3, .iload_n 1, 1, 1, 0, 0, 0, 0, []) : zm_E) := (congrArg (fun l => l[3]?) cd_197).trans rfl
theorem c_197_4 : (zm_cd 197)[4]? = some ((4, .invokevirtual 55, 3, 16, 1, 1, 0, 0, [7]) : zm_E) := (congrArg (fun l => l[4]?) cd_197).trans rfl
theorem c_197_5 : (zm_cd 197)[5]? = some ((7, .i2l, 1, 0, 0, 0, 0, 0, []) : zm_E) := (congrArg (fun l => l[5]?) cd_197).trans rfl
theorem c_197_6 : (zm_cd 197)[6]? = some ((8, .lastore, 1, 0, 0, 0, 0, 0, []) : zm_E) := (congrArg (fun l => l[6]?) cd_197).trans rfl
theorem c_197_7 : (zm_cd 197)[7]? = some ((9, .goto 9, 3, 14, 0, 0, 0, 0, []) : zm_E) := (congrArg (fun l => l[7]?) cd_197).trans rfl
theorem c_197_8 : (zm_cd 197)[8]? = some ((12, .astore_n 3, 1, 3, 0, 0, 0, 0, []) : zm_E) := (congrArg (fun l => l[8]?) cd_197).trans rfl
theorem c_197_9 : (zm_cd 197)[9]? = some ((13, .iconst 1, 1, 0, 0, 0, 1, 0, []) : zm_E) := (congrArg (fun l => l[9]?) cd_197).trans rfl
theorem c_197_10 : (zm_cd 197)[10]? = some ((14, .ireturn, 1, 0, 0, 0, 0, 0, []) : zm_E) := (congrArg (fun l => l[10]?) cd_197).trans rfl
theorem c_197_11 : (zm_cd 197)[11]? = some ((15, .astore_n 3, 1, 3, 0, 0, 0, 0, []) : zm_E) := (congrArg (fun l => l[11]?) cd_197).trans rfl
theorem c_197_12 : (zm_cd 197)[12]? = some ((16, .iconst 2, 1, 0, 0, 0, 2, 0, []) : zm_E) := (congrArg (fun l => l[12]?) cd_197).trans rfl
theorem c_197_13 : (zm_cd 197)[13]? = some ((17, .ireturn, 1, 0, 0, 0, 0, 0, []) : zm_E) := (congrArg (fun l => l[13]?) cd_197).trans rfl
theorem c_197_14 : (zm_cd 197)[14]? = some ((18, .iconst 0, 1, 0, 0, 0, 0, 0, []) : zm_E) := (congrArg (fun l => l[14]?) cd_197).trans rfl
theorem c_197_15 : (zm_cd 197)[15]? = some ((19, .ireturn, 1, 0, 0, 0, 0, 0, []) : zm_E) := (congrArg (fun l => l[15]?) cd_197).trans rfl
theorem cd_198 : zm_cd 198 = zd_198 := rfl
theorem ml_198 : zm_ml 198 = 3 := rfl
theorem ht_198 : zm_ht 198 = [(0, 6, 1, 8, 2)] := rfl
theorem c_198_0 : (zm_cd 198)[0]? = some ((0, .aload_n 1, 1, 1, 0, 0, 0, 0, []) : zm_E) := (congrArg (fun l => l[0]?) cd_198).trans rfl
theorem c_198_1 : (zm_cd 198)[1]? = some ((1, .iconst 0, 1, 0, 0, 0, 0, 0, []) : zm_E) := (congrArg (fun l => l[1]?) cd_198).trans rfl
theorem c_198_2 : (zm_cd 198)[2]? = some ((2, .aload_n 0, 1, 0, 0, 0, 0, 0, []) : zm_E) := (congrArg (fun l => l[2]?) cd_198).trans rfl
theorem c_198_3 : (zm_cd 198)[3]? = some ((3, .invokevirtual 58, 3, 18, 0, 1, 0, 0, [7]) : zm_E) := (congrArg (fun l => l[3]?) cd_198).trans rfl
theorem c_198_4 : (zm_cd 198)[4]? = some ((6, .i2l, 1, 0, 0, 0, 0, 0, []) : zm_E) := (congrArg (fun l => l[4]?) cd_198).trans rfl
theorem c_198_5 : (zm_cd 198)[5]? = some ((7, .lastore, 1, 0, 0, 0, 0, 0, []) : zm_E) := (congrArg (fun l => l[5]?) cd_198).trans rfl
theorem c_198_6 : (zm_cd 198)[6]? = some ((8, .goto 6, 3, 10, 0, 0, 0, 0, []) : zm_E) := (congrArg (fun l => l[6]?) cd_198).trans rfl
theorem c_198_7 : (zm_cd 198)[7]? = some ((11, .astore_n 2, 1, 2, 0, 0, 0, 0, []) : zm_E) := (congrArg (fun l => l[7]?) cd_198).trans rfl
theorem c_198_8 : (zm_cd 198)[8]? = some ((12, .iconst 1, 1, 0, 0, 0, 1, 0, []) : zm_E) := (congrArg (fun l => l[8]?) cd_198).trans rfl
theorem c_198_9 : (zm_cd 198)[9]? = some ((13, .ireturn, 1, 0, 0, 0, 0, 0, []) : zm_E) := (congrArg (fun l => l[9]?) cd_198).trans rfl
theorem c_198_10 : (zm_cd 198)[10]? = some ((14, .iconst 0, 1, 0, 0, 0, 0, 0, []) : zm_E) := (congrArg (fun l => l[10]?) cd_198).trans rfl
theorem c_198_11 : (zm_cd 198)[11]? = some ((15, .ireturn, 1, 0, 0, 0, 0, 0, []) : zm_E) := (congrArg (fun l => l[11]?) cd_198).trans rfl
theorem cd_199 : zm_cd 199 = zd_199 := rfl
theorem ml_199 : zm_ml 199 = 4 := rfl
theorem ht_199 : zm_ht 199 = [(0, 7, 2, 9, 3)] := rfl
theorem c_199_0 : (zm_cd 199)[0]? = some ((0, .aload_n 2, 1, 2, 0, 0, 0, 0, []) : zm_E) := (congrArg (fun l => l[0]?) cd_199).trans rfl
theorem c_199_1 : (zm_cd 199)[1]? = some ((1, .iconst 0, 1, 0, 0, 0, 0, 0, []) : zm_E) := (congrArg (fun l => l[1]?) cd_199).trans rfl
theorem c_199_2 : (zm_cd 199)[2]? = some ((2, .aload_n 0, 1, 0, 0, 0, 0, 0, []) : zm_E) := (congrArg (fun l => l[2]?) cd_199).trans rfl
theorem c_199_3 : (zm_cd 199)[3]? = some ((3, .iload_n 1, 1, 1, 0, 0, 0, 0, []) : zm_E) := (congrArg (fun l => l[3]?) cd_199).trans rfl
theorem c_199_4 : (zm_cd 199)[4]? = some ((4, .invokevirtual 61, 3, 22, 1, 1, 0, 0, [7]) : zm_E) := (congrArg (fun l => l[4]?) cd_199).trans rfl
theorem c_199_5 : (zm_cd 199)[5]? = some ((7, .i2l, 1, 0, 0, 0, 0, 0, []) : zm_E) := (congrArg (fun l => l[5]?) cd_199).trans rfl
theorem c_199_6 : (zm_cd 199)[6]? = some ((8, .lastore, 1, 0, 0, 0, 0, 0, []) : zm_E) := (congrArg (fun l => l[6]?) cd_199).trans rfl
theorem c_199_7 : (zm_cd 199)[7]? = some ((9, .goto 6, 3, 11, 0, 0, 0, 0, []) : zm_E) := (congrArg (fun l => l[7]?) cd_199).trans rfl
theorem c_199_8 : (zm_cd 199)[8]? = some ((12, .astore_n 3, 1, 3, 0, 0, 0, 0, []) : zm_E) := (congrArg (fun l => l[8]?) cd_199).trans rfl
theorem c_199_9 : (zm_cd 199)[9]? = some ((13, .iconst 1, 1, 0, 0, 0, 1, 0, []) : zm_E) := (congrArg (fun l => l[9]?) cd_199).trans rfl
theorem c_199_10 : (zm_cd 199)[10]? = some ((14, .ireturn, 1, 0, 0, 0, 0, 0, []) : zm_E) := (congrArg (fun l => l[10]?) cd_199).trans rfl
theorem c_199_11 : (zm_cd 199)[11]? = some ((15, .iconst 0, 1, 0, 0, 0, 0, 0, []) : zm_E) := (congrArg (fun l => l[11]?) cd_199).trans rfl
theorem c_199_12 : (zm_cd 199)[12]? = some ((16, .ireturn, 1, 0, 0, 0, 0, 0, []) : zm_E) := (congrArg (fun l => l[12]?) cd_199).trans rfl
theorem cd_200 : zm_cd 200 = zd_200 := rfl
theorem ml_200 : zm_ml 200 = 4 := rfl
theorem ht_200 : zm_ht 200 = [(0, 7, 2, 9, 3)] := rfl
theorem c_200_0 : (zm_cd 200)[0]? = some ((0, .aload_n 2, 1, 2, 0, 0, 0, 0, []) : zm_E) := (congrArg (fun l => l[0]?) cd_200).trans rfl
theorem c_200_1 : (zm_cd 200)[1]? = some ((1, .iconst 0, 1, 0, 0, 0, 0, 0, []) : zm_E) := (congrArg (fun l => l[1]?) cd_200).trans rfl
theorem c_200_2 : (zm_cd 200)[2]? = some ((2, .aload_n 0, 1, 0, 0, 0, 0, 0, []) : zm_E) := (congrArg (fun l => l[2]?) cd_200).trans rfl
theorem c_200_3 : (zm_cd 200)[3]? = some ((3, .iload_n 1, 1, 1, 0, 0, 0, 0, []) : zm_E) := (congrArg (fun l => l[3]?) cd_200).trans rfl
theorem c_200_4 : (zm_cd 200)[4]? = some ((4, .invokevirtual 64, 3, 24, 1, 1, 0, 0, [7]) : zm_E) := (congrArg (fun l => l[4]?) cd_200).trans rfl
theorem c_200_5 : (zm_cd 200)[5]? = some ((7, .i2l, 1, 0, 0, 0, 0, 0, []) : zm_E) := (congrArg (fun l => l[5]?) cd_200).trans rfl
theorem c_200_6 : (zm_cd 200)[6]? = some ((8, .lastore, 1, 0, 0, 0, 0, 0, []) : zm_E) := (congrArg (fun l => l[6]?) cd_200).trans rfl
theorem c_200_7 : (zm_cd 200)[7]? = some ((9, .goto 6, 3, 11, 0, 0, 0, 0, []) : zm_E) := (congrArg (fun l => l[7]?) cd_200).trans rfl
theorem c_200_8 : (zm_cd 200)[8]? = some ((12, .astore_n 3, 1, 3, 0, 0, 0, 0, []) : zm_E) := (congrArg (fun l => l[8]?) cd_200).trans rfl
theorem c_200_9 : (zm_cd 200)[9]? = some ((13, .iconst 1, 1, 0, 0, 0, 1, 0, []) : zm_E) := (congrArg (fun l => l[9]?) cd_200).trans rfl
theorem c_200_10 : (zm_cd 200)[10]? = some ((14, .ireturn, 1, 0, 0, 0, 0, 0, []) : zm_E) := (congrArg (fun l => l[10]?) cd_200).trans rfl
theorem c_200_11 : (zm_cd 200)[11]? = some ((15, .iconst 0, 1, 0, 0, 0, 0, 0, []) : zm_E) := (congrArg (fun l => l[11]?) cd_200).trans rfl
theorem c_200_12 : (zm_cd 200)[12]? = some ((16, .ireturn, 1, 0, 0, 0, 0, 0, []) : zm_E) := (congrArg (fun l => l[12]?) cd_200).trans rfl
theorem cd_201 : zm_cd 201 = zd_201 := rfl
theorem ml_201 : zm_ml 201 = 5 := rfl
theorem ht_201 : zm_ht 201 = [(0, 8, 2, 10, 4)] := rfl
theorem c_201_0 : (zm_cd 201)[0]? = some ((0, .aload_n 3, 1, 3, 0, 0, 0, 0, []) : zm_E) := (congrArg (fun l => l[0]?) cd_201).trans rfl
theorem c_201_1 : (zm_cd 201)[1]? = some ((1, .iconst 0, 1, 0, 0, 0, 0, 0, []) : zm_E) := (congrArg (fun l => l[1]?) cd_201).trans rfl
theorem c_201_2 : (zm_cd 201)[2]? = some ((2, .aload_n 0, 1, 0, 0, 0, 0, 0, []) : zm_E) := (congrArg (fun l => l[2]?) cd_201).trans rfl
theorem c_201_3 : (zm_cd 201)[3]? = some ((3, .iload_n 1, 1, 1, 0, 0, 0, 0, []) : zm_E) := (congrArg (fun l => l[3]?) cd_201).trans rfl
theorem c_201_4 : (zm_cd 201)[4]? = some ((4, .iload_n 2, 1, 2, 0, 0, 0, 0, []) : zm_E) := (congrArg (fun l => l[4]?) cd_201).trans rfl
theorem c_201_5 : (zm_cd 201)[5]? = some ((5, .invokevirtual 67, 3, 25, 2, 1, 0, 0, [7]) : zm_E) := (congrArg (fun l => l[5]?) cd_201).trans rfl
theorem c_201_6 : (zm_cd 201)[6]? = some ((8, .i2l, 1, 0, 0, 0, 0, 0, []) : zm_E) := (congrArg (fun l => l[6]?) cd_201).trans rfl
theorem c_201_7 : (zm_cd 201)[7]? = some ((9, .lastore, 1, 0, 0, 0, 0, 0, []) : zm_E) := (congrArg (fun l => l[7]?) cd_201).trans rfl
theorem c_201_8 : (zm_cd 201)[8]? = some ((10, .goto 7, 3, 12, 0, 0, 0, 0, []) : zm_E) := (congrArg (fun l => l[8]?) cd_201).trans rfl
theorem c_201_9 : (zm_cd 201)[9]? = some ((13, .astore 4, 2, 4, 0, 0, 0, 0, []) : zm_E) := (congrArg (fun l => l[9]?) cd_201).trans rfl
theorem c_201_10 : (zm_cd 201)[10]? = some ((15, .iconst 1, 1, 0, 0, 0, 1, 0, []) : zm_E) := (congrArg (fun l => l[10]?) cd_201).trans rfl
theorem c_201_11 : (zm_cd 201)[11]? = some ((16, .ireturn, 1, 0, 0, 0, 0, 0, []) : zm_E) := (congrArg (fun l => l[11]?) cd_201).trans rfl
theorem c_201_12 : (zm_cd 201)[12]? = some ((17, .iconst 0, 1, 0, 0, 0, 0, 0, []) : zm_E) := (congrArg (fun l => l[12]?) cd_201).trans rfl
theorem c_201_13 : (zm_cd 201)[13]? = some ((18, .ireturn, 1, 0, 0, 0, 0, 0, []) : zm_E) := (congrArg (fun l => l[13]?) cd_201).trans rfl
theorem cd_202 : zm_cd 202 = zd_202 := rfl
theorem ml_202 : zm_ml 202 = 6 := rfl
theorem ht_202 : zm_ht 202 = [(0, 8, 0, 10, 5)] := rfl
theorem c_202_0 : (zm_cd 202)[0]? = some ((0, .aload 4, 2, 4, 0, 0, 0, 0, []) : zm_E) := (congrArg (fun l => l[0]?) cd_202).trans rfl
theorem c_202_1 : (zm_cd 202)[1]? = some ((2, .iconst 0, 1, 0, 0, 0, 0, 0, []) : zm_E) := (congrArg (fun l => l[1]?) cd_202).trans rfl
theorem c_202_2 : (zm_cd 202)[2]? = some ((3, .aload_n 0, 1, 0, 0, 0, 0, 0, []) : zm_E) := (congrArg (fun l => l[2]?) cd_202).trans rfl
theorem c_202_3 : (zm_cd 202)[3]? = some ((4, .iload_n 1, 1, 1, 0, 0, 0, 0, []) : zm_E) := (congrArg (fun l => l[3]?) cd_202).trans rfl
theorem c_202_4 : (zm_cd 202)[4]? = some ((5, .lload_n 2, 1, 2, 0, 0, 0, 0, []) : zm_E) := (congrArg (fun l => l[4]?) cd_202).trans rfl
theorem c_202_5 : (zm_cd 202)[5]? = some ((6, .invokevirtual 70, 3, 26, 2, 1, 0, 0, [7]) : zm_E) := (congrArg (fun l => l[5]?) cd_202).trans rfl
theorem c_202_6 : (zm_cd 202)[6]? = some ((9, .i2l, 1, 0, 0, 0, 0, 0, []) : zm_E) := (congrArg (fun l => l[6]?) cd_202).trans rfl
theorem c_202_7 : (zm_cd 202)[7]? = some ((10, .lastore, 1, 0, 0, 0, 0, 0, []) : zm_E) := (congrArg (fun l => l[7]?) cd_202).trans rfl
theorem c_202_8 : (zm_cd 202)[8]? = some ((11, .goto 7, 3, 12, 0, 0, 0, 0, []) : zm_E) := (congrArg (fun l => l[8]?) cd_202).trans rfl
theorem c_202_9 : (zm_cd 202)[9]? = some ((14, .astore 5, 2, 5, 0, 0, 0, 0, []) : zm_E) := (congrArg (fun l => l[9]?) cd_202).trans rfl
theorem c_202_10 : (zm_cd 202)[10]? = some ((16, .iconst 1, 1, 0, 0, 0, 1, 0, []) : zm_E) := (congrArg (fun l => l[10]?) cd_202).trans rfl
theorem c_202_11 : (zm_cd 202)[11]? = some ((17, .ireturn, 1, 0, 0, 0, 0, 0, []) : zm_E) := (congrArg (fun l => l[11]?) cd_202).trans rfl
theorem c_202_12 : (zm_cd 202)[12]? = some ((18, .iconst 0, 1, 0, 0, 0, 0, 0, []) : zm_E) := (congrArg (fun l => l[12]?) cd_202).trans rfl
theorem c_202_13 : (zm_cd 202)[13]? = some ((19, .ireturn, 1, 0, 0, 0, 0, 0, []) : zm_E) := (congrArg (fun l => l[13]?) cd_202).trans rfl
theorem cd_203 : zm_cd 203 = zd_203 := rfl
theorem ml_203 : zm_ml 203 = 6 := rfl
theorem ht_203 : zm_ht 203 = [(0, 8, 0, 10, 5)] := rfl
theorem c_203_0 : (zm_cd 203)[0]? = some ((0, .aload 4, 2, 4, 0, 0, 0, 0, []) : zm_E) := (congrArg (fun l => l[0]?) cd_203).trans rfl
theorem c_203_1 : (zm_cd 203)[1]? = some ((2, .iconst 0, 1, 0, 0, 0, 0, 0, []) : zm_E) := (congrArg (fun l => l[1]?) cd_203).trans rfl
theorem c_203_2 : (zm_cd 203)[2]? = some ((3, .aload_n 0, 1, 0, 0, 0, 0, 0, []) : zm_E) := (congrArg (fun l => l[2]?) cd_203).trans rfl
theorem c_203_3 : (zm_cd 203)[3]? = some ((4, .lload_n 1, 1, 1, 0, 0, 0, 0, []) : zm_E) := (congrArg (fun l => l[3]?) cd_203).trans rfl
theorem c_203_4 : (zm_cd 203)[4]? = some ((5, .iload_n 3, 1, 3, 0, 0, 0, 0, []) : zm_E) := (congrArg (fun l => l[4]?) cd_203).trans rfl
theorem c_203_5 : (zm_cd 203)[5]? = some ((6, .invokevirtual 74, 3, 27, 2, 1, 0, 0, [7]) : zm_E) := (congrArg (fun l => l[5]?) cd_203).trans rfl
theorem c_203_6 : (zm_cd 203)[6]? = some ((9, .i2l, 1, 0, 0, 0, 0, 0, []) : zm_E) := (congrArg (fun l => l[6]?) cd_203).trans rfl
theorem c_203_7 : (zm_cd 203)[7]? = some ((10, .lastore, 1, 0, 0, 0, 0, 0, []) : zm_E) := (congrArg (fun l => l[7]?) cd_203).trans rfl
theorem c_203_8 : (zm_cd 203)[8]? = some ((11, .goto 7, 3, 12, 0, 0, 0, 0, []) : zm_E) := (congrArg (fun l => l[8]?) cd_203).trans rfl
theorem c_203_9 : (zm_cd 203)[9]? = some ((14, .astore 5, 2, 5, 0, 0, 0, 0, []) : zm_E) := (congrArg (fun l => l[9]?) cd_203).trans rfl
theorem c_203_10 : (zm_cd 203)[10]? = some ((16, .iconst 1, 1, 0, 0, 0, 1, 0, []) : zm_E) := (congrArg (fun l => l[10]?) cd_203).trans rfl
theorem c_203_11 : (zm_cd 203)[11]? = some ((17, .ireturn, 1, 0, 0, 0, 0, 0, []) : zm_E) := (congrArg (fun l => l[11]?) cd_203).trans rfl
theorem c_203_12 : (zm_cd 203)[12]? = some ((18, .iconst 0, 1, 0, 0, 0, 0, 0, []) : zm_E) := (congrArg (fun l => l[12]?) cd_203).trans rfl
theorem c_203_13 : (zm_cd 203)[13]? = some ((19, .ireturn, 1, 0, 0, 0, 0, 0, []) : zm_E) := (congrArg (fun l => l[13]?) cd_203).trans rfl
theorem cd_204 : zm_cd 204 = zd_204 := rfl
theorem ml_204 : zm_ml 204 = 4 := rfl
theorem ht_204 : zm_ht 204 = [(0, 7, 2, 9, 3)] := rfl
theorem c_204_0 : (zm_cd 204)[0]? = some ((0, .aload_n 2, 1, 2, 0, 0, 0, 0, []) : zm_E) := (congrArg (fun l => l[0]?) cd_204).trans rfl
theorem c_204_1 : (zm_cd 204)[1]? = some ((1, .iconst 0, 1, 0, 0, 0, 0, 0, []) : zm_E) := (congrArg (fun l => l[1]?) cd_204).trans rfl
theorem c_204_2 : (zm_cd 204)[2]? = some ((2, .aload_n 0, 1, 0, 0, 0, 0, 0, []) : zm_E) := (congrArg (fun l => l[2]?) cd_204).trans rfl
theorem c_204_3 : (zm_cd 204)[3]? = some ((3, .iload_n 1, 1, 1, 0, 0, 0, 0, []) : zm_E) := (congrArg (fun l => l[3]?) cd_204).trans rfl
theorem c_204_4 : (zm_cd 204)[4]? = some ((4, .invokevirtual 78, 3, 28, 1, 1, 0, 0, [7]) : zm_E) := (congrArg (fun l => l[4]?) cd_204).trans rfl
theorem c_204_5 : (zm_cd 204)[5]? = some ((7, .i2l, 1, 0, 0, 0, 0, 0, []) : zm_E) := (congrArg (fun l => l[5]?) cd_204).trans rfl
theorem c_204_6 : (zm_cd 204)[6]? = some ((8, .lastore, 1, 0, 0, 0, 0, 0, []) : zm_E) := (congrArg (fun l => l[6]?) cd_204).trans rfl
theorem c_204_7 : (zm_cd 204)[7]? = some ((9, .goto 6, 3, 11, 0, 0, 0, 0, []) : zm_E) := (congrArg (fun l => l[7]?) cd_204).trans rfl
theorem c_204_8 : (zm_cd 204)[8]? = some ((12, .astore_n 3, 1, 3, 0, 0, 0, 0, []) : zm_E) := (congrArg (fun l => l[8]?) cd_204).trans rfl
theorem c_204_9 : (zm_cd 204)[9]? = some ((13, .iconst 1, 1, 0, 0, 0, 1, 0, []) : zm_E) := (congrArg (fun l => l[9]?) cd_204).trans rfl
theorem c_204_10 : (zm_cd 204)[10]? = some ((14, .ireturn, 1, 0, 0, 0, 0, 0, []) : zm_E) := (congrArg (fun l => l[10]?) cd_204).trans rfl
theorem c_204_11 : (zm_cd 204)[11]? = some ((15, .iconst 0, 1, 0, 0, 0, 0, 0, []) : zm_E) := (congrArg (fun l => l[11]?) cd_204).trans rfl
theorem c_204_12 : (zm_cd 204)[12]? = some ((16, .ireturn, 1, 0, 0, 0, 0, 0, []) : zm_E) := (congrArg (fun l => l[12]?) cd_204).trans rfl
theorem cd_205 : zm_cd 205 = zd_205 := rfl
theorem ml_205 : zm_ml 205 = 4 := rfl
theorem ht_205 : zm_ht 205 = [(0, 7, 2, 9, 3), (0, 7, 1, 12, 3)] := rfl
theorem c_205_0 : (zm_cd 205)[0]? = some ((0, .aload_n 2, 1, 2, 0, 0, 0, 0, []) : zm_E) := (congrArg (fun l => l[0]?) cd_205).trans rfl
theorem c_205_1 : (zm_cd 205)[1]? = some ((1, .iconst 0, 1, 0, 0, 0, 0, 0, []) : zm_E) := (congrArg (fun l => l[1]?) cd_205).trans rfl
theorem c_205_2 : (zm_cd 205)[2]? = some ((2, .aload_n 0, 1, 0, 0, 0, 0, 0, []) : zm_E) := (congrArg (fun l => l[2]?) cd_205).trans rfl
theorem c_205_3 : (zm_cd 205)[3]? = some ((3, .iload_n 1, 1, 1, 0, 0, 0, 0, []) : zm_E) := (congrArg (fun l => l[3]?) cd_205).trans rfl
theorem c_205_4 : (zm_cd 205)[4]? = some ((4, .invokevirtual 81, 3, 29, 1, 1, 0, 0, [7]) : zm_E) := (congrArg (fun l => l[4]?) cd_205).trans rfl
theorem c_205_5 : (zm_cd 205)[5]? = some ((7, .i2l, 1, 0, 0, 0, 0, 0, []) : zm_E) := (congrArg (fun l => l[5]?) cd_205).trans rfl
theorem c_205_6 : (zm_cd 205)[6]? = some ((8, .lastore, 1, 0, 0, 0, 0, 0, []) : zm_E) := (congrArg (fun l => l[6]?) cd_205).trans rfl
theorem c_205_7 : (zm_cd 205)[7]? = some ((9, .goto 9, 3, 14, 0, 0, 0, 0, []) : zm_E) := (congrArg (fun l => l[7]?) cd_205).trans rfl
theorem c_205_8 : (zm_cd 205)[8]? = some ((12, .astore_n 3, 1, 3, 0, 0, 0, 0, []) : zm_E) := (congrArg (fun l => l[8]?) cd_205).trans rfl
theorem c_205_9 : (zm_cd 205)[9]? = some ((13, .iconst 1, 1, 0, 0, 0, 1, 0, []) : zm_E) := (congrArg (fun l => l[9]?) cd_205).trans rfl
theorem c_205_10 : (zm_cd 205)[10]? = some ((14, .ireturn, 1, 0, 0, 0, 0, 0, []) : zm_E) := (congrArg (fun l => l[10]?) cd_205).trans rfl
theorem c_205_11 : (zm_cd 205)[11]? = some ((15, .astore_n 3, 1, 3, 0, 0, 0, 0, []) : zm_E) := (congrArg (fun l => l[11]?) cd_205).trans rfl
theorem c_205_12 : (zm_cd 205)[12]? = some ((16, .iconst 2, 1, 0, 0, 0, 2, 0, []) : zm_E) := (congrArg (fun l => l[12]?) cd_205).trans rfl
theorem c_205_13 : (zm_cd 205)[13]? = some ((17, .ireturn, 1, 0, 0, 0, 0, 0, []) : zm_E) := (congrArg (fun l => l[13]?) cd_205).trans rfl
theorem c_205_14 : (zm_cd 205)[14]? = some ((18, .iconst 0, 1, 0, 0, 0, 0, 0, []) : zm_E) := (congrArg (fun l => l[14]?) cd_205).trans rfl
theorem c_205_15 : (zm_cd 205)[15]? = some ((19, .ireturn, 1, 0, 0, 0, 0, 0, []) : zm_E) := (congrArg (fun l => l[15]?) cd_205).trans rfl
theorem cd_207 : zm_cd 207 = zd_207 := rfl
theorem ml_207 : zm_ml 207 = 1 := rfl
theorem ht_207 : zm_ht 207 = [] := rfl
theorem c_207_0 : (zm_cd 207)[0]? = some ((0, .iload_n 0, 1, 0, 0, 0, 0, 0, []) : zm_E) := (congrArg (fun l => l[0]?) cd_207).trans rfl
theorem c_207_1 : (zm_cd 207)[1]? = some ((1, .iload_n 0, 1, 0, 0, 0, 0, 0, []) : zm_E) := (congrArg (fun l => l[1]?) cd_207).trans rfl
theorem c_207_2 : (zm_cd 207)[2]? = some ((2, .iconst 1, 1, 0, 0, 0, 1, 0, []) : zm_E) := (congrArg (fun l => l[2]?) cd_207).trans rfl
theorem c_207_3 : (zm_cd 207)[3]? = some ((3, .iushr, 1, 0, 0, 0, 0, 0, []) : zm_E) := (congrArg (fun l => l[3]?) cd_207).trans rfl
theorem c_207_4 : (zm_cd 207)[4]? = some ((4, .ldc_w 265, 3, 0, 0, 0, 1431655765, 0, []) : zm_E) := (congrArg (fun l => l[4]?) cd_207).trans rfl
theorem c_207_5 : (zm_cd 207)[5]? = some ((7, .iand, 1, 0, 0, 0, 0, 0, []) : zm_E) := (congrArg (fun l => l[5]?) cd_207).trans rfl
theorem c_207_6 : (zm_cd 207)[6]? = some ((8, .isub, 1, 0, 0, 0, 0, 0, []) : zm_E) := (congrArg (fun l => l[6]?) cd_207).trans rfl
theorem c_207_7 : (zm_cd 207)[7]? = some ((9, .istore_n 0, 1, 0, 0, 0, 0, 0, []) : zm_E) := (congrArg (fun l => l[7]?) cd_207).trans rfl
theorem c_207_8 : (zm_cd 207)[8]? = some ((10, .iload_n 0, 1, 0, 0, 0, 0, 0, []) : zm_E) := (congrArg (fun l => l[8]?) cd_207).trans rfl
theorem c_207_9 : (zm_cd 207)[9]? = some ((11, .ldc_w 266, 3, 0, 0, 0, 858993459, 0, []) : zm_E) := (congrArg (fun l => l[9]?) cd_207).trans rfl
theorem c_207_10 : (zm_cd 207)[10]? = some ((14, .iand, 1, 0, 0, 0, 0, 0, []) : zm_E) := (congrArg (fun l => l[10]?) cd_207).trans rfl
theorem c_207_11 : (zm_cd 207)[11]? = some ((15, .iload_n 0, 1, 0, 0, 0, 0, 0, []) : zm_E) := (congrArg (fun l => l[11]?) cd_207).trans rfl
theorem c_207_12 : (zm_cd 207)[12]? = some ((16, .iconst 2, 1, 0, 0, 0, 2, 0, []) : zm_E) := (congrArg (fun l => l[12]?) cd_207).trans rfl
theorem c_207_13 : (zm_cd 207)[13]? = some ((17, .iushr, 1, 0, 0, 0, 0, 0, []) : zm_E) := (congrArg (fun l => l[13]?) cd_207).trans rfl
theorem c_207_14 : (zm_cd 207)[14]? = some ((18, .ldc_w 266, 3, 0, 0, 0, 858993459, 0, []) : zm_E) := (congrArg (fun l => l[14]?) cd_207).trans rfl
theorem c_207_15 : (zm_cd 207)[15]? = some ((21, .iand, 1, 0, 0, 0, 0, 0, []) : zm_E) := (congrArg (fun l => l[15]?) cd_207).trans rfl
theorem c_207_16 : (zm_cd 207)[16]? = some ((22, .iadd, 1, 0, 0, 0, 0, 0, []) : zm_E) := (congrArg (fun l => l[16]?) cd_207).trans rfl
theorem c_207_17 : (zm_cd 207)[17]? = some ((23, .istore_n 0, 1, 0, 0, 0, 0, 0, []) : zm_E) := (congrArg (fun l => l[17]?) cd_207).trans rfl
theorem c_207_18 : (zm_cd 207)[18]? = some ((24, .iload_n 0, 1, 0, 0, 0, 0, 0, []) : zm_E) := (congrArg (fun l => l[18]?) cd_207).trans rfl
theorem c_207_19 : (zm_cd 207)[19]? = some ((25, .iload_n 0, 1, 0, 0, 0, 0, 0, []) : zm_E) := (congrArg (fun l => l[19]?) cd_207).trans rfl
theorem c_207_20 : (zm_cd 207)[20]? = some ((26, .iconst 4, 1, 0, 0, 0, 4, 0, []) : zm_E) := (congrArg (fun l => l[20]?) cd_207).trans rfl
theorem c_207_21 : (zm_cd 207)[21]? = some ((27, .iushr, 1, 0, 0, 0, 0, 0, []) : zm_E) := (congrArg (fun l => l[21]?) cd_207).trans rfl
theorem c_207_22 : (zm_cd 207)[22]? = some ((28, .iadd, 1, 0, 0, 0, 0, 0, []) : zm_E) := (congrArg (fun l => l[22]?) cd_207).trans rfl
theorem c_207_23 : (zm_cd 207)[23]? = some ((29, .ldc_w 267, 3, 0, 0, 0, 252645135, 0, []) : zm_E) := (congrArg (fun l => l[23]?) cd_207).trans rfl
theorem c_207_24 : (zm_cd 207)[24]? = some ((32, .iand, 1, 0, 0, 0, 0, 0, []) : zm_E) := (congrArg (fun l => l[24]?) cd_207).trans rfl
theorem c_207_25 : (zm_cd 207)[25]? = some ((33, .istore_n 0, 1, 0, 0, 0, 0, 0, []) : zm_E) := (congrArg (fun l => l[25]?) cd_207).trans rfl
theorem c_207_26 : (zm_cd 207)[26]? = some ((34, .iload_n 0, 1, 0, 0, 0, 0, 0, []) : zm_E) := (congrArg (fun l => l[26]?) cd_207).trans rfl
theorem c_207_27 : (zm_cd 207)[27]? = some ((35, .iload_n 0, 1, 0, 0, 0, 0, 0, []) : zm_E) := (congrArg (fun l => l[27]?) cd_207).trans rfl
theorem c_207_28 : (zm_cd 207)[28]? = some ((36, .bipush 8, 2, 0, 0, 0, 8, 0, []) : zm_E) := (congrArg (fun l => l[28]?) cd_207).trans rfl
theorem c_207_29 : (zm_cd 207)[29]? = some ((38, .iushr, 1, 0, 0, 0, 0, 0, []) : zm_E) := (congrArg (fun l => l[29]?) cd_207).trans rfl
theorem c_207_30 : (zm_cd 207)[30]? = some ((39, .iadd, 1, 0, 0, 0, 0, 0, []) : zm_E) := (congrArg (fun l => l[30]?) cd_207).trans rfl
theorem c_207_31 : (zm_cd 207)[31]? = some ((40, .istore_n 0, 1, 0, 0, 0, 0, 0, []) : zm_E) := (congrArg (fun l => l[31]?) cd_207).trans rfl
theorem c_207_32 : (zm_cd 207)[32]? = some ((41, .iload_n 0, 1, 0, 0, 0, 0, 0, []) : zm_E) := (congrArg (fun l => l[32]?) cd_207).trans rfl
theorem c_207_33 : (zm_cd 207)[33]? = some ((42, .iload_n 0, 1, 0, 0, 0, 0, 0, []) : zm_E) := (congrArg (fun l => l[33]?) cd_207).trans rfl
theorem c_207_34 : (zm_cd 207)[34]? = some ((43, .bipush 16, 2, 0, 0, 0, 16, 0, []) : zm_E) := (congrArg (fun l => l[34]?) cd_207).trans rfl
theorem c_207_35 : (zm_cd 207)[35]? = some ((45, .iushr, 1, 0, 0, 0, 0, 0, []) : zm_E) := (congrArg (fun l => l[35]?) cd_207).trans rfl
theorem c_207_36 : (zm_cd 207)[36]? = some ((46, .iadd, 1, 0, 0, 0, 0, 0, []) : zm_E) := (congrArg (fun l => l[36]?) cd_207).trans rfl
theorem c_207_37 : (zm_cd 207)[37]? = some ((47, .istore_n 0, 1, 0, 0, 0, 0, 0, []) : zm_E) := (congrArg (fun l => l[37]?) cd_207).trans rfl
theorem c_207_38 : (zm_cd 207)[38]? = some ((48, .iload_n 0, 1, 0, 0, 0, 0, 0, []) : zm_E) := (congrArg (fun l => l[38]?) cd_207).trans rfl
theorem c_207_39 : (zm_cd 207)[39]? = some ((49, .bipush 63, 2, 0, 0, 0, 63, 0, []) : zm_E) := (congrArg (fun l => l[39]?) cd_207).trans rfl
theorem c_207_40 : (zm_cd 207)[40]? = some ((51, .iand, 1, 0, 0, 0, 0, 0, []) : zm_E) := (congrArg (fun l => l[40]?) cd_207).trans rfl
theorem c_207_41 : (zm_cd 207)[41]? = some ((52, .ireturn, 1, 0, 0, 0, 0, 0, []) : zm_E) := (congrArg (fun l => l[41]?) cd_207).trans rfl
theorem cd_208 : zm_cd 208 = zd_208 := rfl
theorem ml_208 : zm_ml 208 = 5 := rfl
theorem ht_208 : zm_ht 208 = [] := rfl
theorem c_208_0 : (zm_cd 208)[0]? = some ((0, .iconst 0, 1, 0, 0, 0, 0, 0, []) : zm_E) := (congrArg (fun l => l[0]?) cd_208).trans rfl
theorem c_208_1 : (zm_cd 208)[1]? = some ((1, .istore_n 3, 1, 3, 0, 0, 0, 0, []) : zm_E) := (congrArg (fun l => l[1]?) cd_208).trans rfl
theorem c_208_2 : (zm_cd 208)[2]? = some ((2, .aload_n 0, 1, 0, 0, 0, 0, 0, []) : zm_E) := (congrArg (fun l => l[2]?) cd_208).trans rfl
theorem c_208_3 : (zm_cd 208)[3]? = some ((3, .arraylength, 1, 0, 0, 0, 0, 0, []) : zm_E) := (congrArg (fun l => l[3]?) cd_208).trans rfl
theorem c_208_4 : (zm_cd 208)[4]? = some ((4, .istore 4, 2, 4, 0, 0, 0, 0, []) : zm_E) := (congrArg (fun l => l[4]?) cd_208).trans rfl
theorem c_208_5 : (zm_cd 208)[5]? = some ((6, .iload_n 3, 1, 3, 0, 0, 0, 0, []) : zm_E) := (congrArg (fun l => l[5]?) cd_208).trans rfl
theorem c_208_6 : (zm_cd 208)[6]? = some ((7, .iload 4, 2, 4, 0, 0, 0, 0, []) : zm_E) := (congrArg (fun l => l[6]?) cd_208).trans rfl
theorem c_208_7 : (zm_cd 208)[7]? = some ((9, .if_icmp .ge 13, 3, 14, 0, 0, 0, 0, []) : zm_E) := (congrArg (fun l => l[7]?) cd_208).trans rfl
theorem c_208_8 : (zm_cd 208)[8]? = some ((12, .aload_n 0, 1, 0, 0, 0, 0, 0, []) : zm_E) := (congrArg (fun l => l[8]?) cd_208).trans rfl
theorem c_208_9 : (zm_cd 208)[9]? = some ((13, .iload_n 3, 1, 3, 0, 0, 0, 0, []) : zm_E) := (congrArg (fun l => l[9]?) cd_208).trans rfl
theorem c_208_10 : (zm_cd 208)[10]? = some ((14, .lload_n 1, 1, 1, 0, 0, 0, 0, []) : zm_E) := (congrArg (fun l => l[10]?) cd_208).trans rfl
theorem c_208_11 : (zm_cd 208)[11]? = some ((15, .lastore, 1, 0, 0, 0, 0, 0, []) : zm_E) := (congrArg (fun l => l[11]?) cd_208).trans rfl
theorem c_208_12 : (zm_cd 208)[12]? = some ((16, .iinc 3 1, 3, 3, 0, 0, 1, 0, []) : zm_E) := (congrArg (fun l => l[12]?) cd_208).trans rfl
theorem c_208_13 : (zm_cd 208)[13]? = some ((19, .goto (-13), 3, 5, 0, 0, 0, 0, []) : zm_E) := (congrArg (fun l => l[13]?) cd_208).trans rfl
theorem c_208_14 : (zm_cd 208)[14]? = some ((22, .return_, 1, 0, 0, 0, 0, 0, []) : zm_E) := (congrArg (fun l => l[14]?) cd_208).trans rfl
theorem cd_209 : zm_cd 209 = zd_209 := rfl
theorem ml_209 : zm_ml 209 = 2 := rfl
theorem ht_209 : zm_ht 209 = [] := rfl
theorem c_209_0 : (zm_cd 209)[0]? = some ((0, .iload_n 1, 1, 1, 0, 0, 0, 0, []) : zm_E) := (congrArg (fun l => l[0]?) cd_209).trans rfl
theorem c_209_1 : (zm_cd 209)[1]? = some ((1, .ifCond .lt 15, 3, 10, 0, 0, 0, 0, []) : zm_E) := (congrArg (fun l => l[1]?) cd_209).trans rfl
theorem c_209_2 : (zm_cd 209)[2]? = some ((4, .iload_n 1, 1, 1, 0, 0, 0, 0, []) : zm_E) := (congrArg (fun l => l[2]?) cd_209).trans rfl
theorem c_209_3 : (zm_cd 209)[3]? = some ((5, .aload_n 0, 1, 0, 0, 0, 0, 0, []) : zm_E) := (congrArg (fun l => l[3]?) cd_209).trans rfl
theorem c_209_4 : (zm_cd 209)[4]? = some ((6, .arraylength, 1, 0, 0, 0, 0, 0, []) : zm_E) := (congrArg (fun l => l[4]?) cd_209).trans rfl
theorem c_209_5 : (zm_cd 209)[5]? = some ((7, .if_icmp .ge 9, 3, 10, 0, 0, 0, 0, []) : zm_E) := (congrArg (fun l => l[5]?) cd_209).trans rfl
theorem c_209_6 : (zm_cd 209)[6]? = some ((10, .aload_n 0, 1, 0, 0, 0, 0, 0, []) : zm_E) := (congrArg (fun l => l[6]?) cd_209).trans rfl
theorem c_209_7 : (zm_cd 209)[7]? = some ((11, .iload_n 1, 1, 1, 0, 0, 0, 0, []) : zm_E) := (congrArg (fun l => l[7]?) cd_209).trans rfl
theorem c_209_8 : (zm_cd 209)[8]? = some ((12, .iaload, 1, 0, 0, 0, 0, 0, []) : zm_E) := (congrArg (fun l => l[8]?) cd_209).trans rfl
theorem c_209_9 : (zm_cd 209)[9]? = some ((13, .goto 5, 3, 11, 0, 0, 0, 0, []) : zm_E) := (congrArg (fun l => l[9]?) cd_209).trans rfl
theorem c_209_10 : (zm_cd 209)[10]? = some ((16, .bipush (-9), 2, 0, 0, 0, (-9), 0, []) : zm_E) := (congrArg (fun l => l[10]?) cd_209).trans rfl
theorem c_209_11 : (zm_cd 209)[11]? = some ((18, .ireturn, 1, 0, 0, 0, 0, 0, []) : zm_E) := (congrArg (fun l => l[11]?) cd_209).trans rfl
theorem cd_210 : zm_cd 210 = zd_210 := rfl
theorem ml_210 : zm_ml 210 = 3 := rfl
theorem ht_210 : zm_ht 210 = [] := rfl
theorem c_210_0 : (zm_cd 210)[0]? = some ((0, .iload_n 1, 1, 1, 0, 0, 0, 0, []) : zm_E) := (congrArg (fun l => l[0]?) cd_210).trans rfl
theorem c_210_1 : (zm_cd 210)[1]? = some ((1, .ifCond .lt 13, 3, 10, 0, 0, 0, 0, []) : zm_E) := (congrArg (fun l => l[1]?) cd_210).trans rfl
theorem c_210_2 : (zm_cd 210)[2]? = some ((4, .iload_n 1, 1, 1, 0, 0, 0, 0, []) : zm_E) := (congrArg (fun l => l[2]?) cd_210).trans rfl
theorem c_210_3 : (zm_cd 210)[3]? = some ((5, .aload_n 0, 1, 0, 0, 0, 0, 0, []) : zm_E) := (congrArg (fun l => l[3]?) cd_210).trans rfl
theorem c_210_4 : (zm_cd 210)[4]? = some ((6, .arraylength, 1, 0, 0, 0, 0, 0, []) : zm_E) := (congrArg (fun l => l[4]?) cd_210).trans rfl
theorem c_210_5 : (zm_cd 210)[5]? = some ((7, .if_icmp .ge 7, 3, 10, 0, 0, 0, 0, []) : zm_E) := (congrArg (fun l => l[5]?) cd_210).trans rfl
theorem c_210_6 : (zm_cd 210)[6]? = some ((10, .aload_n 0, 1, 0, 0, 0, 0, 0, []) : zm_E) := (congrArg (fun l => l[6]?) cd_210).trans rfl
theorem c_210_7 : (zm_cd 210)[7]? = some ((11, .iload_n 1, 1, 1, 0, 0, 0, 0, []) : zm_E) := (congrArg (fun l => l[7]?) cd_210).trans rfl
theorem c_210_8 : (zm_cd 210)[8]? = some ((12, .iload_n 2, 1, 2, 0, 0, 0, 0, []) : zm_E) := (congrArg (fun l => l[8]?) cd_210).trans rfl
theorem c_210_9 : (zm_cd 210)[9]? = some ((13, .iastore, 1, 0, 0, 0, 0, 0, []) : zm_E) := (congrArg (fun l => l[9]?) cd_210).trans rfl
theorem c_210_10 : (zm_cd 210)[10]? = some ((14, .return_, 1, 0, 0, 0, 0, 0, []) : zm_E) := (congrArg (fun l => l[10]?) cd_210).trans rfl
theorem cd_211 : zm_cd 211 = zd_211 := rfl
theorem ml_211 : zm_ml 211 = 2 := rfl
theorem ht_211 : zm_ht 211 = [] := rfl
theorem c_211_0 : (zm_cd 211)[0]? = some ((0, .aload_n 0, 1, 0, 0, 0, 0, 0, []) : zm_E) := (congrArg (fun l => l[0]?) cd_211).trans rfl
theorem c_211_1 : (zm_cd 211)[1]? = some ((1, .iconst 0, 1, 0, 0, 0, 0, 0, []) : zm_E) := (congrArg (fun l => l[1]?) cd_211).trans rfl
theorem c_211_2 : (zm_cd 211)[2]? = some ((2, .aload_n 1, 1, 1, 0, 0, 0, 0, []) : zm_E) := (congrArg (fun l => l[2]?) cd_211).trans rfl
theorem c_211_3 : (zm_cd 211)[3]? = some ((3, .iconst 0, 1, 0, 0, 0, 0, 0, []) : zm_E) := (congrArg (fun l => l[3]?) cd_211).trans rfl
theorem c_211_4 : (zm_cd 211)[4]? = some ((4, .aload_n 0, 1, 0, 0, 0, 0, 0, []) : zm_E) := (congrArg (fun l => l[4]?) cd_211).trans rfl
theorem c_211_5 : (zm_cd 211)[5]? = some ((5, .arraylength, 1, 0, 0, 0, 0, 0, []) : zm_E) := (congrArg (fun l => l[5]?) cd_211).trans rfl
theorem c_211_6 : (zm_cd 211)[6]? = some ((6, .aload_n 1, 1, 1, 0, 0, 0, 0, []) : zm_E) := (congrArg (fun l => l[6]?) cd_211).trans rfl
theorem c_211_7 : (zm_cd 211)[7]? = some ((7, .arraylength, 1, 0, 0, 0, 0, 0, []) : zm_E) := (congrArg (fun l => l[7]?) cd_211).trans rfl
theorem c_211_8 : (zm_cd 211)[8]? = some ((8, .invokestatic 337, 3, 1003, 2, 1, 0, 0, []) : zm_E) := (congrArg (fun l => l[8]?) cd_211).trans rfl
theorem c_211_9 : (zm_cd 211)[9]? = some ((11, .invokestatic 342, 3, 1000, 5, 0, 0, 0, []) : zm_E) := (congrArg (fun l => l[9]?) cd_211).trans rfl
theorem c_211_10 : (zm_cd 211)[10]? = some ((14, .return_, 1, 0, 0, 0, 0, 0, []) : zm_E) := (congrArg (fun l => l[10]?) cd_211).trans rfl
theorem cd_212 : zm_cd 212 = zd_212 := rfl
theorem ml_212 : zm_ml 212 = 1 := rfl
theorem ht_212 : zm_ht 212 = [] := rfl
theorem c_212_0 : (zm_cd 212)[0]? = some ((0, .aload_n 0, 1, 0, 0, 0, 0, 0, []) : zm_E) := (congrArg (fun l => l[0]?) cd_212).trans rfl
theorem c_212_1 : (zm_cd 212)[1]? = some ((1, .getfield 16, 3, 0, 1, 0, 0, 0, []) : zm_E) := (congrArg (fun l => l[1]?) cd_212).trans rfl
theorem c_212_2 : (zm_cd 212)[2]? = some ((4, .ireturn, 1, 0, 0, 0, 0, 0, []) : zm_E) := (congrArg (fun l => l[2]?) cd_212).trans rfl
