/-! the instructions, by program, part 2 -/
theorem cd_89 : zm_cd 89 = zd_89 := rfl
theorem ml_89 : zm_ml 89 = 4 := rfl
theorem ht_89 : zm_ht 89 = [] := rfl
theorem c_89_0 : (zm_cd 89)[0]? = some ((0, .aload_n 0, 1, 0, 0, 0, 0, 0, []) : zm_E) := (congrArg (fun l => l[0]?) cd_89).trans rfl
theorem c_89_1 : (zm_cd 89)[1]? = some ((1, .iconst 0, 1, 0, 0, 0, 0, 0, []) : zm_E) := (congrArg (fun l => l[1]?) cd_89).trans rfl
theorem c_89_2 : (zm_cd 89)[2]? = some ((2, .putfield 71, 3, 8, 8, 0, 0, 0, []) : zm_E) := (congrArg (fun l => l[2]?) cd_89).trans rfl
theorem c_89_3 : (zm_cd 89)[3]? = some ((5, .bipush (-9), 2, 0, 0, 0, (-9), 0, []) : zm_E) := (congrArg (fun l => l[3]?) cd_89).trans rfl
theorem c_89_4 : (zm_cd 89)[4]? = some ((7, .istore_n 2, 1, 2, 0, 0, 0, 0, []) : zm_E) := (congrArg (fun l => l[4]?) cd_89).trans rfl
theorem c_89_5 : (zm_cd 89)[5]? = some ((8, .iconst 1, 1, 0, 0, 0, 1, 0, []) : zm_E) := (congrArg (fun l => l[5]?) cd_89).trans rfl
theorem c_89_6 : (zm_cd 89)[6]? = some ((9, .istore_n 3, 1, 3, 0, 0, 0, 0, []) : zm_E) := (congrArg (fun l => l[6]?) cd_89).trans rfl
theorem c_89_7 : (zm_cd 89)[7]? = some ((10, .iload_n 3, 1, 3, 0, 0, 0, 0, []) : zm_E) := (congrArg (fun l => l[7]?) cd_89).trans rfl
theorem c_89_8 : (zm_cd 89)[8]? = some ((11, .iconst 1, 1, 0, 0, 0, 1, 0, []) : zm_E) := (congrArg (fun l => l[8]?) cd_89).trans rfl
theorem c_89_9 : (zm_cd 89)[9]? = some ((12, .aload_n 0, 1, 0, 0, 0, 0, 0, []) : zm_E) := (congrArg (fun l => l[9]?) cd_89).trans rfl
theorem c_89_10 : (zm_cd 89)[10]? = some ((13, .getfield 7, 3, 8, 0, 1, 0, 0, []) : zm_E) := (congrArg (fun l => l[10]?) cd_89).trans rfl
theorem c_89_11 : (zm_cd 89)[11]? = some ((16, .iconst 0, 1, 0, 0, 0, 0, 0, []) : zm_E) := (congrArg (fun l => l[11]?) cd_89).trans rfl
theorem c_89_12 : (zm_cd 89)[12]? = some ((17, .iaload, 1, 0, 0, 0, 0, 0, []) : zm_E) := (congrArg (fun l => l[12]?) cd_89).trans rfl
theorem c_89_13 : (zm_cd 89)[13]? = some ((18, .ishl, 1, 0, 0, 0, 0, 0, []) : zm_E) := (congrArg (fun l => l[13]?) cd_89).trans rfl
theorem c_89_14 : (zm_cd 89)[14]? = some ((19, .if_icmp .ge 39, 3, 33, 0, 0, 0, 0, []) : zm_E) := (congrArg (fun l => l[14]?) cd_89).trans rfl
theorem c_89_15 : (zm_cd 89)[15]? = some ((22, .iload_n 2, 1, 2, 0, 0, 0, 0, []) : zm_E) := (congrArg (fun l => l[15]?) cd_89).trans rfl
theorem c_89_16 : (zm_cd 89)[16]? = some ((23, .ifCond .lt 14, 3, 22, 0, 0, 0, 0, []) : zm_E) := (congrArg (fun l => l[16]?) cd_89).trans rfl
theorem c_89_17 : (zm_cd 89)[17]? = some ((26, .iload_n 3, 1, 3, 0, 0, 0, 0, []) : zm_E) := (congrArg (fun l => l[17]?) cd_89).trans rfl
theorem c_89_18 : (zm_cd 89)[18]? = some ((27, .invokestatic 86, 3, 42, 1, 1, 0, 0, []) : zm_E) := (congrArg (fun l => l[18]?) cd_89).trans rfl
theorem c_89_19 : (zm_cd 89)[19]? = some ((30, .iload_n 2, 1, 2, 0, 0, 0, 0, []) : zm_E) := (congrArg (fun l => l[19]?) cd_89).trans rfl
theorem c_89_20 : (zm_cd 89)[20]? = some ((31, .invokestatic 86, 3, 42, 1, 1, 0, 0, []) : zm_E) := (congrArg (fun l => l[20]?) cd_89).trans rfl
theorem c_89_21 : (zm_cd 89)[21]? = some ((34, .if_icmp .ge 16, 3, 29, 0, 0, 0, 0, []) : zm_E) := (congrArg (fun l => l[21]?) cd_89).trans rfl
theorem c_89_22 : (zm_cd 89)[22]? = some ((37, .aload_n 0, 1, 0, 0, 0, 0, 0, []) : zm_E) := (congrArg (fun l => l[22]?) cd_89).trans rfl
theorem c_89_23 : (zm_cd 89)[23]? = some ((38, .iload_n 3, 1, 3, 0, 0, 0, 0, []) : zm_E) := (congrArg (fun l => l[23]?) cd_89).trans rfl
theorem c_89_24 : (zm_cd 89)[24]? = some ((39, .iload_n 1, 1, 1, 0, 0, 0, 0, []) : zm_E) := (congrArg (fun l => l[24]?) cd_89).trans rfl
theorem c_89_25 : (zm_cd 89)[25]? = some ((40, .invokevirtual 193, 3, 88, 2, 1, 0, 0, [8]) : zm_E) := (congrArg (fun l => l[25]?) cd_89).trans rfl
theorem c_89_26 : (zm_cd 89)[26]? = some ((43, .ifCond .eq 7, 3, 29, 0, 0, 0, 0, []) : zm_E) := (congrArg (fun l => l[26]?) cd_89).trans rfl
theorem c_89_27 : (zm_cd 89)[27]? = some ((46, .iload_n 3, 1, 3, 0, 0, 0, 0, []) : zm_E) := (congrArg (fun l => l[27]?) cd_89).trans rfl
theorem c_89_28 : (zm_cd 89)[28]? = some ((47, .goto 4, 3, 30, 0, 0, 0, 0, []) : zm_E) := (congrArg (fun l => l[28]?) cd_89).trans rfl
theorem c_89_29 : (zm_cd 89)[29]? = some ((50, .iload_n 2, 1, 2, 0, 0, 0, 0, []) : zm_E) := (congrArg (fun l => l[29]?) cd_89).trans rfl
theorem c_89_30 : (zm_cd 89)[30]? = some ((51, .istore_n 2, 1, 2, 0, 0, 0, 0, []) : zm_E) := (congrArg (fun l => l[30]?) cd_89).trans rfl
theorem c_89_31 : (zm_cd 89)[31]? = some ((52, .iinc 3 1, 3, 3, 0, 0, 1, 0, []) : zm_E) := (congrArg (fun l => l[31]?) cd_89).trans rfl
theorem c_89_32 : (zm_cd 89)[32]? = some ((55, .goto (-45), 3, 7, 0, 0, 0, 0, []) : zm_E) := (congrArg (fun l => l[32]?) cd_89).trans rfl
theorem c_89_33 : (zm_cd 89)[33]? = some ((58, .iload_n 2, 1, 2, 0, 0, 0, 0, []) : zm_E) := (congrArg (fun l => l[33]?) cd_89).trans rfl
theorem c_89_34 : (zm_cd 89)[34]? = some ((59, .ireturn, 1, 0, 0, 0, 0, 0, []) : zm_E) := (congrArg (fun l => l[34]?) cd_89).trans rfl
theorem cd_90 : zm_cd 90 = zd_90 := rfl
theorem ml_90 : zm_ml 90 = 4 := rfl
theorem ht_90 : zm_ht 90 = [] := rfl
theorem c_90_0 : (zm_cd 90)[0]? = some ((0, .iconst 0, 1, 0, 0, 0, 0, 0, []) : zm_E) := (congrArg (fun l => l[0]?) cd_90).trans rfl
theorem c_90_1 : (zm_cd 90)[1]? = some ((1, .istore_n 2, 1, 2, 0, 0, 0, 0, []) : zm_E) := (congrArg (fun l => l[1]?) cd_90).trans rfl
theorem c_90_2 : (zm_cd 90)[2]? = some ((2, .iconst 1, 1, 0, 0, 0, 1, 0, []) : zm_E) := (congrArg (fun l => l[2]?) cd_90).trans rfl
theorem c_90_3 : (zm_cd 90)[3]? = some ((3, .istore_n 3, 1, 3, 0, 0, 0, 0, []) : zm_E) := (congrArg (fun l => l[3]?) cd_90).trans rfl
theorem c_90_4 : (zm_cd 90)[4]? = some ((4, .iload_n 3, 1, 3, 0, 0, 0, 0, []) : zm_E) := (congrArg (fun l => l[4]?) cd_90).trans rfl
theorem c_90_5 : (zm_cd 90)[5]? = some ((5, .iconst 1, 1, 0, 0, 0, 1, 0, []) : zm_E) := (congrArg (fun l => l[5]?) cd_90).trans rfl
theorem c_90_6 : (zm_cd 90)[6]? = some ((6, .aload_n 0, 1, 0, 0, 0, 0, 0, []) : zm_E) := (congrArg (fun l => l[6]?) cd_90).trans rfl
theorem c_90_7 : (zm_cd 90)[7]? = some ((7, .getfield 7, 3, 8, 0, 1, 0, 0, []) : zm_E) := (congrArg (fun l => l[7]?) cd_90).trans rfl
theorem c_90_8 : (zm_cd 90)[8]? = some ((10, .iconst 0, 1, 0, 0, 0, 0, 0, []) : zm_E) := (congrArg (fun l => l[8]?) cd_90).trans rfl
theorem c_90_9 : (zm_cd 90)[9]? = some ((11, .iaload, 1, 0, 0, 0, 0, 0, []) : zm_E) := (congrArg (fun l => l[9]?) cd_90).trans rfl
theorem c_90_10 : (zm_cd 90)[10]? = some ((12, .ishl, 1, 0, 0, 0, 0, 0, []) : zm_E) := (congrArg (fun l => l[10]?) cd_90).trans rfl
theorem c_90_11 : (zm_cd 90)[11]? = some ((13, .if_icmp .ge 26, 3, 25, 0, 0, 0, 0, []) : zm_E) := (congrArg (fun l => l[11]?) cd_90).trans rfl
theorem c_90_12 : (zm_cd 90)[12]? = some ((16, .iload_n 2, 1, 2, 0, 0, 0, 0, []) : zm_E) := (congrArg (fun l => l[12]?) cd_90).trans rfl
theorem c_90_13 : (zm_cd 90)[13]? = some ((17, .aload_n 0, 1, 0, 0, 0, 0, 0, []) : zm_E) := (congrArg (fun l => l[13]?) cd_90).trans rfl
theorem c_90_14 : (zm_cd 90)[14]? = some ((18, .iload_n 3, 1, 3, 0, 0, 0, 0, []) : zm_E) := (congrArg (fun l => l[14]?) cd_90).trans rfl
theorem c_90_15 : (zm_cd 90)[15]? = some ((19, .iload_n 1, 1, 1, 0, 0, 0, 0, []) : zm_E) := (congrArg (fun l => l[15]?) cd_90).trans rfl
theorem c_90_16 : (zm_cd 90)[16]? = some ((20, .invokevirtual 193, 3, 88, 2, 1, 0, 0, [8]) : zm_E) := (congrArg (fun l => l[16]?) cd_90).trans rfl
theorem c_90_17 : (zm_cd 90)[17]? = some ((23, .ifCond .eq 7, 3, 20, 0, 0, 0, 0, []) : zm_E) := (congrArg (fun l => l[17]?) cd_90).trans rfl
theorem c_90_18 : (zm_cd 90)[18]? = some ((26, .iconst 1, 1, 0, 0, 0, 1, 0, []) : zm_E) := (congrArg (fun l => l[18]?) cd_90).trans rfl
theorem c_90_19 : (zm_cd 90)[19]? = some ((27, .goto 4, 3, 21, 0, 0, 0, 0, []) : zm_E) := (congrArg (fun l => l[19]?) cd_90).trans rfl
theorem c_90_20 : (zm_cd 90)[20]? = some ((30, .iconst 0, 1, 0, 0, 0, 0, 0, []) : zm_E) := (congrArg (fun l => l[20]?) cd_90).trans rfl
theorem c_90_21 : (zm_cd 90)[21]? = some ((31, .iadd, 1, 0, 0, 0, 0, 0, []) : zm_E) := (congrArg (fun l => l[21]?) cd_90).trans rfl
theorem c_90_22 : (zm_cd 90)[22]? = some ((32, .istore_n 2, 1, 2, 0, 0, 0, 0, []) : zm_E) := (congrArg (fun l => l[22]?) cd_90).trans rfl
theorem c_90_23 : (zm_cd 90)[23]? = some ((33, .iinc 3 1, 3, 3, 0, 0, 1, 0, []) : zm_E) := (congrArg (fun l => l[23]?) cd_90).trans rfl
theorem c_90_24 : (zm_cd 90)[24]? = some ((36, .goto (-32), 3, 4, 0, 0, 0, 0, []) : zm_E) := (congrArg (fun l => l[24]?) cd_90).trans rfl
theorem c_90_25 : (zm_cd 90)[25]? = some ((39, .iload_n 2, 1, 2, 0, 0, 0, 0, []) : zm_E) := (congrArg (fun l => l[25]?) cd_90).trans rfl
theorem c_90_26 : (zm_cd 90)[26]? = some ((40, .ireturn, 1, 0, 0, 0, 0, 0, []) : zm_E) := (congrArg (fun l => l[26]?) cd_90).trans rfl
theorem cd_91 : zm_cd 91 = zd_91 := rfl
theorem ml_91 : zm_ml 91 = 2 := rfl
theorem ht_91 : zm_ht 91 = [] := rfl
theorem c_91_0 : (zm_cd 91)[0]? = some ((0, .aload_n 0, 1, 0, 0, 0, 0, 0, []) : zm_E) := (congrArg (fun l => l[0]?) cd_91).trans rfl
theorem c_91_1 : (zm_cd 91)[1]? = some ((1, .iconst 0, 1, 0, 0, 0, 0, 0, []) : zm_E) := (congrArg (fun l => l[1]?) cd_91).trans rfl
theorem c_91_2 : (zm_cd 91)[2]? = some ((2, .putfield 71, 3, 8, 8, 0, 0, 0, []) : zm_E) := (congrArg (fun l => l[2]?) cd_91).trans rfl
theorem c_91_3 : (zm_cd 91)[3]? = some ((5, .aload_n 0, 1, 0, 0, 0, 0, 0, []) : zm_E) := (congrArg (fun l => l[3]?) cd_91).trans rfl
theorem c_91_4 : (zm_cd 91)[4]? = some ((6, .iload_n 1, 1, 1, 0, 0, 0, 0, []) : zm_E) := (congrArg (fun l => l[4]?) cd_91).trans rfl
theorem c_91_5 : (zm_cd 91)[5]? = some ((7, .invokevirtual 197, 3, 90, 1, 1, 0, 0, [8]) : zm_E) := (congrArg (fun l => l[5]?) cd_91).trans rfl
theorem c_91_6 : (zm_cd 91)[6]? = some ((10, .ireturn, 1, 0, 0, 0, 0, 0, []) : zm_E) := (congrArg (fun l => l[6]?) cd_91).trans rfl
theorem cd_92 : zm_cd 92 = zd_92 := rfl
theorem ml_92 : zm_ml 92 = 1 := rfl
theorem ht_92 : zm_ht 92 = [] := rfl
theorem c_92_0 : (zm_cd 92)[0]? = some ((0, .iconst 1, 1, 0, 0, 0, 1, 0, []) : zm_E) := (congrArg (fun l => l[0]?) cd_92).trans rfl
theorem c_92_1 : (zm_cd 92)[1]? = some ((1, .aload_n 0, 1, 0, 0, 0, 0, 0, []) : zm_E) := (congrArg (fun l => l[1]?) cd_92).trans rfl
theorem c_92_2 : (zm_cd 92)[2]? = some ((2, .getfield 7, 3, 8, 0, 1, 0, 0, []) : zm_E) := (congrArg (fun l => l[2]?) cd_92).trans rfl
theorem c_92_3 : (zm_cd 92)[3]? = some ((5, .iconst 0, 1, 0, 0, 0, 0, 0, []) : zm_E) := (congrArg (fun l => l[3]?) cd_92).trans rfl
theorem c_92_4 : (zm_cd 92)[4]? = some ((6, .iaload, 1, 0, 0, 0, 0, 0, []) : zm_E) := (congrArg (fun l => l[4]?) cd_92).trans rfl
theorem c_92_5 : (zm_cd 92)[5]? = some ((7, .ishl, 1, 0, 0, 0, 0, 0, []) : zm_E) := (congrArg (fun l => l[5]?) cd_92).trans rfl
theorem c_92_6 : (zm_cd 92)[6]? = some ((8, .iconst 1, 1, 0, 0, 0, 1, 0, []) : zm_E) := (congrArg (fun l => l[6]?) cd_92).trans rfl
theorem c_92_7 : (zm_cd 92)[7]? = some ((9, .isub, 1, 0, 0, 0, 0, 0, []) : zm_E) := (congrArg (fun l => l[7]?) cd_92).trans rfl
theorem c_92_8 : (zm_cd 92)[8]? = some ((10, .aload_n 0, 1, 0, 0, 0, 0, 0, []) : zm_E) := (congrArg (fun l => l[8]?) cd_92).trans rfl
theorem c_92_9 : (zm_cd 92)[9]? = some ((11, .getfield 7, 3, 8, 0, 1, 0, 0, []) : zm_E) := (congrArg (fun l => l[9]?) cd_92).trans rfl
theorem c_92_10 : (zm_cd 92)[10]? = some ((14, .iconst 1, 1, 0, 0, 0, 1, 0, []) : zm_E) := (congrArg (fun l => l[10]?) cd_92).trans rfl
theorem c_92_11 : (zm_cd 92)[11]? = some ((15, .iaload, 1, 0, 0, 0, 0, 0, []) : zm_E) := (congrArg (fun l => l[11]?) cd_92).trans rfl
theorem c_92_12 : (zm_cd 92)[12]? = some ((16, .iconst (-1), 1, 0, 0, 0, (-1), 0, []) : zm_E) := (congrArg (fun l => l[12]?) cd_92).trans rfl
theorem c_92_13 : (zm_cd 92)[13]? = some ((17, .ixor, 1, 0, 0, 0, 0, 0, []) : zm_E) := (congrArg (fun l => l[13]?) cd_92).trans rfl
theorem c_92_14 : (zm_cd 92)[14]? = some ((18, .iand, 1, 0, 0, 0, 0, 0, []) : zm_E) := (congrArg (fun l => l[14]?) cd_92).trans rfl
theorem c_92_15 : (zm_cd 92)[15]? = some ((19, .ireturn, 1, 0, 0, 0, 0, 0, []) : zm_E) := (congrArg (fun l => l[15]?) cd_92).trans rfl
theorem cd_93 : zm_cd 93 = zd_93 := rfl
theorem ml_93 : zm_ml 93 = 3 := rfl
theorem ht_93 : zm_ht 93 = [] := rfl
theorem c_93_0 : (zm_cd 93)[0]? = some ((0, .iconst 0, 1, 0, 0, 0, 0, 0, []) : zm_E) := (congrArg (fun l => l[0]?) cd_93).trans rfl
theorem c_93_1 : (zm_cd 93)[1]? = some ((1, .istore_n 1, 1, 1, 0, 0, 0, 0, []) : zm_E) := (congrArg (fun l => l[1]?) cd_93).trans rfl
theorem c_93_2 : (zm_cd 93)[2]? = some ((2, .iconst 0, 1, 0, 0, 0, 0, 0, []) : zm_E) := (congrArg (fun l => l[2]?) cd_93).trans rfl
theorem c_93_3 : (zm_cd 93)[3]? = some ((3, .istore_n 2, 1, 2, 0, 0, 0, 0, []) : zm_E) := (congrArg (fun l => l[3]?) cd_93).trans rfl
theorem c_93_4 : (zm_cd 93)[4]? = some ((4, .iload_n 2, 1, 2, 0, 0, 0, 0, []) : zm_E) := (congrArg (fun l => l[4]?) cd_93).trans rfl
theorem c_93_5 : (zm_cd 93)[5]? = some ((5, .aload_n 0, 1, 0, 0, 0, 0, 0, []) : zm_E) := (congrArg (fun l => l[5]?) cd_93).trans rfl
theorem c_93_6 : (zm_cd 93)[6]? = some ((6, .getfield 7, 3, 8, 0, 1, 0, 0, []) : zm_E) := (congrArg (fun l => l[6]?) cd_93).trans rfl
theorem c_93_7 : (zm_cd 93)[7]? = some ((9, .iconst 0, 1, 0, 0, 0, 0, 0, []) : zm_E) := (congrArg (fun l => l[7]?) cd_93).trans rfl
theorem c_93_8 : (zm_cd 93)[8]? = some ((10, .iaload, 1, 0, 0, 0, 0, 0, []) : zm_E) := (congrArg (fun l => l[8]?) cd_93).trans rfl
theorem c_93_9 : (zm_cd 93)[9]? = some ((11, .if_icmp .ge 31, 3, 26, 0, 0, 0, 0, []) : zm_E) := (congrArg (fun l => l[9]?) cd_93).trans rfl
theorem c_93_10 : (zm_cd 93)[10]? = some ((14, .iload_n 1, 1, 1, 0, 0, 0, 0, []) : zm_E) := (congrArg (fun l => l[10]?) cd_93).trans rfl
theorem c_93_11 : (zm_cd 93)[11]? = some ((15, .aload_n 0, 1, 0, 0, 0, 0, 0, []) : zm_E) := (congrArg (fun l => l[11]?) cd_93).trans rfl
theorem c_93_12 : (zm_cd 93)[12]? = some ((16, .iload_n 2, 1, 2, 0, 0, 0, 0, []) : zm_E) := (congrArg (fun l => l[12]?) cd_93).trans rfl
theorem c_93_13 : (zm_cd 93)[13]? = some ((17, .invokevirtual 97, 3, 48, 1, 1, 0, 0, [8]) : zm_E) := (congrArg (fun l => l[13]?) cd_93).trans rfl
theorem c_93_14 : (zm_cd 93)[14]? = some ((20, .ifCond .eq 13, 3, 21, 0, 0, 0, 0, []) : zm_E) := (congrArg (fun l => l[14]?) cd_93).trans rfl
theorem c_93_15 : (zm_cd 93)[15]? = some ((23, .iconst 1, 1, 0, 0, 0, 1, 0, []) : zm_E) := (congrArg (fun l => l[15]?) cd_93).trans rfl
theorem c_93_16 : (zm_cd 93)[16]? = some ((24, .aload_n 0, 1, 0, 0, 0, 0, 0, []) : zm_E) := (congrArg (fun l => l[16]?) cd_93).trans rfl
theorem c_93_17 : (zm_cd 93)[17]? = some ((25, .iload_n 2, 1, 2, 0, 0, 0, 0, []) : zm_E) := (congrArg (fun l => l[17]?) cd_93).trans rfl
theorem c_93_18 : (zm_cd 93)[18]? = some ((26, .invokevirtual 90, 3, 50, 1, 1, 0, 0, [8]) : zm_E) := (congrArg (fun l => l[18]?) cd_93).trans rfl
theorem c_93_19 : (zm_cd 93)[19]? = some ((29, .ishl, 1, 0, 0, 0, 0, 0, []) : zm_E) := (congrArg (fun l => l[19]?) cd_93).trans rfl
theorem c_93_20 : (zm_cd 93)[20]? = some ((30, .goto 4, 3, 22, 0, 0, 0, 0, []) : zm_E) := (congrArg (fun l => l[20]?) cd_93).trans rfl
theorem c_93_21 : (zm_cd 93)[21]? = some ((33, .iconst 0, 1, 0, 0, 0, 0, 0, []) : zm_E) := (congrArg (fun l => l[21]?) cd_93).trans rfl
theorem c_93_22 : (zm_cd 93)[22]? = some ((34, .ior, 1, 0, 0, 0, 0, 0, []) : zm_E) := (congrArg (fun l => l[22]?) cd_93).trans rfl
theorem c_93_23 : (zm_cd 93)[23]? = some ((35, .istore_n 1, 1, 1, 0, 0, 0, 0, []) : zm_E) := (congrArg (fun l => l[23]?) cd_93).trans rfl
theorem c_93_24 : (zm_cd 93)[24]? = some ((36, .iinc 2 1, 3, 2, 0, 0, 1, 0, []) : zm_E) := (congrArg (fun l => l[24]?) cd_93).trans rfl
theorem c_93_25 : (zm_cd 93)[25]? = some ((39, .goto (-35), 3, 4, 0, 0, 0, 0, []) : zm_E) := (congrArg (fun l => l[25]?) cd_93).trans rfl
theorem c_93_26 : (zm_cd 93)[26]? = some ((42, .iload_n 1, 1, 1, 0, 0, 0, 0, []) : zm_E) := (congrArg (fun l => l[26]?) cd_93).trans rfl
theorem c_93_27 : (zm_cd 93)[27]? = some ((43, .ireturn, 1, 0, 0, 0, 0, 0, []) : zm_E) := (congrArg (fun l => l[27]?) cd_93).trans rfl
theorem cd_94 : zm_cd 94 = zd_94 := rfl
theorem ml_94 : zm_ml 94 = 7 := rfl
theorem ht_94 : zm_ht 94 = [] := rfl
theorem c_94_0 : (zm_cd 94)[0]? = some ((0, .aload_n 0, 1, 0, 0, 0, 0, 0, []) : zm_E) := (congrArg (fun l => l[0]?) cd_94).trans rfl
theorem c_94_1 : (zm_cd 94)[1]? = some ((1, .invokevirtual 201, 3, 93, 0, 1, 0, 0, [8]) : zm_E) := (congrArg (fun l => l[1]?) cd_94).trans rfl
theorem c_94_2 : (zm_cd 94)[2]? = some ((4, .istore_n 1, 1, 1, 0, 0, 0, 0, []) : zm_E) := (congrArg (fun l => l[2]?) cd_94).trans rfl
theorem c_94_3 : (zm_cd 94)[3]? = some ((5, .iconst 0, 1, 0, 0, 0, 0, 0, []) : zm_E) := (congrArg (fun l => l[3]?) cd_94).trans rfl
theorem c_94_4 : (zm_cd 94)[4]? = some ((6, .istore_n 2, 1, 2, 0, 0, 0, 0, []) : zm_E) := (congrArg (fun l => l[4]?) cd_94).trans rfl
theorem c_94_5 : (zm_cd 94)[5]? = some ((7, .iconst 0, 1, 0, 0, 0, 0, 0, []) : zm_E) := (congrArg (fun l => l[5]?) cd_94).trans rfl
theorem c_94_6 : (zm_cd 94)[6]? = some ((8, .istore_n 3, 1, 3, 0, 0, 0, 0, []) : zm_E) := (congrArg (fun l => l[6]?) cd_94).trans rfl
theorem c_94_7 : (zm_cd 94)[7]? = some ((9, .iload_n 3, 1, 3, 0, 0, 0, 0, []) : zm_E) := (congrArg (fun l => l[7]?) cd_94).trans rfl
theorem c_94_8 : (zm_cd 94)[8]? = some ((10, .aload_n 0, 1, 0, 0, 0, 0, 0, []) : zm_E) := (congrArg (fun l => l[8]?) cd_94).trans rfl
theorem c_94_9 : (zm_cd 94)[9]? = some ((11, .getfield 7, 3, 8, 0, 1, 0, 0, []) : zm_E) := (congrArg (fun l => l[9]?) cd_94).trans rfl
theorem c_94_10 : (zm_cd 94)[10]? = some ((14, .iconst 0, 1, 0, 0, 0, 0, 0, []) : zm_E) := (congrArg (fun l => l[10]?) cd_94).trans rfl
theorem c_94_11 : (zm_cd 94)[11]? = some ((15, .iaload, 1, 0, 0, 0, 0, 0, []) : zm_E) := (congrArg (fun l => l[11]?) cd_94).trans rfl
theorem c_94_12 : (zm_cd 94)[12]? = some ((16, .if_icmp .ge 27, 3, 25, 0, 0, 0, 0, []) : zm_E) := (congrArg (fun l => l[12]?) cd_94).trans rfl
theorem c_94_13 : (zm_cd 94)[13]? = some ((19, .aload_n 0, 1, 0, 0, 0, 0, 0, []) : zm_E) := (congrArg (fun l => l[13]?) cd_94).trans rfl
theorem c_94_14 : (zm_cd 94)[14]? = some ((20, .iload_n 3, 1, 3, 0, 0, 0, 0, []) : zm_E) := (congrArg (fun l => l[14]?) cd_94).trans rfl
theorem c_94_15 : (zm_cd 94)[15]? = some ((21, .invokevirtual 97, 3, 48, 1, 1, 0, 0, [8]) : zm_E) := (congrArg (fun l => l[15]?) cd_94).trans rfl
theorem c_94_16 : (zm_cd 94)[16]? = some ((24, .ifCond .eq 13, 3, 23, 0, 0, 0, 0, []) : zm_E) := (congrArg (fun l => l[16]?) cd_94).trans rfl
theorem c_94_17 : (zm_cd 94)[17]? = some ((27, .aload_n 0, 1, 0, 0, 0, 0, 0, []) : zm_E) := (congrArg (fun l => l[17]?) cd_94).trans rfl
theorem c_94_18 : (zm_cd 94)[18]? = some ((28, .getfield 59, 3, 8, 23, 1, 0, 0, []) : zm_E) := (congrArg (fun l => l[18]?) cd_94).trans rfl
theorem c_94_19 : (zm_cd 94)[19]? = some ((31, .iload_n 2, 1, 2, 0, 0, 0, 0, []) : zm_E) := (congrArg (fun l => l[19]?) cd_94).trans rfl
theorem c_94_20 : (zm_cd 94)[20]? = some ((32, .iload_n 3, 1, 3, 0, 0, 0, 0, []) : zm_E) := (congrArg (fun l => l[20]?) cd_94).trans rfl
theorem c_94_21 : (zm_cd 94)[21]? = some ((33, .iastore, 1, 0, 0, 0, 0, 0, []) : zm_E) := (congrArg (fun l => l[21]?) cd_94).trans rfl
theorem c_94_22 : (zm_cd 94)[22]? = some ((34, .iinc 2 1, 3, 2, 0, 0, 1, 0, []) : zm_E) := (congrArg (fun l => l[22]?) cd_94).trans rfl
theorem c_94_23 : (zm_cd 94)[23]? = some ((37, .iinc 3 1, 3, 3, 0, 0, 1, 0, []) : zm_E) := (congrArg (fun l => l[23]?) cd_94).trans rfl
theorem c_94_24 : (zm_cd 94)[24]? = some ((40, .goto (-31), 3, 7, 0, 0, 0, 0, []) : zm_E) := (congrArg (fun l => l[24]?) cd_94).trans rfl
theorem c_94_25 : (zm_cd 94)[25]? = some ((43, .bipush 127, 2, 0, 0, 0, 127, 0, []) : zm_E) := (congrArg (fun l => l[25]?) cd_94).trans rfl
theorem c_94_26 : (zm_cd 94)[26]? = some ((45, .istore_n 3, 1, 3, 0, 0, 0, 0, []) : zm_E) := (congrArg (fun l => l[26]?) cd_94).trans rfl
theorem c_94_27 : (zm_cd 94)[27]? = some ((46, .iload_n 3, 1, 3, 0, 0, 0, 0, []) : zm_E) := (congrArg (fun l => l[27]?) cd_94).trans rfl
theorem c_94_28 : (zm_cd 94)[28]? = some ((47, .ifCond .lt 140, 3, 106, 0, 0, 0, 0, []) : zm_E) := (congrArg (fun l => l[28]?) cd_94).trans rfl
theorem c_94_29 : (zm_cd 94)[29]? = some ((50, .aload_n 0, 1, 0, 0, 0, 0, 0, []) : zm_E) := (congrArg (fun l => l[29]?) cd_94).trans rfl
theorem c_94_30 : (zm_cd 94)[30]? = some ((51, .getfield 56, 3, 8, 22, 1, 0, 0, []) : zm_E) := (congrArg (fun l => l[30]?) cd_94).trans rfl
theorem c_94_31 : (zm_cd 94)[31]? = some ((54, .iload_n 3, 1, 3, 0, 0, 0, 0, []) : zm_E) := (congrArg (fun l => l[31]?) cd_94).trans rfl
theorem c_94_32 : (zm_cd 94)[32]? = some ((55, .iload_n 3, 1, 3, 0, 0, 0, 0, []) : zm_E) := (congrArg (fun l => l[32]?) cd_94).trans rfl
theorem c_94_33 : (zm_cd 94)[33]? = some ((56, .iload_n 1, 1, 1, 0, 0, 0, 0, []) : zm_E) := (congrArg (fun l => l[33]?) cd_94).trans rfl
theorem c_94_34 : (zm_cd 94)[34]? = some ((57, .if_icmp .ne 7, 3, 37, 0, 0, 0, 0, []) : zm_E) := (congrArg (fun l => l[34]?) cd_94).trans rfl
theorem c_94_35 : (zm_cd 94)[35]? = some ((60, .iconst 0, 1, 0, 0, 0, 0, 0, []) : zm_E) := (congrArg (fun l => l[35]?) cd_94).trans rfl
theorem c_94_36 : (zm_cd 94)[36]? = some ((61, .goto 6, 3, 38, 0, 0, 0, 0, []) : zm_E) := (congrArg (fun l => l[36]?) cd_94).trans rfl
theorem c_94_37 : (zm_cd 94)[37]? = some ((64, .sipush 1000, 3, 0, 0, 0, 1000, 0, []) : zm_E) := (congrArg (fun l => l[37]?) cd_94).trans rfl
theorem c_94_38 : (zm_cd 94)[38]? = some ((67, .iastore, 1, 0, 0, 0, 0, 0, []) : zm_E) := (congrArg (fun l => l[38]?) cd_94).trans rfl
theorem c_94_39 : (zm_cd 94)[39]? = some ((68, .iload_n 3, 1, 3, 0, 0, 0, 0, []) : zm_E) := (congrArg (fun l => l[39]?) cd_94).trans rfl
theorem c_94_40 : (zm_cd 94)[40]? = some ((69, .iload_n 1, 1, 1, 0, 0, 0, 0, []) : zm_E) := (congrArg (fun l => l[40]?) cd_94).trans rfl
theorem c_94_41 : (zm_cd 94)[41]? = some ((70, .iconst (-1), 1, 0, 0, 0, (-1), 0, []) : zm_E) := (congrArg (fun l => l[41]?) cd_94).trans rfl
theorem c_94_42 : (zm_cd 94)[42]? = some ((71, .ixor, 1, 0, 0, 0, 0, 0, []) : zm_E) := (congrArg (fun l => l[42]?) cd_94).trans rfl
theorem c_94_43 : (zm_cd 94)[43]? = some ((72, .iand, 1, 0, 0, 0, 0, 0, []) : zm_E) := (congrArg (fun l => l[43]?) cd_94).trans rfl
theorem c_94_44 : (zm_cd 94)[44]? = some ((73, .ifCond .ne 108, 3, 104, 0, 0, 0, 0, []) : zm_E) := (congrArg (fun l => l[44]?) cd_94).trans rfl
theorem c_94_45 : (zm_cd 94)[45]? = some ((76, .iload_n 3, 1, 3, 0, 0, 0, 0, []) : zm_E) := (congrArg (fun l => l[45]?) cd_94).trans rfl
theorem c_94_46 : (zm_cd 94)[46]? = some ((77, .iload_n 1, 1, 1, 0, 0, 0, 0, []) : zm_E) := (congrArg (fun l => l[46]?) cd_94).trans rfl
theorem c_94_47 : (zm_cd 94)[47]? = some ((78, .if_icmp .eq 103, 3, 104, 0, 0, 0, 0, []) : zm_E) := (congrArg (fun l => l[47]?) cd_94).trans rfl
theorem c_94_48 : (zm_cd 94)[48]? = some ((81, .aload_n 0, 1, 0, 0, 0, 0, 0, []) : zm_E) := (congrArg (fun l => l[48]?) cd_94).trans rfl
theorem c_94_49 : (zm_cd 94)[49]? = some ((82, .getfield 59, 3, 8, 23, 1, 0, 0, []) : zm_E) := (congrArg (fun l => l[49]?) cd_94).trans rfl
theorem c_94_50 : (zm_cd 94)[50]? = some ((85, .iload_n 3, 1, 3, 0, 0, 0, 0, []) : zm_E) := (congrArg (fun l => l[50]?) cd_94).trans rfl
theorem c_94_51 : (zm_cd 94)[51]? = some ((86, .invokestatic 86, 3, 42, 1, 1, 0, 0, []) : zm_E) := (congrArg (fun l => l[51]?) cd_94).trans rfl
theorem c_94_52 : (zm_cd 94)[52]? = some ((89, .iaload, 1, 0, 0, 0, 0, 0, []) : zm_E) := (congrArg (fun l => l[52]?) cd_94).trans rfl
theorem c_94_53 : (zm_cd 94)[53]? = some ((90, .istore 4, 2, 4, 0, 0, 0, 0, []) : zm_E) := (congrArg (fun l => l[53]?) cd_94).trans rfl
theorem c_94_54 : (zm_cd 94)[54]? = some ((92, .iconst 0, 1, 0, 0, 0, 0, 0, []) : zm_E) := (congrArg (fun l => l[54]?) cd_94).trans rfl
theorem c_94_55 : (zm_cd 94)[55]? = some ((93, .istore 5, 2, 5, 0, 0, 0, 0, []) : zm_E) := (congrArg (fun l => l[55]?) cd_94).trans rfl
theorem c_94_56 : (zm_cd 94)[56]? = some ((95, .iload 5, 2, 5, 0, 0, 0, 0, []) : zm_E) := (congrArg (fun l => l[56]?) cd_94).trans rfl
theorem c_94_57 : (zm_cd 94)[57]? = some ((97, .aload_n 0, 1, 0, 0, 0, 0, 0, []) : zm_E) := (congrArg (fun l => l[57]?) cd_94).trans rfl
theorem c_94_58 : (zm_cd 94)[58]? = some ((98, .getfield 7, 3, 8, 0, 1, 0, 0, []) : zm_E) := (congrArg (fun l => l[58]?) cd_94).trans rfl
theorem c_94_59 : (zm_cd 94)[59]? = some ((101, .iconst 0, 1, 0, 0, 0, 0, 0, []) : zm_E) := (congrArg (fun l => l[59]?) cd_94).trans rfl
theorem c_94_60 : (zm_cd 94)[60]? = some ((102, .iaload, 1, 0, 0, 0, 0, 0, []) : zm_E) := (congrArg (fun l => l[60]?) cd_94).trans rfl
theorem c_94_61 : (zm_cd 94)[61]? = some ((103, .if_icmp .ge 78, 3, 104, 0, 0, 0, 0, []) : zm_E) := (congrArg (fun l => l[61]?) cd_94).trans rfl
theorem c_94_62 : (zm_cd 94)[62]? = some ((106, .iload_n 1, 1, 1, 0, 0, 0, 0, []) : zm_E) := (congrArg (fun l => l[62]?) cd_94).trans rfl
theorem c_94_63 : (zm_cd 94)[63]? = some ((107, .iload_n 3, 1, 3, 0, 0, 0, 0, []) : zm_E) := (congrArg (fun l => l[63]?) cd_94).trans rfl
theorem c_94_64 : (zm_cd 94)[64]? = some ((108, .iconst (-1), 1, 0, 0, 0, (-1), 0, []) : zm_E) := (congrArg (fun l => l[64]?) cd_94).trans rfl
theorem c_94_65 : (zm_cd 94)[65]? = some ((109, .ixor, 1, 0, 0, 0, 0, 0, []) : zm_E) := (congrArg (fun l => l[65]?) cd_94).trans rfl
theorem c_94_66 : (zm_cd 94)[66]? = some ((110, .iand, 1, 0, 0, 0, 0, 0, []) : zm_E) := (congrArg (fun l => l[66]?) cd_94).trans rfl
theorem c_94_67 : (zm_cd 94)[67]? = some ((111, .iload 5, 2, 5, 0, 0, 0, 0, []) : zm_E) := (congrArg (fun l => l[67]?) cd_94).trans rfl
theorem c_94_68 : (zm_cd 94)[68]? = some ((113, .invokestatic 82, 3, 41, 2, 1, 0, 0, []) : zm_E) := (congrArg (fun l => l[68]?) cd_94).trans rfl
theorem c_94_69 : (zm_cd 94)[69]? = some ((116, .ifCond .eq 26, 3, 84, 0, 0, 0, 0, []) : zm_E) := (congrArg (fun l => l[69]?) cd_94).trans rfl
theorem c_94_70 : (zm_cd 94)[70]? = some ((119, .aload_n 0, 1, 0, 0, 0, 0, 0, []) : zm_E) := (congrArg (fun l => l[70]?) cd_94).trans rfl
theorem c_94_71 : (zm_cd 94)[71]? = some ((120, .iload 4, 2, 4, 0, 0, 0, 0, []) : zm_E) := (congrArg (fun l => l[71]?) cd_94).trans rfl
theorem c_94_72 : (zm_cd 94)[72]? = some ((122, .iload 5, 2, 5, 0, 0, 0, 0, []) : zm_E) := (congrArg (fun l => l[72]?) cd_94).trans rfl
theorem c_94_73 : (zm_cd 94)[73]? = some ((124, .invokevirtual 93, 3, 49, 2, 1, 0, 0, [8]) : zm_E) := (congrArg (fun l => l[73]?) cd_94).trans rfl
theorem c_94_74 : (zm_cd 94)[74]? = some ((127, .aload_n 0, 1, 0, 0, 0, 0, 0, []) : zm_E) := (congrArg (fun l => l[74]?) cd_94).trans rfl
theorem c_94_75 : (zm_cd 94)[75]? = some ((128, .getfield 56, 3, 8, 22, 1, 0, 0, []) : zm_E) := (congrArg (fun l => l[75]?) cd_94).trans rfl
theorem c_94_76 : (zm_cd 94)[76]? = some ((131, .iload_n 3, 1, 3, 0, 0, 0, 0, []) : zm_E) := (congrArg (fun l => l[76]?) cd_94).trans rfl
theorem c_94_77 : (zm_cd 94)[77]? = some ((132, .iconst 1, 1, 0, 0, 0, 1, 0, []) : zm_E) := (congrArg (fun l => l[77]?) cd_94).trans rfl
theorem c_94_78 : (zm_cd 94)[78]? = some ((133, .iload 5, 2, 5, 0, 0, 0, 0, []) : zm_E) := (congrArg (fun l => l[78]?) cd_94).trans rfl
theorem c_94_79 : (zm_cd 94)[79]? = some ((135, .ishl, 1, 0, 0, 0, 0, 0, []) : zm_E) := (congrArg (fun l => l[79]?) cd_94).trans rfl
theorem c_94_80 : (zm_cd 94)[80]? = some ((136, .ior, 1, 0, 0, 0, 0, 0, []) : zm_E) := (congrArg (fun l => l[80]?) cd_94).trans rfl
theorem c_94_81 : (zm_cd 94)[81]? = some ((137, .iaload, 1, 0, 0, 0, 0, 0, []) : zm_E) := (congrArg (fun l => l[81]?) cd_94).trans rfl
theorem c_94_82 : (zm_cd 94)[82]? = some ((138, .iadd, 1, 0, 0, 0, 0, 0, []) : zm_E) := (congrArg (fun l => l[82]?) cd_94).trans rfl
theorem c_94_83 : (zm_cd 94)[83]? = some ((139, .goto 6, 3, 85, 0, 0, 0, 0, []) : zm_E) := (congrArg (fun l => l[83]?) cd_94).trans rfl
theorem c_94_84 : (zm_cd 94)[84]? = some ((142, .sipush 1000, 3, 0, 0, 0, 1000, 0, []) : zm_E) := (congrArg (fun l => l[84]?) cd_94).trans rfl
theorem c_94_85 : (zm_cd 94)[85]? = some ((145, .istore 6, 2, 6, 0, 0, 0, 0, []) : zm_E) := (congrArg (fun l => l[85]?) cd_94).trans rfl
theorem c_94_86 : (zm_cd 94)[86]? = some ((147, .aload_n 0, 1, 0, 0, 0, 0, 0, []) : zm_E) := (congrArg (fun l => l[86]?) cd_94).trans rfl
theorem c_94_87 : (zm_cd 94)[87]? = some ((148, .getfield 56, 3, 8, 22, 1, 0, 0, []) : zm_E) := (congrArg (fun l => l[87]?) cd_94).trans rfl
theorem c_94_88 : (zm_cd 94)[88]? = some ((151, .iload_n 3, 1, 3, 0, 0, 0, 0, []) : zm_E) := (congrArg (fun l => l[88]?) cd_94).trans rfl
theorem c_94_89 : (zm_cd 94)[89]? = some ((152, .iload 6, 2, 6, 0, 0, 0, 0, []) : zm_E) := (congrArg (fun l => l[89]?) cd_94).trans rfl
theorem c_94_90 : (zm_cd 94)[90]? = some ((154, .aload_n 0, 1, 0, 0, 0, 0, 0, []) : zm_E) := (congrArg (fun l => l[90]?) cd_94).trans rfl
theorem c_94_91 : (zm_cd 94)[91]? = some ((155, .getfield 56, 3, 8, 22, 1, 0, 0, []) : zm_E) := (congrArg (fun l => l[91]?) cd_94).trans rfl
theorem c_94_92 : (zm_cd 94)[92]? = some ((158, .iload_n 3, 1, 3, 0, 0, 0, 0, []) : zm_E) := (congrArg (fun l => l[92]?) cd_94).trans rfl
theorem c_94_93 : (zm_cd 94)[93]? = some ((159, .iaload, 1, 0, 0, 0, 0, 0, []) : zm_E) := (congrArg (fun l => l[93]?) cd_94).trans rfl
theorem c_94_94 : (zm_cd 94)[94]? = some ((160, .if_icmp .ge 8, 3, 97, 0, 0, 0, 0, []) : zm_E) := (congrArg (fun l => l[94]?) cd_94).trans rfl
theorem c_94_95 : (zm_cd 94)[95]? = some ((163, .iload 6, 2, 6, 0, 0, 0, 0, []) : zm_E) := (congrArg (fun l => l[95]?) cd_94).trans rfl
theorem c_94_96 : (zm_cd 94)[96]? = some ((165, .goto 9, 3, 101, 0, 0, 0, 0, []) : zm_E) := (congrArg (fun l => l[96]?) cd_94).trans rfl
theorem c_94_97 : (zm_cd 94)[97]? = some ((168, .aload_n 0, 1, 0, 0, 0, 0, 0, []) : zm_E) := (congrArg (fun l => l[97]?) cd_94).trans rfl
theorem c_94_98 : (zm_cd 94)[98]? = some ((169, .getfield 56, 3, 8, 22, 1, 0, 0, []) : zm_E) := (congrArg (fun l => l[98]?) cd_94).trans rfl
theorem c_94_99 : (zm_cd 94)[99]? = some ((172, .iload_n 3, 1, 3, 0, 0, 0, 0, []) : zm_E) := (congrArg (fun l => l[99]?) cd_94).trans rfl
theorem c_94_100 : (zm_cd 94)[100]? = some ((173, .iaload, 1, 0, 0, 0, 0, 0, []) : zm_E) := (congrArg (fun l => l[100]?) cd_94).trans rfl
theorem c_94_101 : (zm_cd 94)[101]? = some ((174, .iastore, 1, 0, 0, 0, 0, 0, []) : zm_E) := (congrArg (fun l => l[101]?) cd_94).trans rfl
theorem c_94_102 : (zm_cd 94)[102]? = some ((175, .iinc 5 1, 3, 5, 0, 0, 1, 0, []) : zm_E) := (congrArg (fun l => l[102]?) cd_94).trans rfl
theorem c_94_103 : (zm_cd 94)[103]? = some ((178, .goto (-83), 3, 56, 0, 0, 0, 0, []) : zm_E) := (congrArg (fun l => l[103]?) cd_94).trans rfl
theorem c_94_104 : (zm_cd 94)[104]? = some ((181, .iinc 3 (-1), 3, 3, 0, 0, (-1), 0, []) : zm_E) := (congrArg (fun l => l[104]?) cd_94).trans rfl
theorem c_94_105 : (zm_cd 94)[105]? = some ((184, .goto (-138), 3, 27, 0, 0, 0, 0, []) : zm_E) := (congrArg (fun l => l[105]?) cd_94).trans rfl
theorem c_94_106 : (zm_cd 94)[106]? = some ((187, .iload_n 2, 1, 2, 0, 0, 0, 0, []) : zm_E) := (congrArg (fun l => l[106]?) cd_94).trans rfl
theorem c_94_107 : (zm_cd 94)[107]? = some ((188, .ireturn, 1, 0, 0, 0, 0, 0, []) : zm_E) := (congrArg (fun l => l[107]?) cd_94).trans rfl
theorem cd_95 : zm_cd 95 = zd_95 := rfl
theorem ml_95 : zm_ml 95 = 1 := rfl
theorem ht_95 : zm_ht 95 = [] := rfl
theorem c_95_0 : (zm_cd 95)[0]? = some ((0, .aload_n 0, 1, 0, 0, 0, 0, 0, []) : zm_E) := (congrArg (fun l => l[0]?) cd_95).trans rfl
theorem c_95_1 : (zm_cd 95)[1]? = some ((1, .iconst 0, 1, 0, 0, 0, 0, 0, []) : zm_E) := (congrArg (fun l => l[1]?) cd_95).trans rfl
theorem c_95_2 : (zm_cd 95)[2]? = some ((2, .putfield 71, 3, 8, 8, 0, 0, 0, []) : zm_E) := (congrArg (fun l => l[2]?) cd_95).trans rfl
theorem c_95_3 : (zm_cd 95)[3]? = some ((5, .aload_n 0, 1, 0, 0, 0, 0, 0, []) : zm_E) := (congrArg (fun l => l[3]?) cd_95).trans rfl
theorem c_95_4 : (zm_cd 95)[4]? = some ((6, .invokevirtual 204, 3, 94, 0, 1, 0, 0, [8]) : zm_E) := (congrArg (fun l => l[4]?) cd_95).trans rfl
theorem c_95_5 : (zm_cd 95)[5]? = some ((9, .pop, 1, 0, 0, 0, 0, 0, []) : zm_E) := (congrArg (fun l => l[5]?) cd_95).trans rfl
theorem c_95_6 : (zm_cd 95)[6]? = some ((10, .aload_n 0, 1, 0, 0, 0, 0, 0, []) : zm_E) := (congrArg (fun l => l[6]?) cd_95).trans rfl
theorem c_95_7 : (zm_cd 95)[7]? = some ((11, .getfield 56, 3, 8, 22, 1, 0, 0, []) : zm_E) := (congrArg (fun l => l[7]?) cd_95).trans rfl
theorem c_95_8 : (zm_cd 95)[8]? = some ((14, .iconst 0, 1, 0, 0, 0, 0, 0, []) : zm_E) := (congrArg (fun l => l[8]?) cd_95).trans rfl
theorem c_95_9 : (zm_cd 95)[9]? = some ((15, .iaload, 1, 0, 0, 0, 0, 0, []) : zm_E) := (congrArg (fun l => l[9]?) cd_95).trans rfl
theorem c_95_10 : (zm_cd 95)[10]? = some ((16, .ireturn, 1, 0, 0, 0, 0, 0, []) : zm_E) := (congrArg (fun l => l[10]?) cd_95).trans rfl
theorem cd_96 : zm_cd 96 = zd_96 := rfl
theorem ml_96 : zm_ml 96 = 8 := rfl
theorem ht_96 : zm_ht 96 = [] := rfl
theorem c_96_0 : (zm_cd 96)[0]? = some ((0, .aload_n 0, 1, 0, 0, 0, 0, 0, []) : zm_E) := (congrArg (fun l => l[0]?) cd_96).trans rfl
theorem c_96_1 : (zm_cd 96)[1]? = some ((1, .iconst 0, 1, 0, 0, 0, 0, 0, []) : zm_E) := (congrArg (fun l => l[1]?) cd_96).trans rfl
theorem c_96_2 : (zm_cd 96)[2]? = some ((2, .putfield 71, 3, 8, 8, 0, 0, 0, []) : zm_E) := (congrArg (fun l => l[2]?) cd_96).trans rfl
theorem c_96_3 : (zm_cd 96)[3]? = some ((5, .aload_n 0, 1, 0, 0, 0, 0, 0, []) : zm_E) := (congrArg (fun l => l[3]?) cd_96).trans rfl
theorem c_96_4 : (zm_cd 96)[4]? = some ((6, .iload_n 1, 1, 1, 0, 0, 0, 0, []) : zm_E) := (congrArg (fun l => l[4]?) cd_96).trans rfl
theorem c_96_5 : (zm_cd 96)[5]? = some ((7, .invokevirtual 157, 3, 47, 1, 1, 0, 0, [8]) : zm_E) := (congrArg (fun l => l[5]?) cd_96).trans rfl
theorem c_96_6 : (zm_cd 96)[6]? = some ((10, .ifCond .ne 9, 3, 11, 0, 0, 0, 0, []) : zm_E) := (congrArg (fun l => l[6]?) cd_96).trans rfl
theorem c_96_7 : (zm_cd 96)[7]? = some ((13, .aload_n 0, 1, 0, 0, 0, 0, 0, []) : zm_E) := (congrArg (fun l => l[7]?) cd_96).trans rfl
theorem c_96_8 : (zm_cd 96)[8]? = some ((14, .iconst 1, 1, 0, 0, 0, 1, 0, []) : zm_E) := (congrArg (fun l => l[8]?) cd_96).trans rfl
theorem c_96_9 : (zm_cd 96)[9]? = some ((15, .invokevirtual 119, 3, 43, 1, 1, 0, 0, [8]) : zm_E) := (congrArg (fun l => l[9]?) cd_96).trans rfl
theorem c_96_10 : (zm_cd 96)[10]? = some ((18, .ireturn, 1, 0, 0, 0, 0, 0, []) : zm_E) := (congrArg (fun l => l[10]?) cd_96).trans rfl
theorem c_96_11 : (zm_cd 96)[11]? = some ((19, .aload_n 0, 1, 0, 0, 0, 0, 0, []) : zm_E) := (congrArg (fun l => l[11]?) cd_96).trans rfl
theorem c_96_12 : (zm_cd 96)[12]? = some ((20, .iload_n 1, 1, 1, 0, 0, 0, 0, []) : zm_E) := (congrArg (fun l => l[12]?) cd_96).trans rfl
theorem c_96_13 : (zm_cd 96)[13]? = some ((21, .invokevirtual 97, 3, 48, 1, 1, 0, 0, [8]) : zm_E) := (congrArg (fun l => l[13]?) cd_96).trans rfl
theorem c_96_14 : (zm_cd 96)[14]? = some ((24, .ifCond .ne 6, 3, 17, 0, 0, 0, 0, []) : zm_E) := (congrArg (fun l => l[14]?) cd_96).trans rfl
theorem c_96_15 : (zm_cd 96)[15]? = some ((27, .bipush (-9), 2, 0, 0, 0, (-9), 0, []) : zm_E) := (congrArg (fun l => l[15]?) cd_96).trans rfl
theorem c_96_16 : (zm_cd 96)[16]? = some ((29, .ireturn, 1, 0, 0, 0, 0, 0, []) : zm_E) := (congrArg (fun l => l[16]?) cd_96).trans rfl
theorem c_96_17 : (zm_cd 96)[17]? = some ((30, .aload_n 0, 1, 0, 0, 0, 0, 0, []) : zm_E) := (congrArg (fun l => l[17]?) cd_96).trans rfl
theorem c_96_18 : (zm_cd 96)[18]? = some ((31, .invokevirtual 204, 3, 94, 0, 1, 0, 0, [8]) : zm_E) := (congrArg (fun l => l[18]?) cd_96).trans rfl
theorem c_96_19 : (zm_cd 96)[19]? = some ((34, .istore_n 2, 1, 2, 0, 0, 0, 0, []) : zm_E) := (congrArg (fun l => l[19]?) cd_96).trans rfl
theorem c_96_20 : (zm_cd 96)[20]? = some ((35, .aload_n 0, 1, 0, 0, 0, 0, 0, []) : zm_E) := (congrArg (fun l => l[20]?) cd_96).trans rfl
theorem c_96_21 : (zm_cd 96)[21]? = some ((36, .invokevirtual 201, 3, 93, 0, 1, 0, 0, [8]) : zm_E) := (congrArg (fun l => l[21]?) cd_96).trans rfl
theorem c_96_22 : (zm_cd 96)[22]? = some ((39, .istore_n 3, 1, 3, 0, 0, 0, 0, []) : zm_E) := (congrArg (fun l => l[22]?) cd_96).trans rfl
theorem c_96_23 : (zm_cd 96)[23]? = some ((40, .iconst 0, 1, 0, 0, 0, 0, 0, []) : zm_E) := (congrArg (fun l => l[23]?) cd_96).trans rfl
theorem c_96_24 : (zm_cd 96)[24]? = some ((41, .istore 4, 2, 4, 0, 0, 0, 0, []) : zm_E) := (congrArg (fun l => l[24]?) cd_96).trans rfl
theorem c_96_25 : (zm_cd 96)[25]? = some ((43, .bipush (-9), 2, 0, 0, 0, (-9), 0, []) : zm_E) := (congrArg (fun l => l[25]?) cd_96).trans rfl
theorem c_96_26 : (zm_cd 96)[26]? = some ((45, .istore 5, 2, 5, 0, 0, 0, 0, []) : zm_E) := (congrArg (fun l => l[26]?) cd_96).trans rfl
theorem c_96_27 : (zm_cd 96)[27]? = some ((47, .iconst 0, 1, 0, 0, 0, 0, 0, []) : zm_E) := (congrArg (fun l => l[27]?) cd_96).trans rfl
theorem c_96_28 : (zm_cd 96)[28]? = some ((48, .istore 6, 2, 6, 0, 0, 0, 0, []) : zm_E) := (congrArg (fun l => l[28]?) cd_96).trans rfl
theorem c_96_29 : (zm_cd 96)[29]? = some ((50, .iload 6, 2, 6, 0, 0, 0, 0, []) : zm_E) := (congrArg (fun l => l[29]?) cd_96).trans rfl
theorem c_96_30 : (zm_cd 96)[30]? = some ((52, .iload_n 2, 1, 2, 0, 0, 0, 0, []) : zm_E) := (congrArg (fun l => l[30]?) cd_96).trans rfl
theorem c_96_31 : (zm_cd 96)[31]? = some ((53, .if_icmp .ge 92, 3, 81, 0, 0, 0, 0, []) : zm_E) := (congrArg (fun l => l[31]?) cd_96).trans rfl
theorem c_96_32 : (zm_cd 96)[32]? = some ((56, .aload_n 0, 1, 0, 0, 0, 0, 0, []) : zm_E) := (congrArg (fun l => l[32]?) cd_96).trans rfl
theorem c_96_33 : (zm_cd 96)[33]? = some ((57, .getfield 59, 3, 8, 23, 1, 0, 0, []) : zm_E) := (congrArg (fun l => l[33]?) cd_96).trans rfl
theorem c_96_34 : (zm_cd 96)[34]? = some ((60, .iload 6, 2, 6, 0, 0, 0, 0, []) : zm_E) := (congrArg (fun l => l[34]?) cd_96).trans rfl
theorem c_96_35 : (zm_cd 96)[35]? = some ((62, .iaload, 1, 0, 0, 0, 0, 0, []) : zm_E) := (congrArg (fun l => l[35]?) cd_96).trans rfl
theorem c_96_36 : (zm_cd 96)[36]? = some ((63, .iload_n 1, 1, 1, 0, 0, 0, 0, []) : zm_E) := (congrArg (fun l => l[36]?) cd_96).trans rfl
theorem c_96_37 : (zm_cd 96)[37]? = some ((64, .if_icmp .gt 81, 3, 81, 0, 0, 0, 0, []) : zm_E) := (congrArg (fun l => l[37]?) cd_96).trans rfl
theorem c_96_38 : (zm_cd 96)[38]? = some ((67, .iconst 0, 1, 0, 0, 0, 0, 0, []) : zm_E) := (congrArg (fun l => l[38]?) cd_96).trans rfl
theorem c_96_39 : (zm_cd 96)[39]? = some ((68, .istore 7, 2, 7, 0, 0, 0, 0, []) : zm_E) := (congrArg (fun l => l[39]?) cd_96).trans rfl
theorem c_96_40 : (zm_cd 96)[40]? = some ((70, .iload_n 3, 1, 3, 0, 0, 0, 0, []) : zm_E) := (congrArg (fun l => l[40]?) cd_96).trans rfl
theorem c_96_41 : (zm_cd 96)[41]? = some ((71, .iload 4, 2, 4, 0, 0, 0, 0, []) : zm_E) := (congrArg (fun l => l[41]?) cd_96).trans rfl
theorem c_96_42 : (zm_cd 96)[42]? = some ((73, .iconst (-1), 1, 0, 0, 0, (-1), 0, []) : zm_E) := (congrArg (fun l => l[42]?) cd_96).trans rfl
theorem c_96_43 : (zm_cd 96)[43]? = some ((74, .ixor, 1, 0, 0, 0, 0, 0, []) : zm_E) := (congrArg (fun l => l[43]?) cd_96).trans rfl
theorem c_96_44 : (zm_cd 96)[44]? = some ((75, .iand, 1, 0, 0, 0, 0, 0, []) : zm_E) := (congrArg (fun l => l[44]?) cd_96).trans rfl
theorem c_96_45 : (zm_cd 96)[45]? = some ((76, .iload 7, 2, 7, 0, 0, 0, 0, []) : zm_E) := (congrArg (fun l => l[45]?) cd_96).trans rfl
theorem c_96_46 : (zm_cd 96)[46]? = some ((78, .invokestatic 82, 3, 41, 2, 1, 0, 0, []) : zm_E) := (congrArg (fun l => l[46]?) cd_96).trans rfl
theorem c_96_47 : (zm_cd 96)[47]? = some ((81, .ifCond .eq 39, 3, 69, 0, 0, 0, 0, []) : zm_E) := (congrArg (fun l => l[47]?) cd_96).trans rfl
theorem c_96_48 : (zm_cd 96)[48]? = some ((84, .aload_n 0, 1, 0, 0, 0, 0, 0, []) : zm_E) := (congrArg (fun l => l[48]?) cd_96).trans rfl
theorem c_96_49 : (zm_cd 96)[49]? = some ((85, .aload_n 0, 1, 0, 0, 0, 0, 0, []) : zm_E) := (congrArg (fun l => l[49]?) cd_96).trans rfl
theorem c_96_50 : (zm_cd 96)[50]? = some ((86, .getfield 59, 3, 8, 23, 1, 0, 0, []) : zm_E) := (congrArg (fun l => l[50]?) cd_96).trans rfl
theorem c_96_51 : (zm_cd 96)[51]? = some ((89, .iload 6, 2, 6, 0, 0, 0, 0, []) : zm_E) := (congrArg (fun l => l[51]?) cd_96).trans rfl
theorem c_96_52 : (zm_cd 96)[52]? = some ((91, .iaload, 1, 0, 0, 0, 0, 0, []) : zm_E) := (congrArg (fun l => l[52]?) cd_96).trans rfl
theorem c_96_53 : (zm_cd 96)[53]? = some ((92, .iload 7, 2, 7, 0, 0, 0, 0, []) : zm_E) := (congrArg (fun l => l[53]?) cd_96).trans rfl
theorem c_96_54 : (zm_cd 96)[54]? = some ((94, .invokevirtual 93, 3, 49, 2, 1, 0, 0, [8]) : zm_E) := (congrArg (fun l => l[54]?) cd_96).trans rfl
theorem c_96_55 : (zm_cd 96)[55]? = some ((97, .aload_n 0, 1, 0, 0, 0, 0, 0, []) : zm_E) := (congrArg (fun l => l[55]?) cd_96).trans rfl
theorem c_96_56 : (zm_cd 96)[56]? = some ((98, .getfield 56, 3, 8, 22, 1, 0, 0, []) : zm_E) := (congrArg (fun l => l[56]?) cd_96).trans rfl
theorem c_96_57 : (zm_cd 96)[57]? = some ((101, .iload 4, 2, 4, 0, 0, 0, 0, []) : zm_E) := (congrArg (fun l => l[57]?) cd_96).trans rfl
theorem c_96_58 : (zm_cd 96)[58]? = some ((103, .iconst 1, 1, 0, 0, 0, 1, 0, []) : zm_E) := (congrArg (fun l => l[58]?) cd_96).trans rfl
theorem c_96_59 : (zm_cd 96)[59]? = some ((104, .iload 7, 2, 7, 0, 0, 0, 0, []) : zm_E) := (congrArg (fun l => l[59]?) cd_96).trans rfl
theorem c_96_60 : (zm_cd 96)[60]? = some ((106, .ishl, 1, 0, 0, 0, 0, 0, []) : zm_E) := (congrArg (fun l => l[60]?) cd_96).trans rfl
theorem c_96_61 : (zm_cd 96)[61]? = some ((107, .ior, 1, 0, 0, 0, 0, 0, []) : zm_E) := (congrArg (fun l => l[61]?) cd_96).trans rfl
theorem c_96_62 : (zm_cd 96)[62]? = some ((108, .iaload, 1, 0, 0, 0, 0, 0, []) : zm_E) := (congrArg (fun l => l[62]?) cd_96).trans rfl
theorem c_96_63 : (zm_cd 96)[63]? = some ((109, .iadd, 1, 0, 0, 0, 0, 0, []) : zm_E) := (congrArg (fun l => l[63]?) cd_96).trans rfl
theorem c_96_64 : (zm_cd 96)[64]? = some ((110, .aload_n 0, 1, 0, 0, 0, 0, 0, []) : zm_E) := (congrArg (fun l => l[64]?) cd_96).trans rfl
theorem c_96_65 : (zm_cd 96)[65]? = some ((111, .getfield 56, 3, 8, 22, 1, 0, 0, []) : zm_E) := (congrArg (fun l => l[65]?) cd_96).trans rfl
theorem c_96_66 : (zm_cd 96)[66]? = some ((114, .iload 4, 2, 4, 0, 0, 0, 0, []) : zm_E) := (congrArg (fun l => l[66]?) cd_96).trans rfl
theorem c_96_67 : (zm_cd 96)[67]? = some ((116, .iaload, 1, 0, 0, 0, 0, 0, []) : zm_E) := (congrArg (fun l => l[67]?) cd_96).trans rfl
theorem c_96_68 : (zm_cd 96)[68]? = some ((117, .if_icmp .eq 9, 3, 71, 0, 0, 0, 0, []) : zm_E) := (congrArg (fun l => l[68]?) cd_96).trans rfl
theorem c_96_69 : (zm_cd 96)[69]? = some ((120, .iinc 7 1, 3, 7, 0, 0, 1, 0, []) : zm_E) := (congrArg (fun l => l[69]?) cd_96).trans rfl
theorem c_96_70 : (zm_cd 96)[70]? = some ((123, .goto (-53), 3, 40, 0, 0, 0, 0, []) : zm_E) := (congrArg (fun l => l[70]?) cd_96).trans rfl
theorem c_96_71 : (zm_cd 96)[71]? = some ((126, .iload 4, 2, 4, 0, 0, 0, 0, []) : zm_E) := (congrArg (fun l => l[71]?) cd_96).trans rfl
theorem c_96_72 : (zm_cd 96)[72]? = some ((128, .iconst 1, 1, 0, 0, 0, 1, 0, []) : zm_E) := (congrArg (fun l => l[72]?) cd_96).trans rfl
theorem c_96_73 : (zm_cd 96)[73]? = some ((129, .iload 7, 2, 7, 0, 0, 0, 0, []) : zm_E) := (congrArg (fun l => l[73]?) cd_96).trans rfl
theorem c_96_74 : (zm_cd 96)[74]? = some ((131, .ishl, 1, 0, 0, 0, 0, 0, []) : zm_E) := (congrArg (fun l => l[74]?) cd_96).trans rfl
theorem c_96_75 : (zm_cd 96)[75]? = some ((132, .ior, 1, 0, 0, 0, 0, 0, []) : zm_E) := (congrArg (fun l => l[75]?) cd_96).trans rfl
theorem c_96_76 : (zm_cd 96)[76]? = some ((133, .istore 4, 2, 4, 0, 0, 0, 0, []) : zm_E) := (congrArg (fun l => l[76]?) cd_96).trans rfl
theorem c_96_77 : (zm_cd 96)[77]? = some ((135, .iload 7, 2, 7, 0, 0, 0, 0, []) : zm_E) := (congrArg (fun l => l[77]?) cd_96).trans rfl
theorem c_96_78 : (zm_cd 96)[78]? = some ((137, .istore 5, 2, 5, 0, 0, 0, 0, []) : zm_E) := (congrArg (fun l => l[78]?) cd_96).trans rfl
theorem c_96_79 : (zm_cd 96)[79]? = some ((139, .iinc 6 1, 3, 6, 0, 0, 1, 0, []) : zm_E) := (congrArg (fun l => l[79]?) cd_96).trans rfl
theorem c_96_80 : (zm_cd 96)[80]? = some ((142, .goto (-92), 3, 29, 0, 0, 0, 0, []) : zm_E) := (congrArg (fun l => l[80]?) cd_96).trans rfl
theorem c_96_81 : (zm_cd 96)[81]? = some ((145, .iload 5, 2, 5, 0, 0, 0, 0, []) : zm_E) := (congrArg (fun l => l[81]?) cd_96).trans rfl
theorem c_96_82 : (zm_cd 96)[82]? = some ((147, .ireturn, 1, 0, 0, 0, 0, 0, []) : zm_E) := (congrArg (fun l => l[82]?) cd_96).trans rfl
theorem cd_97 : zm_cd 97 = zd_97 := rfl
theorem ml_97 : zm_ml 97 = 2 := rfl
theorem ht_97 : zm_ht 97 = [] := rfl
theorem c_97_0 : (zm_cd 97)[0]? = some ((0, .aload_n 0, 1, 0, 0, 0, 0, 0, []) : zm_E) := (congrArg (fun l => l[0]?) cd_97).trans rfl
theorem c_97_1 : (zm_cd 97)[1]? = some ((1, .iconst 0, 1, 0, 0, 0, 0, 0, []) : zm_E) := (congrArg (fun l => l[1]?) cd_97).trans rfl
theorem c_97_2 : (zm_cd 97)[2]? = some ((2, .putfield 71, 3, 8, 8, 0, 0, 0, []) : zm_E) := (congrArg (fun l => l[2]?) cd_97).trans rfl
theorem c_97_3 : (zm_cd 97)[3]? = some ((5, .aload_n 0, 1, 0, 0, 0, 0, 0, []) : zm_E) := (congrArg (fun l => l[3]?) cd_97).trans rfl
theorem c_97_4 : (zm_cd 97)[4]? = some ((6, .invokevirtual 207, 3, 92, 0, 1, 0, 0, [8]) : zm_E) := (congrArg (fun l => l[4]?) cd_97).trans rfl
theorem c_97_5 : (zm_cd 97)[5]? = some ((9, .istore_n 1, 1, 1, 0, 0, 0, 0, []) : zm_E) := (congrArg (fun l => l[5]?) cd_97).trans rfl
theorem c_97_6 : (zm_cd 97)[6]? = some ((10, .aload_n 0, 1, 0, 0, 0, 0, 0, []) : zm_E) := (congrArg (fun l => l[6]?) cd_97).trans rfl
theorem c_97_7 : (zm_cd 97)[7]? = some ((11, .iload_n 1, 1, 1, 0, 0, 0, 0, []) : zm_E) := (congrArg (fun l => l[7]?) cd_97).trans rfl
theorem c_97_8 : (zm_cd 97)[8]? = some ((12, .aload_n 0, 1, 0, 0, 0, 0, 0, []) : zm_E) := (congrArg (fun l => l[8]?) cd_97).trans rfl
theorem c_97_9 : (zm_cd 97)[9]? = some ((13, .invokevirtual 201, 3, 93, 0, 1, 0, 0, [8]) : zm_E) := (congrArg (fun l => l[9]?) cd_97).trans rfl
theorem c_97_10 : (zm_cd 97)[10]? = some ((16, .iconst 0, 1, 0, 0, 0, 0, 0, []) : zm_E) := (congrArg (fun l => l[10]?) cd_97).trans rfl
theorem c_97_11 : (zm_cd 97)[11]? = some ((17, .invokevirtual 190, 3, 86, 3, 1, 0, 0, [8]) : zm_E) := (congrArg (fun l => l[11]?) cd_97).trans rfl
theorem c_97_12 : (zm_cd 97)[12]? = some ((20, .aload_n 0, 1, 0, 0, 0, 0, 0, []) : zm_E) := (congrArg (fun l => l[12]?) cd_97).trans rfl
theorem c_97_13 : (zm_cd 97)[13]? = some ((21, .iload_n 1, 1, 1, 0, 0, 0, 0, []) : zm_E) := (congrArg (fun l => l[13]?) cd_97).trans rfl
theorem c_97_14 : (zm_cd 97)[14]? = some ((22, .aload_n 0, 1, 0, 0, 0, 0, 0, []) : zm_E) := (congrArg (fun l => l[14]?) cd_97).trans rfl
theorem c_97_15 : (zm_cd 97)[15]? = some ((23, .invokevirtual 201, 3, 93, 0, 1, 0, 0, [8]) : zm_E) := (congrArg (fun l => l[15]?) cd_97).trans rfl
theorem c_97_16 : (zm_cd 97)[16]? = some ((26, .iconst 1, 1, 0, 0, 0, 1, 0, []) : zm_E) := (congrArg (fun l => l[16]?) cd_97).trans rfl
theorem c_97_17 : (zm_cd 97)[17]? = some ((27, .invokevirtual 190, 3, 86, 3, 1, 0, 0, [8]) : zm_E) := (congrArg (fun l => l[17]?) cd_97).trans rfl
theorem c_97_18 : (zm_cd 97)[18]? = some ((30, .isub, 1, 0, 0, 0, 0, 0, []) : zm_E) := (congrArg (fun l => l[18]?) cd_97).trans rfl
theorem c_97_19 : (zm_cd 97)[19]? = some ((31, .ireturn, 1, 0, 0, 0, 0, 0, []) : zm_E) := (congrArg (fun l => l[19]?) cd_97).trans rfl
theorem cd_98 : zm_cd 98 = zd_98 := rfl
theorem ml_98 : zm_ml 98 = 5 := rfl
theorem ht_98 : zm_ht 98 = [] := rfl
theorem c_98_0 : (zm_cd 98)[0]? = some ((0, .aload_n 0, 1, 0, 0, 0, 0, 0, []) : zm_E) := (congrArg (fun l => l[0]?) cd_98).trans rfl
theorem c_98_1 : (zm_cd 98)[1]? = some ((1, .iconst 0, 1, 0, 0, 0, 0, 0, []) : zm_E) := (congrArg (fun l => l[1]?) cd_98).trans rfl
theorem c_98_2 : (zm_cd 98)[2]? = some ((2, .putfield 71, 3, 8, 8, 0, 0, 0, []) : zm_E) := (congrArg (fun l => l[2]?) cd_98).trans rfl
theorem c_98_3 : (zm_cd 98)[3]? = some ((5, .aload_n 0, 1, 0, 0, 0, 0, 0, []) : zm_E) := (congrArg (fun l => l[3]?) cd_98).trans rfl
theorem c_98_4 : (zm_cd 98)[4]? = some ((6, .iload_n 1, 1, 1, 0, 0, 0, 0, []) : zm_E) := (congrArg (fun l => l[4]?) cd_98).trans rfl
theorem c_98_5 : (zm_cd 98)[5]? = some ((7, .invokevirtual 157, 3, 47, 1, 1, 0, 0, [8]) : zm_E) := (congrArg (fun l => l[5]?) cd_98).trans rfl
theorem c_98_6 : (zm_cd 98)[6]? = some ((10, .ifCond .ne 9, 3, 11, 0, 0, 0, 0, []) : zm_E) := (congrArg (fun l => l[6]?) cd_98).trans rfl
theorem c_98_7 : (zm_cd 98)[7]? = some ((13, .aload_n 0, 1, 0, 0, 0, 0, 0, []) : zm_E) := (congrArg (fun l => l[7]?) cd_98).trans rfl
theorem c_98_8 : (zm_cd 98)[8]? = some ((14, .iconst 1, 1, 0, 0, 0, 1, 0, []) : zm_E) := (congrArg (fun l => l[8]?) cd_98).trans rfl
theorem c_98_9 : (zm_cd 98)[9]? = some ((15, .invokevirtual 119, 3, 43, 1, 1, 0, 0, [8]) : zm_E) := (congrArg (fun l => l[9]?) cd_98).trans rfl
theorem c_98_10 : (zm_cd 98)[10]? = some ((18, .ireturn, 1, 0, 0, 0, 0, 0, []) : zm_E) := (congrArg (fun l => l[10]?) cd_98).trans rfl
theorem c_98_11 : (zm_cd 98)[11]? = some ((19, .aload_n 0, 1, 0, 0, 0, 0, 0, []) : zm_E) := (congrArg (fun l => l[11]?) cd_98).trans rfl
theorem c_98_12 : (zm_cd 98)[12]? = some ((20, .iload_n 1, 1, 1, 0, 0, 0, 0, []) : zm_E) := (congrArg (fun l => l[12]?) cd_98).trans rfl
theorem c_98_13 : (zm_cd 98)[13]? = some ((21, .invokevirtual 97, 3, 48, 1, 1, 0, 0, [8]) : zm_E) := (congrArg (fun l => l[13]?) cd_98).trans rfl
theorem c_98_14 : (zm_cd 98)[14]? = some ((24, .ifCond .ne 5, 3, 17, 0, 0, 0, 0, []) : zm_E) := (congrArg (fun l => l[14]?) cd_98).trans rfl
theorem c_98_15 : (zm_cd 98)[15]? = some ((27, .iconst 0, 1, 0, 0, 0, 0, 0, []) : zm_E) := (congrArg (fun l => l[15]?) cd_98).trans rfl
theorem c_98_16 : (zm_cd 98)[16]? = some ((28, .ireturn, 1, 0, 0, 0, 0, 0, []) : zm_E) := (congrArg (fun l => l[16]?) cd_98).trans rfl
theorem c_98_17 : (zm_cd 98)[17]? = some ((29, .aload_n 0, 1, 0, 0, 0, 0, 0, []) : zm_E) := (congrArg (fun l => l[17]?) cd_98).trans rfl
theorem c_98_18 : (zm_cd 98)[18]? = some ((30, .invokevirtual 148, 3, 55, 0, 0, 0, 0, [8]) : zm_E) := (congrArg (fun l => l[18]?) cd_98).trans rfl
theorem c_98_19 : (zm_cd 98)[19]? = some ((33, .iconst 0, 1, 0, 0, 0, 0, 0, []) : zm_E) := (congrArg (fun l => l[19]?) cd_98).trans rfl
theorem c_98_20 : (zm_cd 98)[20]? = some ((34, .istore_n 2, 1, 2, 0, 0, 0, 0, []) : zm_E) := (congrArg (fun l => l[20]?) cd_98).trans rfl
theorem c_98_21 : (zm_cd 98)[21]? = some ((35, .iload_n 2, 1, 2, 0, 0, 0, 0, []) : zm_E) := (congrArg (fun l => l[21]?) cd_98).trans rfl
theorem c_98_22 : (zm_cd 98)[22]? = some ((36, .aload_n 0, 1, 0, 0, 0, 0, 0, []) : zm_E) := (congrArg (fun l => l[22]?) cd_98).trans rfl
theorem c_98_23 : (zm_cd 98)[23]? = some ((37, .getfield 7, 3, 8, 0, 1, 0, 0, []) : zm_E) := (congrArg (fun l => l[23]?) cd_98).trans rfl
theorem c_98_24 : (zm_cd 98)[24]? = some ((40, .iconst 0, 1, 0, 0, 0, 0, 0, []) : zm_E) := (congrArg (fun l => l[24]?) cd_98).trans rfl
theorem c_98_25 : (zm_cd 98)[25]? = some ((41, .iaload, 1, 0, 0, 0, 0, 0, []) : zm_E) := (congrArg (fun l => l[25]?) cd_98).trans rfl
theorem c_98_26 : (zm_cd 98)[26]? = some ((42, .if_icmp .ge 21, 3, 37, 0, 0, 0, 0, []) : zm_E) := (congrArg (fun l => l[26]?) cd_98).trans rfl
theorem c_98_27 : (zm_cd 98)[27]? = some ((45, .aload_n 0, 1, 0, 0, 0, 0, 0, []) : zm_E) := (congrArg (fun l => l[27]?) cd_98).trans rfl
theorem c_98_28 : (zm_cd 98)[28]? = some ((46, .getfield 62, 3, 8, 24, 1, 0, 0, []) : zm_E) := (congrArg (fun l => l[28]?) cd_98).trans rfl
theorem c_98_29 : (zm_cd 98)[29]? = some ((49, .iload_n 2, 1, 2, 0, 0, 0, 0, []) : zm_E) := (congrArg (fun l => l[29]?) cd_98).trans rfl
theorem c_98_30 : (zm_cd 98)[30]? = some ((50, .aload_n 0, 1, 0, 0, 0, 0, 0, []) : zm_E) := (congrArg (fun l => l[30]?) cd_98).trans rfl
theorem c_98_31 : (zm_cd 98)[31]? = some ((51, .getfield 29, 3, 8, 9, 1, 0, 0, []) : zm_E) := (congrArg (fun l => l[31]?) cd_98).trans rfl
theorem c_98_32 : (zm_cd 98)[32]? = some ((54, .iload_n 2, 1, 2, 0, 0, 0, 0, []) : zm_E) := (congrArg (fun l => l[32]?) cd_98).trans rfl
theorem c_98_33 : (zm_cd 98)[33]? = some ((55, .iaload, 1, 0, 0, 0, 0, 0, []) : zm_E) := (congrArg (fun l => l[33]?) cd_98).trans rfl
theorem c_98_34 : (zm_cd 98)[34]? = some ((56, .iastore, 1, 0, 0, 0, 0, 0, []) : zm_E) := (congrArg (fun l => l[34]?) cd_98).trans rfl
theorem c_98_35 : (zm_cd 98)[35]? = some ((57, .iinc 2 1, 3, 2, 0, 0, 1, 0, []) : zm_E) := (congrArg (fun l => l[35]?) cd_98).trans rfl
theorem c_98_36 : (zm_cd 98)[36]? = some ((60, .goto (-25), 3, 21, 0, 0, 0, 0, []) : zm_E) := (congrArg (fun l => l[36]?) cd_98).trans rfl
theorem c_98_37 : (zm_cd 98)[37]? = some ((63, .aload_n 0, 1, 0, 0, 0, 0, 0, []) : zm_E) := (congrArg (fun l => l[37]?) cd_98).trans rfl
theorem c_98_38 : (zm_cd 98)[38]? = some ((64, .getfield 7, 3, 8, 0, 1, 0, 0, []) : zm_E) := (congrArg (fun l => l[38]?) cd_98).trans rfl
theorem c_98_39 : (zm_cd 98)[39]? = some ((67, .iconst 1, 1, 0, 0, 0, 1, 0, []) : zm_E) := (congrArg (fun l => l[39]?) cd_98).trans rfl
theorem c_98_40 : (zm_cd 98)[40]? = some ((68, .iaload, 1, 0, 0, 0, 0, 0, []) : zm_E) := (congrArg (fun l => l[40]?) cd_98).trans rfl
theorem c_98_41 : (zm_cd 98)[41]? = some ((69, .istore_n 2, 1, 2, 0, 0, 0, 0, []) : zm_E) := (congrArg (fun l => l[41]?) cd_98).trans rfl
theorem c_98_42 : (zm_cd 98)[42]? = some ((70, .aload_n 0, 1, 0, 0, 0, 0, 0, []) : zm_E) := (congrArg (fun l => l[42]?) cd_98).trans rfl
theorem c_98_43 : (zm_cd 98)[43]? = some ((71, .getfield 7, 3, 8, 0, 1, 0, 0, []) : zm_E) := (congrArg (fun l => l[43]?) cd_98).trans rfl
theorem c_98_44 : (zm_cd 98)[44]? = some ((74, .iconst 1, 1, 0, 0, 0, 1, 0, []) : zm_E) := (congrArg (fun l => l[44]?) cd_98).trans rfl
theorem c_98_45 : (zm_cd 98)[45]? = some ((75, .dup2, 1, 0, 0, 0, 0, 0, []) : zm_E) := (congrArg (fun l => l[45]?) cd_98).trans rfl
theorem c_98_46 : (zm_cd 98)[46]? = some ((76, .iaload, 1, 0, 0, 0, 0, 0, []) : zm_E) := (congrArg (fun l => l[46]?) cd_98).trans rfl
theorem c_98_47 : (zm_cd 98)[47]? = some ((77, .iconst 1, 1, 0, 0, 0, 1, 0, []) : zm_E) := (congrArg (fun l => l[47]?) cd_98).trans rfl
theorem c_98_48 : (zm_cd 98)[48]? = some ((78, .iload_n 1, 1, 1, 0, 0, 0, 0, []) : zm_E) := (congrArg (fun l => l[48]?) cd_98).trans rfl
theorem c_98_49 : (zm_cd 98)[49]? = some ((79, .ishl, 1, 0, 0, 0, 0, 0, []) : zm_E) := (congrArg (fun l => l[49]?) cd_98).trans rfl
theorem c_98_50 : (zm_cd 98)[50]? = some ((80, .ior, 1, 0, 0, 0, 0, 0, []) : zm_E) := (congrArg (fun l => l[50]?) cd_98).trans rfl
theorem c_98_51 : (zm_cd 98)[51]? = some ((81, .iastore, 1, 0, 0, 0, 0, 0, []) : zm_E) := (congrArg (fun l => l[51]?) cd_98).trans rfl
theorem c_98_52 : (zm_cd 98)[52]? = some ((82, .aload_n 0, 1, 0, 0, 0, 0, 0, []) : zm_E) := (congrArg (fun l => l[52]?) cd_98).trans rfl
theorem c_98_53 : (zm_cd 98)[53]? = some ((83, .invokevirtual 148, 3, 55, 0, 0, 0, 0, [8]) : zm_E) := (congrArg (fun l => l[53]?) cd_98).trans rfl
theorem c_98_54 : (zm_cd 98)[54]? = some ((86, .iconst 0, 1, 0, 0, 0, 0, 0, []) : zm_E) := (congrArg (fun l => l[54]?) cd_98).trans rfl
theorem c_98_55 : (zm_cd 98)[55]? = some ((87, .istore_n 3, 1, 3, 0, 0, 0, 0, []) : zm_E) := (congrArg (fun l => l[55]?) cd_98).trans rfl
theorem c_98_56 : (zm_cd 98)[56]? = some ((88, .iconst 0, 1, 0, 0, 0, 0, 0, []) : zm_E) := (congrArg (fun l => l[56]?) cd_98).trans rfl
theorem c_98_57 : (zm_cd 98)[57]? = some ((89, .istore 4, 2, 4, 0, 0, 0, 0, []) : zm_E) := (congrArg (fun l => l[57]?) cd_98).trans rfl
theorem c_98_58 : (zm_cd 98)[58]? = some ((91, .iload 4, 2, 4, 0, 0, 0, 0, []) : zm_E) := (congrArg (fun l => l[58]?) cd_98).trans rfl
theorem c_98_59 : (zm_cd 98)[59]? = some ((93, .aload_n 0, 1, 0, 0, 0, 0, 0, []) : zm_E) := (congrArg (fun l => l[59]?) cd_98).trans rfl
theorem c_98_60 : (zm_cd 98)[60]? = some ((94, .getfield 7, 3, 8, 0, 1, 0, 0, []) : zm_E) := (congrArg (fun l => l[60]?) cd_98).trans rfl
theorem c_98_61 : (zm_cd 98)[61]? = some ((97, .iconst 0, 1, 0, 0, 0, 0, 0, []) : zm_E) := (congrArg (fun l => l[61]?) cd_98).trans rfl
theorem c_98_62 : (zm_cd 98)[62]? = some ((98, .iaload, 1, 0, 0, 0, 0, 0, []) : zm_E) := (congrArg (fun l => l[62]?) cd_98).trans rfl
theorem c_98_63 : (zm_cd 98)[63]? = some ((99, .if_icmp .ge 58, 3, 93, 0, 0, 0, 0, []) : zm_E) := (congrArg (fun l => l[63]?) cd_98).trans rfl
theorem c_98_64 : (zm_cd 98)[64]? = some ((102, .iload_n 3, 1, 3, 0, 0, 0, 0, []) : zm_E) := (congrArg (fun l => l[64]?) cd_98).trans rfl
theorem c_98_65 : (zm_cd 98)[65]? = some ((103, .aload_n 0, 1, 0, 0, 0, 0, 0, []) : zm_E) := (congrArg (fun l => l[65]?) cd_98).trans rfl
theorem c_98_66 : (zm_cd 98)[66]? = some ((104, .iload 4, 2, 4, 0, 0, 0, 0, []) : zm_E) := (congrArg (fun l => l[66]?) cd_98).trans rfl
theorem c_98_67 : (zm_cd 98)[67]? = some ((106, .invokevirtual 97, 3, 48, 1, 1, 0, 0, [8]) : zm_E) := (congrArg (fun l => l[67]?) cd_98).trans rfl
theorem c_98_68 : (zm_cd 98)[68]? = some ((109, .ifCond .eq 39, 3, 88, 0, 0, 0, 0, []) : zm_E) := (congrArg (fun l => l[68]?) cd_98).trans rfl
theorem c_98_69 : (zm_cd 98)[69]? = some ((112, .aload_n 0, 1, 0, 0, 0, 0, 0, []) : zm_E) := (congrArg (fun l => l[69]?) cd_98).trans rfl
theorem c_98_70 : (zm_cd 98)[70]? = some ((113, .iload 4, 2, 4, 0, 0, 0, 0, []) : zm_E) := (congrArg (fun l => l[70]?) cd_98).trans rfl
theorem c_98_71 : (zm_cd 98)[71]? = some ((115, .aload_n 0, 1, 0, 0, 0, 0, 0, []) : zm_E) := (congrArg (fun l => l[71]?) cd_98).trans rfl
theorem c_98_72 : (zm_cd 98)[72]? = some ((116, .getfield 29, 3, 8, 9, 1, 0, 0, []) : zm_E) := (congrArg (fun l => l[72]?) cd_98).trans rfl
theorem c_98_73 : (zm_cd 98)[73]? = some ((119, .iload 4, 2, 4, 0, 0, 0, 0, []) : zm_E) := (congrArg (fun l => l[73]?) cd_98).trans rfl
theorem c_98_74 : (zm_cd 98)[74]? = some ((121, .iaload, 1, 0, 0, 0, 0, 0, []) : zm_E) := (congrArg (fun l => l[74]?) cd_98).trans rfl
theorem c_98_75 : (zm_cd 98)[75]? = some ((122, .invokevirtual 93, 3, 49, 2, 1, 0, 0, [8]) : zm_E) := (congrArg (fun l => l[75]?) cd_98).trans rfl
theorem c_98_76 : (zm_cd 98)[76]? = some ((125, .aload_n 0, 1, 0, 0, 0, 0, 0, []) : zm_E) := (congrArg (fun l => l[76]?) cd_98).trans rfl
theorem c_98_77 : (zm_cd 98)[77]? = some ((126, .iload 4, 2, 4, 0, 0, 0, 0, []) : zm_E) := (congrArg (fun l => l[77]?) cd_98).trans rfl
theorem c_98_78 : (zm_cd 98)[78]? = some ((128, .aload_n 0, 1, 0, 0, 0, 0, 0, []) : zm_E) := (congrArg (fun l => l[78]?) cd_98).trans rfl
theorem c_98_79 : (zm_cd 98)[79]? = some ((129, .getfield 62, 3, 8, 24, 1, 0, 0, []) : zm_E) := (congrArg (fun l => l[79]?) cd_98).trans rfl
theorem c_98_80 : (zm_cd 98)[80]? = some ((132, .iload 4, 2, 4, 0, 0, 0, 0, []) : zm_E) := (congrArg (fun l => l[80]?) cd_98).trans rfl
theorem c_98_81 : (zm_cd 98)[81]? = some ((134, .iaload, 1, 0, 0, 0, 0, 0, []) : zm_E) := (congrArg (fun l => l[81]?) cd_98).trans rfl
theorem c_98_82 : (zm_cd 98)[82]? = some ((135, .invokevirtual 93, 3, 49, 2, 1, 0, 0, [8]) : zm_E) := (congrArg (fun l => l[82]?) cd_98).trans rfl
theorem c_98_83 : (zm_cd 98)[83]? = some ((138, .if_icmp .le 10, 3, 88, 0, 0, 0, 0, []) : zm_E) := (congrArg (fun l => l[83]?) cd_98).trans rfl
theorem c_98_84 : (zm_cd 98)[84]? = some ((141, .iconst 1, 1, 0, 0, 0, 1, 0, []) : zm_E) := (congrArg (fun l => l[84]?) cd_98).trans rfl
theorem c_98_85 : (zm_cd 98)[85]? = some ((142, .iload 4, 2, 4, 0, 0, 0, 0, []) : zm_E) := (congrArg (fun l => l[85]?) cd_98).trans rfl
theorem c_98_86 : (zm_cd 98)[86]? = some ((144, .ishl, 1, 0, 0, 0, 0, 0, []) : zm_E) := (congrArg (fun l => l[86]?) cd_98).trans rfl
theorem c_98_87 : (zm_cd 98)[87]? = some ((145, .goto 4, 3, 89, 0, 0, 0, 0, []) : zm_E) := (congrArg (fun l => l[87]?) cd_98).trans rfl
theorem c_98_88 : (zm_cd 98)[88]? = some ((148, .iconst 0, 1, 0, 0, 0, 0, 0, []) : zm_E) := (congrArg (fun l => l[88]?) cd_98).trans rfl
theorem c_98_89 : (zm_cd 98)[89]? = some ((149, .ior, 1, 0, 0, 0, 0, 0, []) : zm_E) := (congrArg (fun l => l[89]?) cd_98).trans rfl
theorem c_98_90 : (zm_cd 98)[90]? = some ((150, .istore_n 3, 1, 3, 0, 0, 0, 0, []) : zm_E) := (congrArg (fun l => l[90]?) cd_98).trans rfl
theorem c_98_91 : (zm_cd 98)[91]? = some ((151, .iinc 4 1, 3, 4, 0, 0, 1, 0, []) : zm_E) := (congrArg (fun l => l[91]?) cd_98).trans rfl
theorem c_98_92 : (zm_cd 98)[92]? = some ((154, .goto (-63), 3, 58, 0, 0, 0, 0, []) : zm_E) := (congrArg (fun l => l[92]?) cd_98).trans rfl
theorem c_98_93 : (zm_cd 98)[93]? = some ((157, .aload_n 0, 1, 0, 0, 0, 0, 0, []) : zm_E) := (congrArg (fun l => l[93]?) cd_98).trans rfl
theorem c_98_94 : (zm_cd 98)[94]? = some ((158, .getfield 7, 3, 8, 0, 1, 0, 0, []) : zm_E) := (congrArg (fun l => l[94]?) cd_98).trans rfl
theorem c_98_95 : (zm_cd 98)[95]? = some ((161, .iconst 1, 1, 0, 0, 0, 1, 0, []) : zm_E) := (congrArg (fun l => l[95]?) cd_98).trans rfl
theorem c_98_96 : (zm_cd 98)[96]? = some ((162, .iload_n 2, 1, 2, 0, 0, 0, 0, []) : zm_E) := (congrArg (fun l => l[96]?) cd_98).trans rfl
theorem c_98_97 : (zm_cd 98)[97]? = some ((163, .iastore, 1, 0, 0, 0, 0, 0, []) : zm_E) := (congrArg (fun l => l[97]?) cd_98).trans rfl
theorem c_98_98 : (zm_cd 98)[98]? = some ((164, .iload_n 3, 1, 3, 0, 0, 0, 0, []) : zm_E) := (congrArg (fun l => l[98]?) cd_98).trans rfl
theorem c_98_99 : (zm_cd 98)[99]? = some ((165, .ireturn, 1, 0, 0, 0, 0, 0, []) : zm_E) := (congrArg (fun l => l[99]?) cd_98).trans rfl
theorem cd_99 : zm_cd 99 = zd_99 := rfl
theorem ml_99 : zm_ml 99 = 3 := rfl
theorem ht_99 : zm_ht 99 = [] := rfl
theorem c_99_0 : (zm_cd 99)[0]? = some ((0, .iconst 0, 1, 0, 0, 0, 0, 0, []) : zm_E) := (congrArg (fun l => l[0]?) cd_99).trans rfl
theorem c_99_1 : (zm_cd 99)[1]? = some ((1, .istore_n 1, 1, 1, 0, 0, 0, 0, []) : zm_E) := (congrArg (fun l => l[1]?) cd_99).trans rfl
theorem c_99_2 : (zm_cd 99)[2]? = some ((2, .iconst 0, 1, 0, 0, 0, 0, 0, []) : zm_E) := (congrArg (fun l => l[2]?) cd_99).trans rfl
theorem c_99_3 : (zm_cd 99)[3]? = some ((3, .istore_n 2, 1, 2, 0, 0, 0, 0, []) : zm_E) := (congrArg (fun l => l[3]?) cd_99).trans rfl
theorem c_99_4 : (zm_cd 99)[4]? = some ((4, .iload_n 2, 1, 2, 0, 0, 0, 0, []) : zm_E) := (congrArg (fun l => l[4]?) cd_99).trans rfl
theorem c_99_5 : (zm_cd 99)[5]? = some ((5, .bipush 7, 2, 0, 0, 0, 7, 0, []) : zm_E) := (congrArg (fun l => l[5]?) cd_99).trans rfl
theorem c_99_6 : (zm_cd 99)[6]? = some ((7, .if_icmp .ge 34, 3, 25, 0, 0, 0, 0, []) : zm_E) := (congrArg (fun l => l[6]?) cd_99).trans rfl
theorem c_99_7 : (zm_cd 99)[7]? = some ((10, .bipush 8, 2, 0, 0, 0, 8, 0, []) : zm_E) := (congrArg (fun l => l[7]?) cd_99).trans rfl
theorem c_99_8 : (zm_cd 99)[8]? = some ((12, .iload_n 1, 1, 1, 0, 0, 0, 0, []) : zm_E) := (congrArg (fun l => l[8]?) cd_99).trans rfl
theorem c_99_9 : (zm_cd 99)[9]? = some ((13, .imul, 1, 0, 0, 0, 0, 0, []) : zm_E) := (congrArg (fun l => l[9]?) cd_99).trans rfl
theorem c_99_10 : (zm_cd 99)[10]? = some ((14, .iload_n 2, 1, 2, 0, 0, 0, 0, []) : zm_E) := (congrArg (fun l => l[10]?) cd_99).trans rfl
theorem c_99_11 : (zm_cd 99)[11]? = some ((15, .aload_n 0, 1, 0, 0, 0, 0, 0, []) : zm_E) := (congrArg (fun l => l[11]?) cd_99).trans rfl
theorem c_99_12 : (zm_cd 99)[12]? = some ((16, .getfield 7, 3, 8, 0, 1, 0, 0, []) : zm_E) := (congrArg (fun l => l[12]?) cd_99).trans rfl
theorem c_99_13 : (zm_cd 99)[13]? = some ((19, .iconst 0, 1, 0, 0, 0, 0, 0, []) : zm_E) := (congrArg (fun l => l[13]?) cd_99).trans rfl
theorem c_99_14 : (zm_cd 99)[14]? = some ((20, .iaload, 1, 0, 0, 0, 0, 0, []) : zm_E) := (congrArg (fun l => l[14]?) cd_99).trans rfl
theorem c_99_15 : (zm_cd 99)[15]? = some ((21, .if_icmp .ge 11, 3, 20, 0, 0, 0, 0, []) : zm_E) := (congrArg (fun l => l[15]?) cd_99).trans rfl
theorem c_99_16 : (zm_cd 99)[16]? = some ((24, .aload_n 0, 1, 0, 0, 0, 0, 0, []) : zm_E) := (congrArg (fun l => l[16]?) cd_99).trans rfl
theorem c_99_17 : (zm_cd 99)[17]? = some ((25, .iload_n 2, 1, 2, 0, 0, 0, 0, []) : zm_E) := (congrArg (fun l => l[17]?) cd_99).trans rfl
theorem c_99_18 : (zm_cd 99)[18]? = some ((26, .invokevirtual 90, 3, 50, 1, 1, 0, 0, [8]) : zm_E) := (congrArg (fun l => l[18]?) cd_99).trans rfl
theorem c_99_19 : (zm_cd 99)[19]? = some ((29, .goto 4, 3, 21, 0, 0, 0, 0, []) : zm_E) := (congrArg (fun l => l[19]?) cd_99).trans rfl
theorem c_99_20 : (zm_cd 99)[20]? = some ((32, .iload_n 2, 1, 2, 0, 0, 0, 0, []) : zm_E) := (congrArg (fun l => l[20]?) cd_99).trans rfl
theorem c_99_21 : (zm_cd 99)[21]? = some ((33, .iadd, 1, 0, 0, 0, 0, 0, []) : zm_E) := (congrArg (fun l => l[21]?) cd_99).trans rfl
theorem c_99_22 : (zm_cd 99)[22]? = some ((34, .istore_n 1, 1, 1, 0, 0, 0, 0, []) : zm_E) := (congrArg (fun l => l[22]?) cd_99).trans rfl
theorem c_99_23 : (zm_cd 99)[23]? = some ((35, .iinc 2 1, 3, 2, 0, 0, 1, 0, []) : zm_E) := (congrArg (fun l => l[23]?) cd_99).trans rfl
theorem c_99_24 : (zm_cd 99)[24]? = some ((38, .goto (-34), 3, 4, 0, 0, 0, 0, []) : zm_E) := (congrArg (fun l => l[24]?) cd_99).trans rfl
theorem c_99_25 : (zm_cd 99)[25]? = some ((41, .iload_n 1, 1, 1, 0, 0, 0, 0, []) : zm_E) := (congrArg (fun l => l[25]?) cd_99).trans rfl
theorem c_99_26 : (zm_cd 99)[26]? = some ((42, .ireturn, 1, 0, 0, 0, 0, 0, []) : zm_E) := (congrArg (fun l => l[26]?) cd_99).trans rfl
theorem cd_100 : zm_cd 100 = zd_100 := rfl
theorem ml_100 : zm_ml 100 = 4 := rfl
theorem ht_100 : zm_ht 100 = [] := rfl
theorem c_100_0 : (zm_cd 100)[0]? = some ((0, .iload_n 1, 1, 1, 0, 0, 0, 0, []) : zm_E) := (congrArg (fun l => l[0]?) cd_100).trans rfl
theorem c_100_1 : (zm_cd 100)[1]? = some ((1, .istore_n 2, 1, 2, 0, 0, 0, 0, []) : zm_E) := (congrArg (fun l => l[1]?) cd_100).trans rfl
theorem c_100_2 : (zm_cd 100)[2]? = some ((2, .bipush 6, 2, 0, 0, 0, 6, 0, []) : zm_E) := (congrArg (fun l => l[2]?) cd_100).trans rfl
theorem c_100_3 : (zm_cd 100)[3]? = some ((4, .istore_n 3, 1, 3, 0, 0, 0, 0, []) : zm_E) := (congrArg (fun l => l[3]?) cd_100).trans rfl
theorem c_100_4 : (zm_cd 100)[4]? = some ((5, .iload_n 3, 1, 3, 0, 0, 0, 0, []) : zm_E) := (congrArg (fun l => l[4]?) cd_100).trans rfl
theorem c_100_5 : (zm_cd 100)[5]? = some ((6, .ifCond .lt 47, 3, 34, 0, 0, 0, 0, []) : zm_E) := (congrArg (fun l => l[5]?) cd_100).trans rfl
theorem c_100_6 : (zm_cd 100)[6]? = some ((9, .aload_n 0, 1, 0, 0, 0, 0, 0, []) : zm_E) := (congrArg (fun l => l[6]?) cd_100).trans rfl
theorem c_100_7 : (zm_cd 100)[7]? = some ((10, .getfield 7, 3, 8, 0, 1, 0, 0, []) : zm_E) := (congrArg (fun l => l[7]?) cd_100).trans rfl
theorem c_100_8 : (zm_cd 100)[8]? = some ((13, .iconst 2, 1, 0, 0, 0, 2, 0, []) : zm_E) := (congrArg (fun l => l[8]?) cd_100).trans rfl
theorem c_100_9 : (zm_cd 100)[9]? = some ((14, .iload_n 3, 1, 3, 0, 0, 0, 0, []) : zm_E) := (congrArg (fun l => l[9]?) cd_100).trans rfl
theorem c_100_10 : (zm_cd 100)[10]? = some ((15, .iadd, 1, 0, 0, 0, 0, 0, []) : zm_E) := (congrArg (fun l => l[10]?) cd_100).trans rfl
theorem c_100_11 : (zm_cd 100)[11]? = some ((16, .iload_n 3, 1, 3, 0, 0, 0, 0, []) : zm_E) := (congrArg (fun l => l[11]?) cd_100).trans rfl
theorem c_100_12 : (zm_cd 100)[12]? = some ((17, .aload_n 0, 1, 0, 0, 0, 0, 0, []) : zm_E) := (congrArg (fun l => l[12]?) cd_100).trans rfl
theorem c_100_13 : (zm_cd 100)[13]? = some ((18, .getfield 7, 3, 8, 0, 1, 0, 0, []) : zm_E) := (congrArg (fun l => l[13]?) cd_100).trans rfl
theorem c_100_14 : (zm_cd 100)[14]? = some ((21, .iconst 0, 1, 0, 0, 0, 0, 0, []) : zm_E) := (congrArg (fun l => l[14]?) cd_100).trans rfl
theorem c_100_15 : (zm_cd 100)[15]? = some ((22, .iaload, 1, 0, 0, 0, 0, 0, []) : zm_E) := (congrArg (fun l => l[15]?) cd_100).trans rfl
theorem c_100_16 : (zm_cd 100)[16]? = some ((23, .if_icmp .ge 10, 3, 21, 0, 0, 0, 0, []) : zm_E) := (congrArg (fun l => l[16]?) cd_100).trans rfl
theorem c_100_17 : (zm_cd 100)[17]? = some ((26, .iload_n 2, 1, 2, 0, 0, 0, 0, []) : zm_E) := (congrArg (fun l => l[17]?) cd_100).trans rfl
theorem c_100_18 : (zm_cd 100)[18]? = some ((27, .bipush 8, 2, 0, 0, 0, 8, 0, []) : zm_E) := (congrArg (fun l => l[18]?) cd_100).trans rfl
theorem c_100_19 : (zm_cd 100)[19]? = some ((29, .irem, 1, 0, 0, 0, 0, 0, []) : zm_E) := (congrArg (fun l => l[19]?) cd_100).trans rfl
theorem c_100_20 : (zm_cd 100)[20]? = some ((30, .goto 11, 3, 27, 0, 0, 0, 0, []) : zm_E) := (congrArg (fun l => l[20]?) cd_100).trans rfl
theorem c_100_21 : (zm_cd 100)[21]? = some ((33, .aload_n 0, 1, 0, 0, 0, 0, 0, []) : zm_E) := (congrArg (fun l => l[21]?) cd_100).trans rfl
theorem c_100_22 : (zm_cd 100)[22]? = some ((34, .getfield 7, 3, 8, 0, 1, 0, 0, []) : zm_E) := (congrArg (fun l => l[22]?) cd_100).trans rfl
theorem c_100_23 : (zm_cd 100)[23]? = some ((37, .iconst 2, 1, 0, 0, 0, 2, 0, []) : zm_E) := (congrArg (fun l => l[23]?) cd_100).trans rfl
theorem c_100_24 : (zm_cd 100)[24]? = some ((38, .iload_n 3, 1, 3, 0, 0, 0, 0, []) : zm_E) := (congrArg (fun l => l[24]?) cd_100).trans rfl
theorem c_100_25 : (zm_cd 100)[25]? = some ((39, .iadd, 1, 0, 0, 0, 0, 0, []) : zm_E) := (congrArg (fun l => l[25]?) cd_100).trans rfl
theorem c_100_26 : (zm_cd 100)[26]? = some ((40, .iaload, 1, 0, 0, 0, 0, 0, []) : zm_E) := (congrArg (fun l => l[26]?) cd_100).trans rfl
theorem c_100_27 : (zm_cd 100)[27]? = some ((41, .iastore, 1, 0, 0, 0, 0, 0, []) : zm_E) := (congrArg (fun l => l[27]?) cd_100).trans rfl
theorem c_100_28 : (zm_cd 100)[28]? = some ((42, .iload_n 2, 1, 2, 0, 0, 0, 0, []) : zm_E) := (congrArg (fun l => l[28]?) cd_100).trans rfl
theorem c_100_29 : (zm_cd 100)[29]? = some ((43, .bipush 8, 2, 0, 0, 0, 8, 0, []) : zm_E) := (congrArg (fun l => l[29]?) cd_100).trans rfl
theorem c_100_30 : (zm_cd 100)[30]? = some ((45, .idiv, 1, 0, 0, 0, 0, 0, []) : zm_E) := (congrArg (fun l => l[30]?) cd_100).trans rfl
theorem c_100_31 : (zm_cd 100)[31]? = some ((46, .istore_n 2, 1, 2, 0, 0, 0, 0, []) : zm_E) := (congrArg (fun l => l[31]?) cd_100).trans rfl
theorem c_100_32 : (zm_cd 100)[32]? = some ((47, .iinc 3 (-1), 3, 3, 0, 0, (-1), 0, []) : zm_E) := (congrArg (fun l => l[32]?) cd_100).trans rfl
theorem c_100_33 : (zm_cd 100)[33]? = some ((50, .goto (-45), 3, 4, 0, 0, 0, 0, []) : zm_E) := (congrArg (fun l => l[33]?) cd_100).trans rfl
theorem c_100_34 : (zm_cd 100)[34]? = some ((53, .return_, 1, 0, 0, 0, 0, 0, []) : zm_E) := (congrArg (fun l => l[34]?) cd_100).trans rfl
theorem cd_101 : zm_cd 101 = zd_101 := rfl
theorem ml_101 : zm_ml 101 = 8 := rfl
theorem ht_101 : zm_ht 101 = [] := rfl
theorem c_101_0 : (zm_cd 101)[0]? = some ((0, .iconst 0, 1, 0, 0, 0, 0, 0, []) : zm_E) := (congrArg (fun l => l[0]?) cd_101).trans rfl
theorem c_101_1 : (zm_cd 101)[1]? = some ((1, .istore_n 2, 1, 2, 0, 0, 0, 0, []) : zm_E) := (congrArg (fun l => l[1]?) cd_101).trans rfl
theorem c_101_2 : (zm_cd 101)[2]? = some ((2, .iconst 0, 1, 0, 0, 0, 0, 0, []) : zm_E) := (congrArg (fun l => l[2]?) cd_101).trans rfl
theorem c_101_3 : (zm_cd 101)[3]? = some ((3, .istore_n 3, 1, 3, 0, 0, 0, 0, []) : zm_E) := (congrArg (fun l => l[3]?) cd_101).trans rfl
theorem c_101_4 : (zm_cd 101)[4]? = some ((4, .iconst 0, 1, 0, 0, 0, 0, 0, []) : zm_E) := (congrArg (fun l => l[4]?) cd_101).trans rfl
theorem c_101_5 : (zm_cd 101)[5]? = some ((5, .istore 4, 2, 4, 0, 0, 0, 0, []) : zm_E) := (congrArg (fun l => l[5]?) cd_101).trans rfl
theorem c_101_6 : (zm_cd 101)[6]? = some ((7, .iload 4, 2, 4, 0, 0, 0, 0, []) : zm_E) := (congrArg (fun l => l[6]?) cd_101).trans rfl
theorem c_101_7 : (zm_cd 101)[7]? = some ((9, .bipush 7, 2, 0, 0, 0, 7, 0, []) : zm_E) := (congrArg (fun l => l[7]?) cd_101).trans rfl
theorem c_101_8 : (zm_cd 101)[8]? = some ((11, .if_icmp .ge 79, 3, 54, 0, 0, 0, 0, []) : zm_E) := (congrArg (fun l => l[8]?) cd_101).trans rfl
theorem c_101_9 : (zm_cd 101)[9]? = some ((14, .iload_n 1, 1, 1, 0, 0, 0, 0, []) : zm_E) := (congrArg (fun l => l[9]?) cd_101).trans rfl
theorem c_101_10 : (zm_cd 101)[10]? = some ((15, .iconst 3, 1, 0, 0, 0, 3, 0, []) : zm_E) := (congrArg (fun l => l[10]?) cd_101).trans rfl
theorem c_101_11 : (zm_cd 101)[11]? = some ((16, .bipush 6, 2, 0, 0, 0, 6, 0, []) : zm_E) := (congrArg (fun l => l[11]?) cd_101).trans rfl
theorem c_101_12 : (zm_cd 101)[12]? = some ((18, .iload 4, 2, 4, 0, 0, 0, 0, []) : zm_E) := (congrArg (fun l => l[12]?) cd_101).trans rfl
theorem c_101_13 : (zm_cd 101)[13]? = some ((20, .isub, 1, 0, 0, 0, 0, 0, []) : zm_E) := (congrArg (fun l => l[13]?) cd_101).trans rfl
theorem c_101_14 : (zm_cd 101)[14]? = some ((21, .imul, 1, 0, 0, 0, 0, 0, []) : zm_E) := (congrArg (fun l => l[14]?) cd_101).trans rfl
theorem c_101_15 : (zm_cd 101)[15]? = some ((22, .ishr, 1, 0, 0, 0, 0, 0, []) : zm_E) := (congrArg (fun l => l[15]?) cd_101).trans rfl
theorem c_101_16 : (zm_cd 101)[16]? = some ((23, .bipush 7, 2, 0, 0, 0, 7, 0, []) : zm_E) := (congrArg (fun l => l[16]?) cd_101).trans rfl
theorem c_101_17 : (zm_cd 101)[17]? = some ((25, .iand, 1, 0, 0, 0, 0, 0, []) : zm_E) := (congrArg (fun l => l[17]?) cd_101).trans rfl
theorem c_101_18 : (zm_cd 101)[18]? = some ((26, .istore 5, 2, 5, 0, 0, 0, 0, []) : zm_E) := (congrArg (fun l => l[18]?) cd_101).trans rfl
theorem c_101_19 : (zm_cd 101)[19]? = some ((28, .iconst 0, 1, 0, 0, 0, 0, 0, []) : zm_E) := (congrArg (fun l => l[19]?) cd_101).trans rfl
theorem c_101_20 : (zm_cd 101)[20]? = some ((29, .istore 6, 2, 6, 0, 0, 0, 0, []) : zm_E) := (congrArg (fun l => l[20]?) cd_101).trans rfl
theorem c_101_21 : (zm_cd 101)[21]? = some ((31, .iconst 0, 1, 0, 0, 0, 0, 0, []) : zm_E) := (congrArg (fun l => l[21]?) cd_101).trans rfl
theorem c_101_22 : (zm_cd 101)[22]? = some ((32, .istore 7, 2, 7, 0, 0, 0, 0, []) : zm_E) := (congrArg (fun l => l[22]?) cd_101).trans rfl
theorem c_101_23 : (zm_cd 101)[23]? = some ((34, .iload 7, 2, 7, 0, 0, 0, 0, []) : zm_E) := (congrArg (fun l => l[23]?) cd_101).trans rfl
theorem c_101_24 : (zm_cd 101)[24]? = some ((36, .iload 5, 2, 5, 0, 0, 0, 0, []) : zm_E) := (congrArg (fun l => l[24]?) cd_101).trans rfl
theorem c_101_25 : (zm_cd 101)[25]? = some ((38, .if_icmp .ge 28, 3, 38, 0, 0, 0, 0, []) : zm_E) := (congrArg (fun l => l[25]?) cd_101).trans rfl
theorem c_101_26 : (zm_cd 101)[26]? = some ((41, .iload 6, 2, 6, 0, 0, 0, 0, []) : zm_E) := (congrArg (fun l => l[26]?) cd_101).trans rfl
theorem c_101_27 : (zm_cd 101)[27]? = some ((43, .iload_n 3, 1, 3, 0, 0, 0, 0, []) : zm_E) := (congrArg (fun l => l[27]?) cd_101).trans rfl
theorem c_101_28 : (zm_cd 101)[28]? = some ((44, .iload 7, 2, 7, 0, 0, 0, 0, []) : zm_E) := (congrArg (fun l => l[28]?) cd_101).trans rfl
theorem c_101_29 : (zm_cd 101)[29]? = some ((46, .invokestatic 82, 3, 41, 2, 1, 0, 0, []) : zm_E) := (congrArg (fun l => l[29]?) cd_101).trans rfl
theorem c_101_30 : (zm_cd 101)[30]? = some ((49, .ifCond .eq 7, 3, 33, 0, 0, 0, 0, []) : zm_E) := (congrArg (fun l => l[30]?) cd_101).trans rfl
theorem c_101_31 : (zm_cd 101)[31]? = some ((52, .iconst 0, 1, 0, 0, 0, 0, 0, []) : zm_E) := (congrArg (fun l => l[31]?) cd_101).trans rfl
theorem c_101_32 : (zm_cd 101)[32]? = some ((53, .goto 4, 3, 34, 0, 0, 0, 0, []) : zm_E) := (congrArg (fun l => l[32]?) cd_101).trans rfl
theorem c_101_33 : (zm_cd 101)[33]? = some ((56, .iconst 1, 1, 0, 0, 0, 1, 0, []) : zm_E) := (congrArg (fun l => l[33]?) cd_101).trans rfl
theorem c_101_34 : (zm_cd 101)[34]? = some ((57, .iadd, 1, 0, 0, 0, 0, 0, []) : zm_E) := (congrArg (fun l => l[34]?) cd_101).trans rfl
theorem c_101_35 : (zm_cd 101)[35]? = some ((58, .istore 6, 2, 6, 0, 0, 0, 0, []) : zm_E) := (congrArg (fun l => l[35]?) cd_101).trans rfl
theorem c_101_36 : (zm_cd 101)[36]? = some ((60, .iinc 7 1, 3, 7, 0, 0, 1, 0, []) : zm_E) := (congrArg (fun l => l[36]?) cd_101).trans rfl
theorem c_101_37 : (zm_cd 101)[37]? = some ((63, .goto (-29), 3, 23, 0, 0, 0, 0, []) : zm_E) := (congrArg (fun l => l[37]?) cd_101).trans rfl
theorem c_101_38 : (zm_cd 101)[38]? = some ((66, .iload_n 2, 1, 2, 0, 0, 0, 0, []) : zm_E) := (congrArg (fun l => l[38]?) cd_101).trans rfl
theorem c_101_39 : (zm_cd 101)[39]? = some ((67, .bipush 7, 2, 0, 0, 0, 7, 0, []) : zm_E) := (congrArg (fun l => l[39]?) cd_101).trans rfl
theorem c_101_40 : (zm_cd 101)[40]? = some ((69, .iload 4, 2, 4, 0, 0, 0, 0, []) : zm_E) := (congrArg (fun l => l[40]?) cd_101).trans rfl
theorem c_101_41 : (zm_cd 101)[41]? = some ((71, .isub, 1, 0, 0, 0, 0, 0, []) : zm_E) := (congrArg (fun l => l[41]?) cd_101).trans rfl
theorem c_101_42 : (zm_cd 101)[42]? = some ((72, .imul, 1, 0, 0, 0, 0, 0, []) : zm_E) := (congrArg (fun l => l[42]?) cd_101).trans rfl
theorem c_101_43 : (zm_cd 101)[43]? = some ((73, .iload 6, 2, 6, 0, 0, 0, 0, []) : zm_E) := (congrArg (fun l => l[43]?) cd_101).trans rfl
theorem c_101_44 : (zm_cd 101)[44]? = some ((75, .iadd, 1, 0, 0, 0, 0, 0, []) : zm_E) := (congrArg (fun l => l[44]?) cd_101).trans rfl
theorem c_101_45 : (zm_cd 101)[45]? = some ((76, .istore_n 2, 1, 2, 0, 0, 0, 0, []) : zm_E) := (congrArg (fun l => l[45]?) cd_101).trans rfl
theorem c_101_46 : (zm_cd 101)[46]? = some ((77, .iload_n 3, 1, 3, 0, 0, 0, 0, []) : zm_E) := (congrArg (fun l => l[46]?) cd_101).trans rfl
theorem c_101_47 : (zm_cd 101)[47]? = some ((78, .iconst 1, 1, 0, 0, 0, 1, 0, []) : zm_E) := (congrArg (fun l => l[47]?) cd_101).trans rfl
theorem c_101_48 : (zm_cd 101)[48]? = some ((79, .iload 5, 2, 5, 0, 0, 0, 0, []) : zm_E) := (congrArg (fun l => l[48]?) cd_101).trans rfl
theorem c_101_49 : (zm_cd 101)[49]? = some ((81, .ishl, 1, 0, 0, 0, 0, 0, []) : zm_E) := (congrArg (fun l => l[49]?) cd_101).trans rfl
theorem c_101_50 : (zm_cd 101)[50]? = some ((82, .ior, 1, 0, 0, 0, 0, 0, []) : zm_E) := (congrArg (fun l => l[50]?) cd_101).trans rfl
theorem c_101_51 : (zm_cd 101)[51]? = some ((83, .istore_n 3, 1, 3, 0, 0, 0, 0, []) : zm_E) := (congrArg (fun l => l[51]?) cd_101).trans rfl
theorem c_101_52 : (zm_cd 101)[52]? = some ((84, .iinc 4 1, 3, 4, 0, 0, 1, 0, []) : zm_E) := (congrArg (fun l => l[52]?) cd_101).trans rfl
theorem c_101_53 : (zm_cd 101)[53]? = some ((87, .goto (-80), 3, 6, 0, 0, 0, 0, []) : zm_E) := (congrArg (fun l => l[53]?) cd_101).trans rfl
theorem c_101_54 : (zm_cd 101)[54]? = some ((90, .iload_n 2, 1, 2, 0, 0, 0, 0, []) : zm_E) := (congrArg (fun l => l[54]?) cd_101).trans rfl
theorem c_101_55 : (zm_cd 101)[55]? = some ((91, .ireturn, 1, 0, 0, 0, 0, 0, []) : zm_E) := (congrArg (fun l => l[55]?) cd_101).trans rfl
theorem cd_102 : zm_cd 102 = zd_102 := rfl
theorem ml_102 : zm_ml 102 = 11 := rfl
theorem ht_102 : zm_ht 102 = [] := rfl
theorem c_102_0 : (zm_cd 102)[0]? = some ((0, .iconst 0, 1, 0, 0, 0, 0, 0, []) : zm_E) := (congrArg (fun l => l[0]?) cd_102).trans rfl
theorem c_102_1 : (zm_cd 102)[1]? = some ((1, .istore_n 3, 1, 3, 0, 0, 0, 0, []) : zm_E) := (congrArg (fun l => l[1]?) cd_102).trans rfl
theorem c_102_2 : (zm_cd 102)[2]? = some ((2, .iload_n 3, 1, 3, 0, 0, 0, 0, []) : zm_E) := (congrArg (fun l => l[2]?) cd_102).trans rfl
theorem c_102_3 : (zm_cd 102)[3]? = some ((3, .sipush 5040, 3, 0, 0, 0, 5040, 0, []) : zm_E) := (congrArg (fun l => l[3]?) cd_102).trans rfl
theorem c_102_4 : (zm_cd 102)[4]? = some ((6, .if_icmp .ge 16, 3, 12, 0, 0, 0, 0, []) : zm_E) := (congrArg (fun l => l[4]?) cd_102).trans rfl
theorem c_102_5 : (zm_cd 102)[5]? = some ((9, .aload_n 0, 1, 0, 0, 0, 0, 0, []) : zm_E) := (congrArg (fun l => l[5]?) cd_102).trans rfl
theorem c_102_6 : (zm_cd 102)[6]? = some ((10, .getfield 68, 3, 8, 26, 1, 0, 0, []) : zm_E) := (congrArg (fun l => l[6]?) cd_102).trans rfl
theorem c_102_7 : (zm_cd 102)[7]? = some ((13, .iload_n 3, 1, 3, 0, 0, 0, 0, []) : zm_E) := (congrArg (fun l => l[7]?) cd_102).trans rfl
theorem c_102_8 : (zm_cd 102)[8]? = some ((14, .iconst 0, 1, 0, 0, 0, 0, 0, []) : zm_E) := (congrArg (fun l => l[8]?) cd_102).trans rfl
theorem c_102_9 : (zm_cd 102)[9]? = some ((15, .bastore, 1, 0, 0, 0, 0, 0, []) : zm_E) := (congrArg (fun l => l[9]?) cd_102).trans rfl
theorem c_102_10 : (zm_cd 102)[10]? = some ((16, .iinc 3 1, 3, 3, 0, 0, 1, 0, []) : zm_E) := (congrArg (fun l => l[10]?) cd_102).trans rfl
theorem c_102_11 : (zm_cd 102)[11]? = some ((19, .goto (-17), 3, 2, 0, 0, 0, 0, []) : zm_E) := (congrArg (fun l => l[11]?) cd_102).trans rfl
theorem c_102_12 : (zm_cd 102)[12]? = some ((22, .aload_n 0, 1, 0, 0, 0, 0, 0, []) : zm_E) := (congrArg (fun l => l[12]?) cd_102).trans rfl
theorem c_102_13 : (zm_cd 102)[13]? = some ((23, .getfield 65, 3, 8, 25, 1, 0, 0, []) : zm_E) := (congrArg (fun l => l[13]?) cd_102).trans rfl
theorem c_102_14 : (zm_cd 102)[14]? = some ((26, .iconst 0, 1, 0, 0, 0, 0, 0, []) : zm_E) := (congrArg (fun l => l[14]?) cd_102).trans rfl
theorem c_102_15 : (zm_cd 102)[15]? = some ((27, .aload_n 0, 1, 0, 0, 0, 0, 0, []) : zm_E) := (congrArg (fun l => l[15]?) cd_102).trans rfl
theorem c_102_16 : (zm_cd 102)[16]? = some ((28, .invokevirtual 210, 3, 99, 0, 1, 0, 0, [8]) : zm_E) := (congrArg (fun l => l[16]?) cd_102).trans rfl
theorem c_102_17 : (zm_cd 102)[17]? = some ((31, .iastore, 1, 0, 0, 0, 0, 0, []) : zm_E) := (congrArg (fun l => l[17]?) cd_102).trans rfl
theorem c_102_18 : (zm_cd 102)[18]? = some ((32, .aload_n 0, 1, 0, 0, 0, 0, 0, []) : zm_E) := (congrArg (fun l => l[18]?) cd_102).trans rfl
theorem c_102_19 : (zm_cd 102)[19]? = some ((33, .getfield 68, 3, 8, 26, 1, 0, 0, []) : zm_E) := (congrArg (fun l => l[19]?) cd_102).trans rfl
theorem c_102_20 : (zm_cd 102)[20]? = some ((36, .aload_n 0, 1, 0, 0, 0, 0, 0, []) : zm_E) := (congrArg (fun l => l[20]?) cd_102).trans rfl
theorem c_102_21 : (zm_cd 102)[21]? = some ((37, .aload_n 0, 1, 0, 0, 0, 0, 0, []) : zm_E) := (congrArg (fun l => l[21]?) cd_102).trans rfl
theorem c_102_22 : (zm_cd 102)[22]? = some ((38, .getfield 65, 3, 8, 25, 1, 0, 0, []) : zm_E) := (congrArg (fun l => l[22]?) cd_102).trans rfl
theorem c_102_23 : (zm_cd 102)[23]? = some ((41, .iconst 0, 1, 0, 0, 0, 0, 0, []) : zm_E) := (congrArg (fun l => l[23]?) cd_102).trans rfl
theorem c_102_24 : (zm_cd 102)[24]? = some ((42, .iaload, 1, 0, 0, 0, 0, 0, []) : zm_E) := (congrArg (fun l => l[24]?) cd_102).trans rfl
theorem c_102_25 : (zm_cd 102)[25]? = some ((43, .invokevirtual 213, 3, 101, 1, 1, 0, 0, [8]) : zm_E) := (congrArg (fun l => l[25]?) cd_102).trans rfl
theorem c_102_26 : (zm_cd 102)[26]? = some ((46, .iconst 1, 1, 0, 0, 0, 1, 0, []) : zm_E) := (congrArg (fun l => l[26]?) cd_102).trans rfl
theorem c_102_27 : (zm_cd 102)[27]? = some ((47, .bastore, 1, 0, 0, 0, 0, 0, []) : zm_E) := (congrArg (fun l => l[27]?) cd_102).trans rfl
theorem c_102_28 : (zm_cd 102)[28]? = some ((48, .iconst 1, 1, 0, 0, 0, 1, 0, []) : zm_E) := (congrArg (fun l => l[28]?) cd_102).trans rfl
theorem c_102_29 : (zm_cd 102)[29]? = some ((49, .istore_n 3, 1, 3, 0, 0, 0, 0, []) : zm_E) := (congrArg (fun l => l[29]?) cd_102).trans rfl
theorem c_102_30 : (zm_cd 102)[30]? = some ((50, .iconst 0, 1, 0, 0, 0, 0, 0, []) : zm_E) := (congrArg (fun l => l[30]?) cd_102).trans rfl
theorem c_102_31 : (zm_cd 102)[31]? = some ((51, .istore 4, 2, 4, 0, 0, 0, 0, []) : zm_E) := (congrArg (fun l => l[31]?) cd_102).trans rfl
theorem c_102_32 : (zm_cd 102)[32]? = some ((53, .iconst 0, 1, 0, 0, 0, 0, 0, []) : zm_E) := (congrArg (fun l => l[32]?) cd_102).trans rfl
theorem c_102_33 : (zm_cd 102)[33]? = some ((54, .istore 5, 2, 5, 0, 0, 0, 0, []) : zm_E) := (congrArg (fun l => l[33]?) cd_102).trans rfl
theorem c_102_34 : (zm_cd 102)[34]? = some ((56, .iconst 1, 1, 0, 0, 0, 1, 0, []) : zm_E) := (congrArg (fun l => l[34]?) cd_102).trans rfl
theorem c_102_35 : (zm_cd 102)[35]? = some ((57, .istore 6, 2, 6, 0, 0, 0, 0, []) : zm_E) := (congrArg (fun l => l[35]?) cd_102).trans rfl
theorem c_102_36 : (zm_cd 102)[36]? = some ((59, .iload 4, 2, 4, 0, 0, 0, 0, []) : zm_E) := (congrArg (fun l => l[36]?) cd_102).trans rfl
theorem c_102_37 : (zm_cd 102)[37]? = some ((61, .iload_n 3, 1, 3, 0, 0, 0, 0, []) : zm_E) := (congrArg (fun l => l[37]?) cd_102).trans rfl
theorem c_102_38 : (zm_cd 102)[38]? = some ((62, .if_icmp .ge 173, 3, 130, 0, 0, 0, 0, []) : zm_E) := (congrArg (fun l => l[38]?) cd_102).trans rfl
theorem c_102_39 : (zm_cd 102)[39]? = some ((65, .aload_n 0, 1, 0, 0, 0, 0, 0, []) : zm_E) := (congrArg (fun l => l[39]?) cd_102).trans rfl
theorem c_102_40 : (zm_cd 102)[40]? = some ((66, .aload_n 0, 1, 0, 0, 0, 0, 0, []) : zm_E) := (congrArg (fun l => l[40]?) cd_102).trans rfl
theorem c_102_41 : (zm_cd 102)[41]? = some ((67, .getfield 65, 3, 8, 25, 1, 0, 0, []) : zm_E) := (congrArg (fun l => l[41]?) cd_102).trans rfl
theorem c_102_42 : (zm_cd 102)[42]? = some ((70, .iload 4, 2, 4, 0, 0, 0, 0, []) : zm_E) := (congrArg (fun l => l[42]?) cd_102).trans rfl
theorem c_102_43 : (zm_cd 102)[43]? = some ((72, .iaload, 1, 0, 0, 0, 0, 0, []) : zm_E) := (congrArg (fun l => l[43]?) cd_102).trans rfl
theorem c_102_44 : (zm_cd 102)[44]? = some ((73, .invokevirtual 216, 3, 100, 1, 0, 0, 0, [8]) : zm_E) := (congrArg (fun l => l[44]?) cd_102).trans rfl
theorem c_102_45 : (zm_cd 102)[45]? = some ((76, .aload_n 0, 1, 0, 0, 0, 0, 0, []) : zm_E) := (congrArg (fun l => l[45]?) cd_102).trans rfl
theorem c_102_46 : (zm_cd 102)[46]? = some ((77, .iload_n 1, 1, 1, 0, 0, 0, 0, []) : zm_E) := (congrArg (fun l => l[46]?) cd_102).trans rfl
theorem c_102_47 : (zm_cd 102)[47]? = some ((78, .invokevirtual 90, 3, 50, 1, 1, 0, 0, [8]) : zm_E) := (congrArg (fun l => l[47]?) cd_102).trans rfl
theorem c_102_48 : (zm_cd 102)[48]? = some ((81, .iload_n 2, 1, 2, 0, 0, 0, 0, []) : zm_E) := (congrArg (fun l => l[48]?) cd_102).trans rfl
theorem c_102_49 : (zm_cd 102)[49]? = some ((82, .if_icmp .ne 6, 3, 52, 0, 0, 0, 0, []) : zm_E) := (congrArg (fun l => l[49]?) cd_102).trans rfl
theorem c_102_50 : (zm_cd 102)[50]? = some ((85, .iload 5, 2, 5, 0, 0, 0, 0, []) : zm_E) := (congrArg (fun l => l[50]?) cd_102).trans rfl
theorem c_102_51 : (zm_cd 102)[51]? = some ((87, .ireturn, 1, 0, 0, 0, 0, 0, []) : zm_E) := (congrArg (fun l => l[51]?) cd_102).trans rfl
theorem c_102_52 : (zm_cd 102)[52]? = some ((88, .iconst 0, 1, 0, 0, 0, 0, 0, []) : zm_E) := (congrArg (fun l => l[52]?) cd_102).trans rfl
theorem c_102_53 : (zm_cd 102)[53]? = some ((89, .istore 7, 2, 7, 0, 0, 0, 0, []) : zm_E) := (congrArg (fun l => l[53]?) cd_102).trans rfl
theorem c_102_54 : (zm_cd 102)[54]? = some ((91, .iload 7, 2, 7, 0, 0, 0, 0, []) : zm_E) := (congrArg (fun l => l[54]?) cd_102).trans rfl
theorem c_102_55 : (zm_cd 102)[55]? = some ((93, .aload_n 0, 1, 0, 0, 0, 0, 0, []) : zm_E) := (congrArg (fun l => l[55]?) cd_102).trans rfl
theorem c_102_56 : (zm_cd 102)[56]? = some ((94, .getfield 7, 3, 8, 0, 1, 0, 0, []) : zm_E) := (congrArg (fun l => l[56]?) cd_102).trans rfl
theorem c_102_57 : (zm_cd 102)[57]? = some ((97, .iconst 0, 1, 0, 0, 0, 0, 0, []) : zm_E) := (congrArg (fun l => l[57]?) cd_102).trans rfl
theorem c_102_58 : (zm_cd 102)[58]? = some ((98, .iaload, 1, 0, 0, 0, 0, 0, []) : zm_E) := (congrArg (fun l => l[58]?) cd_102).trans rfl
theorem c_102_59 : (zm_cd 102)[59]? = some ((99, .aload_n 0, 1, 0, 0, 0, 0, 0, []) : zm_E) := (congrArg (fun l => l[59]?) cd_102).trans rfl
theorem c_102_60 : (zm_cd 102)[60]? = some ((100, .getfield 7, 3, 8, 0, 1, 0, 0, []) : zm_E) := (congrArg (fun l => l[60]?) cd_102).trans rfl
theorem c_102_61 : (zm_cd 102)[61]? = some ((103, .iconst 0, 1, 0, 0, 0, 0, 0, []) : zm_E) := (congrArg (fun l => l[61]?) cd_102).trans rfl
theorem c_102_62 : (zm_cd 102)[62]? = some ((104, .iaload, 1, 0, 0, 0, 0, 0, []) : zm_E) := (congrArg (fun l => l[62]?) cd_102).trans rfl
theorem c_102_63 : (zm_cd 102)[63]? = some ((105, .imul, 1, 0, 0, 0, 0, 0, []) : zm_E) := (congrArg (fun l => l[63]?) cd_102).trans rfl
theorem c_102_64 : (zm_cd 102)[64]? = some ((106, .if_icmp .ge 110, 3, 122, 0, 0, 0, 0, []) : zm_E) := (congrArg (fun l => l[64]?) cd_102).trans rfl
theorem c_102_65 : (zm_cd 102)[65]? = some ((109, .iload 7, 2, 7, 0, 0, 0, 0, []) : zm_E) := (congrArg (fun l => l[65]?) cd_102).trans rfl
theorem c_102_66 : (zm_cd 102)[66]? = some ((111, .aload_n 0, 1, 0, 0, 0, 0, 0, []) : zm_E) := (congrArg (fun l => l[66]?) cd_102).trans rfl
theorem c_102_67 : (zm_cd 102)[67]? = some ((112, .getfield 7, 3, 8, 0, 1, 0, 0, []) : zm_E) := (congrArg (fun l => l[67]?) cd_102).trans rfl
theorem c_102_68 : (zm_cd 102)[68]? = some ((115, .iconst 0, 1, 0, 0, 0, 0, 0, []) : zm_E) := (congrArg (fun l => l[68]?) cd_102).trans rfl
theorem c_102_69 : (zm_cd 102)[69]? = some ((116, .iaload, 1, 0, 0, 0, 0, 0, []) : zm_E) := (congrArg (fun l => l[69]?) cd_102).trans rfl
theorem c_102_70 : (zm_cd 102)[70]? = some ((117, .idiv, 1, 0, 0, 0, 0, 0, []) : zm_E) := (congrArg (fun l => l[70]?) cd_102).trans rfl
theorem c_102_71 : (zm_cd 102)[71]? = some ((118, .istore 8, 2, 8, 0, 0, 0, 0, []) : zm_E) := (congrArg (fun l => l[71]?) cd_102).trans rfl
theorem c_102_72 : (zm_cd 102)[72]? = some ((120, .iload 7, 2, 7, 0, 0, 0, 0, []) : zm_E) := (congrArg (fun l => l[72]?) cd_102).trans rfl
theorem c_102_73 : (zm_cd 102)[73]? = some ((122, .aload_n 0, 1, 0, 0, 0, 0, 0, []) : zm_E) := (congrArg (fun l => l[73]?) cd_102).trans rfl
theorem c_102_74 : (zm_cd 102)[74]? = some ((123, .getfield 7, 3, 8, 0, 1, 0, 0, []) : zm_E) := (congrArg (fun l => l[74]?) cd_102).trans rfl
theorem c_102_75 : (zm_cd 102)[75]? = some ((126, .iconst 0, 1, 0, 0, 0, 0, 0, []) : zm_E) := (congrArg (fun l => l[75]?) cd_102).trans rfl
theorem c_102_76 : (zm_cd 102)[76]? = some ((127, .iaload, 1, 0, 0, 0, 0, 0, []) : zm_E) := (congrArg (fun l => l[76]?) cd_102).trans rfl
theorem c_102_77 : (zm_cd 102)[77]? = some ((128, .irem, 1, 0, 0, 0, 0, 0, []) : zm_E) := (congrArg (fun l => l[77]?) cd_102).trans rfl
theorem c_102_78 : (zm_cd 102)[78]? = some ((129, .istore 9, 2, 9, 0, 0, 0, 0, []) : zm_E) := (congrArg (fun l => l[78]?) cd_102).trans rfl
theorem c_102_79 : (zm_cd 102)[79]? = some ((131, .iload 8, 2, 8, 0, 0, 0, 0, []) : zm_E) := (congrArg (fun l => l[79]?) cd_102).trans rfl
theorem c_102_80 : (zm_cd 102)[80]? = some ((133, .iload 9, 2, 9, 0, 0, 0, 0, []) : zm_E) := (congrArg (fun l => l[80]?) cd_102).trans rfl
theorem c_102_81 : (zm_cd 102)[81]? = some ((135, .if_icmp .ge 75, 3, 120, 0, 0, 0, 0, []) : zm_E) := (congrArg (fun l => l[81]?) cd_102).trans rfl
theorem c_102_82 : (zm_cd 102)[82]? = some ((138, .aload_n 0, 1, 0, 0, 0, 0, 0, []) : zm_E) := (congrArg (fun l => l[82]?) cd_102).trans rfl
theorem c_102_83 : (zm_cd 102)[83]? = some ((139, .iload 8, 2, 8, 0, 0, 0, 0, []) : zm_E) := (congrArg (fun l => l[83]?) cd_102).trans rfl
theorem c_102_84 : (zm_cd 102)[84]? = some ((141, .iload 9, 2, 9, 0, 0, 0, 0, []) : zm_E) := (congrArg (fun l => l[84]?) cd_102).trans rfl
theorem c_102_85 : (zm_cd 102)[85]? = some ((143, .invokevirtual 162, 3, 71, 2, 1, 0, 0, [8]) : zm_E) := (congrArg (fun l => l[85]?) cd_102).trans rfl
theorem c_102_86 : (zm_cd 102)[86]? = some ((146, .ifCond .ne 64, 3, 120, 0, 0, 0, 0, []) : zm_E) := (congrArg (fun l => l[86]?) cd_102).trans rfl
theorem c_102_87 : (zm_cd 102)[87]? = some ((149, .aload_n 0, 1, 0, 0, 0, 0, 0, []) : zm_E) := (congrArg (fun l => l[87]?) cd_102).trans rfl
theorem c_102_88 : (zm_cd 102)[88]? = some ((150, .iload 8, 2, 8, 0, 0, 0, 0, []) : zm_E) := (congrArg (fun l => l[88]?) cd_102).trans rfl
theorem c_102_89 : (zm_cd 102)[89]? = some ((152, .iload 9, 2, 9, 0, 0, 0, 0, []) : zm_E) := (congrArg (fun l => l[89]?) cd_102).trans rfl
theorem c_102_90 : (zm_cd 102)[90]? = some ((154, .invokevirtual 174, 3, 76, 2, 1, 0, 0, [8]) : zm_E) := (congrArg (fun l => l[90]?) cd_102).trans rfl
theorem c_102_91 : (zm_cd 102)[91]? = some ((157, .pop, 1, 0, 0, 0, 0, 0, []) : zm_E) := (congrArg (fun l => l[91]?) cd_102).trans rfl
theorem c_102_92 : (zm_cd 102)[92]? = some ((158, .aload_n 0, 1, 0, 0, 0, 0, 0, []) : zm_E) := (congrArg (fun l => l[92]?) cd_102).trans rfl
theorem c_102_93 : (zm_cd 102)[93]? = some ((159, .invokevirtual 210, 3, 99, 0, 1, 0, 0, [8]) : zm_E) := (congrArg (fun l => l[93]?) cd_102).trans rfl
theorem c_102_94 : (zm_cd 102)[94]? = some ((162, .istore 10, 2, 10, 0, 0, 0, 0, []) : zm_E) := (congrArg (fun l => l[94]?) cd_102).trans rfl
theorem c_102_95 : (zm_cd 102)[95]? = some ((164, .aload_n 0, 1, 0, 0, 0, 0, 0, []) : zm_E) := (congrArg (fun l => l[95]?) cd_102).trans rfl
theorem c_102_96 : (zm_cd 102)[96]? = some ((165, .iload 8, 2, 8, 0, 0, 0, 0, []) : zm_E) := (congrArg (fun l => l[96]?) cd_102).trans rfl
theorem c_102_97 : (zm_cd 102)[97]? = some ((167, .iload 9, 2, 9, 0, 0, 0, 0, []) : zm_E) := (congrArg (fun l => l[97]?) cd_102).trans rfl
theorem c_102_98 : (zm_cd 102)[98]? = some ((169, .invokevirtual 174, 3, 76, 2, 1, 0, 0, [8]) : zm_E) := (congrArg (fun l => l[98]?) cd_102).trans rfl
theorem c_102_99 : (zm_cd 102)[99]? = some ((172, .pop, 1, 0, 0, 0, 0, 0, []) : zm_E) := (congrArg (fun l => l[99]?) cd_102).trans rfl
theorem c_102_100 : (zm_cd 102)[100]? = some ((173, .aload_n 0, 1, 0, 0, 0, 0, 0, []) : zm_E) := (congrArg (fun l => l[100]?) cd_102).trans rfl
theorem c_102_101 : (zm_cd 102)[101]? = some ((174, .getfield 68, 3, 8, 26, 1, 0, 0, []) : zm_E) := (congrArg (fun l => l[101]?) cd_102).trans rfl
theorem c_102_102 : (zm_cd 102)[102]? = some ((177, .aload_n 0, 1, 0, 0, 0, 0, 0, []) : zm_E) := (congrArg (fun l => l[102]?) cd_102).trans rfl
theorem c_102_103 : (zm_cd 102)[103]? = some ((178, .iload 10, 2, 10, 0, 0, 0, 0, []) : zm_E) := (congrArg (fun l => l[103]?) cd_102).trans rfl
theorem c_102_104 : (zm_cd 102)[104]? = some ((180, .invokevirtual 213, 3, 101, 1, 1, 0, 0, [8]) : zm_E) := (congrArg (fun l => l[104]?) cd_102).trans rfl
theorem c_102_105 : (zm_cd 102)[105]? = some ((183, .baload, 1, 0, 0, 0, 0, 0, []) : zm_E) := (congrArg (fun l => l[105]?) cd_102).trans rfl
theorem c_102_106 : (zm_cd 102)[106]? = some ((184, .ifCond .ne 26, 3, 120, 0, 0, 0, 0, []) : zm_E) := (congrArg (fun l => l[106]?) cd_102).trans rfl
theorem c_102_107 : (zm_cd 102)[107]? = some ((187, .aload_n 0, 1, 0, 0, 0, 0, 0, []) : zm_E) := (congrArg (fun l => l[107]?) cd_102).trans rfl
theorem c_102_108 : (zm_cd 102)[108]? = some ((188, .getfield 68, 3, 8, 26, 1, 0, 0, []) : zm_E) := (congrArg (fun l => l[108]?) cd_102).trans rfl
theorem c_102_109 : (zm_cd 102)[109]? = some ((191, .aload_n 0, 1, 0, 0, 0, 0, 0, []) : zm_E) := (congrArg (fun l => l[109]?) cd_102).trans rfl
theorem c_102_110 : (zm_cd 102)[110]? = some ((192, .iload 10, 2, 10, 0, 0, 0, 0, []) : zm_E) := (congrArg (fun l => l[110]?) cd_102).trans rfl
theorem c_102_111 : (zm_cd 102)[111]? = some ((194, .invokevirtual 213, 3, 101, 1, 1, 0, 0, [8]) : zm_E) := (congrArg (fun l => l[111]?) cd_102).trans rfl
theorem c_102_112 : (zm_cd 102)[112]? = some ((197, .iconst 1, 1, 0, 0, 0, 1, 0, []) : zm_E) := (congrArg (fun l => l[112]?) cd_102).trans rfl
theorem c_102_113 : (zm_cd 102)[113]? = some ((198, .bastore, 1, 0, 0, 0, 0, 0, []) : zm_E) := (congrArg (fun l => l[113]?) cd_102).trans rfl
theorem c_102_114 : (zm_cd 102)[114]? = some ((199, .aload_n 0, 1, 0, 0, 0, 0, 0, []) : zm_E) := (congrArg (fun l => l[114]?) cd_102).trans rfl
theorem c_102_115 : (zm_cd 102)[115]? = some ((200, .getfield 65, 3, 8, 25, 1, 0, 0, []) : zm_E) := (congrArg (fun l => l[115]?) cd_102).trans rfl
theorem c_102_116 : (zm_cd 102)[116]? = some ((203, .iload_n 3, 1, 3, 0, 0, 0, 0, []) : zm_E) := (congrArg (fun l => l[116]?) cd_102).trans rfl
theorem c_102_117 : (zm_cd 102)[117]? = some ((204, .iload 10, 2, 10, 0, 0, 0, 0, []) : zm_E) := (congrArg (fun l => l[117]?) cd_102).trans rfl
theorem c_102_118 : (zm_cd 102)[118]? = some ((206, .iastore, 1, 0, 0, 0, 0, 0, []) : zm_E) := (congrArg (fun l => l[118]?) cd_102).trans rfl
theorem c_102_119 : (zm_cd 102)[119]? = some ((207, .iinc 3 1, 3, 3, 0, 0, 1, 0, []) : zm_E) := (congrArg (fun l => l[119]?) cd_102).trans rfl
theorem c_102_120 : (zm_cd 102)[120]? = some ((210, .iinc 7 1, 3, 7, 0, 0, 1, 0, []) : zm_E) := (congrArg (fun l => l[120]?) cd_102).trans rfl
theorem c_102_121 : (zm_cd 102)[121]? = some ((213, .goto (-122), 3, 54, 0, 0, 0, 0, []) : zm_E) := (congrArg (fun l => l[121]?) cd_102).trans rfl
theorem c_102_122 : (zm_cd 102)[122]? = some ((216, .iinc 4 1, 3, 4, 0, 0, 1, 0, []) : zm_E) := (congrArg (fun l => l[122]?) cd_102).trans rfl
theorem c_102_123 : (zm_cd 102)[123]? = some ((219, .iload 4, 2, 4, 0, 0, 0, 0, []) : zm_E) := (congrArg (fun l => l[123]?) cd_102).trans rfl
theorem c_102_124 : (zm_cd 102)[124]? = some ((221, .iload 6, 2, 6, 0, 0, 0, 0, []) : zm_E) := (congrArg (fun l => l[124]?) cd_102).trans rfl
theorem c_102_125 : (zm_cd 102)[125]? = some ((223, .if_icmp .ne (-164), 3, 36, 0, 0, 0, 0, []) : zm_E) := (congrArg (fun l => l[125]?) cd_102).trans rfl
theorem c_102_126 : (zm_cd 102)[126]? = some ((226, .iload_n 3, 1, 3, 0, 0, 0, 0, []) : zm_E) := (congrArg (fun l => l[126]?) cd_102).trans rfl
theorem c_102_127 : (zm_cd 102)[127]? = some ((227, .istore 6, 2, 6, 0, 0, 0, 0, []) : zm_E) := (congrArg (fun l => l[127]?) cd_102).trans rfl
theorem c_102_128 : (zm_cd 102)[128]? = some ((229, .iinc 5 1, 3, 5, 0, 0, 1, 0, []) : zm_E) := (congrArg (fun l => l[128]?) cd_102).trans rfl
theorem c_102_129 : (zm_cd 102)[129]? = some ((232, .goto (-173), 3, 36, 0, 0, 0, 0, []) : zm_E) := (congrArg (fun l => l[129]?) cd_102).trans rfl
theorem c_102_130 : (zm_cd 102)[130]? = some ((235, .bipush (-9), 2, 0, 0, 0, (-9), 0, []) : zm_E) := (congrArg (fun l => l[130]?) cd_102).trans rfl
theorem c_102_131 : (zm_cd 102)[131]? = some ((237, .ireturn, 1, 0, 0, 0, 0, 0, []) : zm_E) := (congrArg (fun l => l[131]?) cd_102).trans rfl
theorem cd_103 : zm_cd 103 = zd_103 := rfl
theorem ml_103 : zm_ml 103 = 4 := rfl
theorem ht_103 : zm_ht 103 = [] := rfl
theorem c_103_0 : (zm_cd 103)[0]? = some ((0, .aload_n 0, 1, 0, 0, 0, 0, 0, []) : zm_E) := (congrArg (fun l => l[0]?) cd_103).trans rfl
theorem c_103_1 : (zm_cd 103)[1]? = some ((1, .iconst 0, 1, 0, 0, 0, 0, 0, []) : zm_E) := (congrArg (fun l => l[1]?) cd_103).trans rfl
theorem c_103_2 : (zm_cd 103)[2]? = some ((2, .putfield 71, 3, 8, 8, 0, 0, 0, []) : zm_E) := (congrArg (fun l => l[2]?) cd_103).trans rfl
theorem c_103_3 : (zm_cd 103)[3]? = some ((5, .aload_n 0, 1, 0, 0, 0, 0, 0, []) : zm_E) := (congrArg (fun l => l[3]?) cd_103).trans rfl
theorem c_103_4 : (zm_cd 103)[4]? = some ((6, .iload_n 1, 1, 1, 0, 0, 0, 0, []) : zm_E) := (congrArg (fun l => l[4]?) cd_103).trans rfl
theorem c_103_5 : (zm_cd 103)[5]? = some ((7, .invokevirtual 157, 3, 47, 1, 1, 0, 0, [8]) : zm_E) := (congrArg (fun l => l[5]?) cd_103).trans rfl
theorem c_103_6 : (zm_cd 103)[6]? = some ((10, .ifCond .eq 11, 3, 11, 0, 0, 0, 0, []) : zm_E) := (congrArg (fun l => l[6]?) cd_103).trans rfl
theorem c_103_7 : (zm_cd 103)[7]? = some ((13, .aload_n 0, 1, 0, 0, 0, 0, 0, []) : zm_E) := (congrArg (fun l => l[7]?) cd_103).trans rfl
theorem c_103_8 : (zm_cd 103)[8]? = some ((14, .iload_n 2, 1, 2, 0, 0, 0, 0, []) : zm_E) := (congrArg (fun l => l[8]?) cd_103).trans rfl
theorem c_103_9 : (zm_cd 103)[9]? = some ((15, .invokevirtual 157, 3, 47, 1, 1, 0, 0, [8]) : zm_E) := (congrArg (fun l => l[9]?) cd_103).trans rfl
theorem c_103_10 : (zm_cd 103)[10]? = some ((18, .ifCond .ne 9, 3, 15, 0, 0, 0, 0, []) : zm_E) := (congrArg (fun l => l[10]?) cd_103).trans rfl
theorem c_103_11 : (zm_cd 103)[11]? = some ((21, .aload_n 0, 1, 0, 0, 0, 0, 0, []) : zm_E) := (congrArg (fun l => l[11]?) cd_103).trans rfl
theorem c_103_12 : (zm_cd 103)[12]? = some ((22, .iconst 1, 1, 0, 0, 0, 1, 0, []) : zm_E) := (congrArg (fun l => l[12]?) cd_103).trans rfl
theorem c_103_13 : (zm_cd 103)[13]? = some ((23, .invokevirtual 119, 3, 43, 1, 1, 0, 0, [8]) : zm_E) := (congrArg (fun l => l[13]?) cd_103).trans rfl
theorem c_103_14 : (zm_cd 103)[14]? = some ((26, .ireturn, 1, 0, 0, 0, 0, 0, []) : zm_E) := (congrArg (fun l => l[14]?) cd_103).trans rfl
theorem c_103_15 : (zm_cd 103)[15]? = some ((27, .aload_n 0, 1, 0, 0, 0, 0, 0, []) : zm_E) := (congrArg (fun l => l[15]?) cd_103).trans rfl
theorem c_103_16 : (zm_cd 103)[16]? = some ((28, .iload_n 1, 1, 1, 0, 0, 0, 0, []) : zm_E) := (congrArg (fun l => l[16]?) cd_103).trans rfl
theorem c_103_17 : (zm_cd 103)[17]? = some ((29, .invokevirtual 97, 3, 48, 1, 1, 0, 0, [8]) : zm_E) := (congrArg (fun l => l[17]?) cd_103).trans rfl
theorem c_103_18 : (zm_cd 103)[18]? = some ((32, .ifCond .ne 6, 3, 21, 0, 0, 0, 0, []) : zm_E) := (congrArg (fun l => l[18]?) cd_103).trans rfl
theorem c_103_19 : (zm_cd 103)[19]? = some ((35, .bipush (-9), 2, 0, 0, 0, (-9), 0, []) : zm_E) := (congrArg (fun l => l[19]?) cd_103).trans rfl
theorem c_103_20 : (zm_cd 103)[20]? = some ((37, .ireturn, 1, 0, 0, 0, 0, 0, []) : zm_E) := (congrArg (fun l => l[20]?) cd_103).trans rfl
theorem c_103_21 : (zm_cd 103)[21]? = some ((38, .aload_n 0, 1, 0, 0, 0, 0, 0, []) : zm_E) := (congrArg (fun l => l[21]?) cd_103).trans rfl
theorem c_103_22 : (zm_cd 103)[22]? = some ((39, .invokevirtual 219, 3, 44, 0, 0, 0, 0, [8]) : zm_E) := (congrArg (fun l => l[22]?) cd_103).trans rfl
theorem c_103_23 : (zm_cd 103)[23]? = some ((42, .aload_n 0, 1, 0, 0, 0, 0, 0, []) : zm_E) := (congrArg (fun l => l[23]?) cd_103).trans rfl
theorem c_103_24 : (zm_cd 103)[24]? = some ((43, .iload_n 1, 1, 1, 0, 0, 0, 0, []) : zm_E) := (congrArg (fun l => l[24]?) cd_103).trans rfl
theorem c_103_25 : (zm_cd 103)[25]? = some ((44, .iload_n 2, 1, 2, 0, 0, 0, 0, []) : zm_E) := (congrArg (fun l => l[25]?) cd_103).trans rfl
theorem c_103_26 : (zm_cd 103)[26]? = some ((45, .invokevirtual 222, 3, 102, 2, 1, 0, 0, [8]) : zm_E) := (congrArg (fun l => l[26]?) cd_103).trans rfl
theorem c_103_27 : (zm_cd 103)[27]? = some ((48, .istore_n 3, 1, 3, 0, 0, 0, 0, []) : zm_E) := (congrArg (fun l => l[27]?) cd_103).trans rfl
theorem c_103_28 : (zm_cd 103)[28]? = some ((49, .aload_n 0, 1, 0, 0, 0, 0, 0, []) : zm_E) := (congrArg (fun l => l[28]?) cd_103).trans rfl
theorem c_103_29 : (zm_cd 103)[29]? = some ((50, .invokevirtual 225, 3, 45, 0, 0, 0, 0, [8]) : zm_E) := (congrArg (fun l => l[29]?) cd_103).trans rfl
theorem c_103_30 : (zm_cd 103)[30]? = some ((53, .iload_n 3, 1, 3, 0, 0, 0, 0, []) : zm_E) := (congrArg (fun l => l[30]?) cd_103).trans rfl
theorem c_103_31 : (zm_cd 103)[31]? = some ((54, .ireturn, 1, 0, 0, 0, 0, 0, []) : zm_E) := (congrArg (fun l => l[31]?) cd_103).trans rfl
theorem cd_104 : zm_cd 104 = zd_104 := rfl
theorem ml_104 : zm_ml 104 = 5 := rfl
theorem ht_104 : zm_ht 104 = [] := rfl
theorem c_104_0 : (zm_cd 104)[0]? = some ((0, .iload_n 1, 1, 1, 0, 0, 0, 0, []) : zm_E) := (congrArg (fun l => l[0]?) cd_104).trans rfl
theorem c_104_1 : (zm_cd 104)[1]? = some ((1, .tableswitch 196 1 5 #[35, 76, 110, 128, 167], 35, 104, 0, 0, 1, 0, [2, 26, 47, 60, 86]) : zm_E) := (congrArg (fun l => l[1]?) cd_104).trans rfl
theorem c_104_2 : (zm_cd 104)[2]? = some ((36, .aload_n 0, 1, 0, 0, 0, 0, 0, []) : zm_E) := (congrArg (fun l => l[2]?) cd_104).trans rfl
theorem c_104_3 : (zm_cd 104)[3]? = some ((37, .iload_n 2, 1, 2, 0, 0, 0, 0, []) : zm_E) := (congrArg (fun l => l[3]?) cd_104).trans rfl
theorem c_104_4 : (zm_cd 104)[4]? = some ((38, .invokevirtual 157, 3, 47, 1, 1, 0, 0, [8]) : zm_E) := (congrArg (fun l => l[4]?) cd_104).trans rfl
theorem c_104_5 : (zm_cd 104)[5]? = some ((41, .ifCond .eq 25, 3, 17, 0, 0, 0, 0, []) : zm_E) := (congrArg (fun l => l[5]?) cd_104).trans rfl
theorem c_104_6 : (zm_cd 104)[6]? = some ((44, .aload_n 0, 1, 0, 0, 0, 0, 0, []) : zm_E) := (congrArg (fun l => l[6]?) cd_104).trans rfl
theorem c_104_7 : (zm_cd 104)[7]? = some ((45, .iload_n 3, 1, 3, 0, 0, 0, 0, []) : zm_E) := (congrArg (fun l => l[7]?) cd_104).trans rfl
theorem c_104_8 : (zm_cd 104)[8]? = some ((46, .invokevirtual 157, 3, 47, 1, 1, 0, 0, [8]) : zm_E) := (congrArg (fun l => l[8]?) cd_104).trans rfl
theorem c_104_9 : (zm_cd 104)[9]? = some ((49, .ifCond .eq 17, 3, 17, 0, 0, 0, 0, []) : zm_E) := (congrArg (fun l => l[9]?) cd_104).trans rfl
theorem c_104_10 : (zm_cd 104)[10]? = some ((52, .iload 4, 2, 4, 0, 0, 0, 0, []) : zm_E) := (congrArg (fun l => l[10]?) cd_104).trans rfl
theorem c_104_11 : (zm_cd 104)[11]? = some ((54, .ifCond .gt 12, 3, 17, 0, 0, 0, 0, []) : zm_E) := (congrArg (fun l => l[11]?) cd_104).trans rfl
theorem c_104_12 : (zm_cd 104)[12]? = some ((57, .aload_n 0, 1, 0, 0, 0, 0, 0, []) : zm_E) := (congrArg (fun l => l[12]?) cd_104).trans rfl
theorem c_104_13 : (zm_cd 104)[13]? = some ((58, .iload_n 2, 1, 2, 0, 0, 0, 0, []) : zm_E) := (congrArg (fun l => l[13]?) cd_104).trans rfl
theorem c_104_14 : (zm_cd 104)[14]? = some ((59, .iload_n 3, 1, 3, 0, 0, 0, 0, []) : zm_E) := (congrArg (fun l => l[14]?) cd_104).trans rfl
theorem c_104_15 : (zm_cd 104)[15]? = some ((60, .invokevirtual 162, 3, 71, 2, 1, 0, 0, [8]) : zm_E) := (congrArg (fun l => l[15]?) cd_104).trans rfl
theorem c_104_16 : (zm_cd 104)[16]? = some ((63, .ifCond .eq 5, 3, 19, 0, 0, 0, 0, []) : zm_E) := (congrArg (fun l => l[16]?) cd_104).trans rfl
theorem c_104_17 : (zm_cd 104)[17]? = some ((66, .iconst 0, 1, 0, 0, 0, 0, 0, []) : zm_E) := (congrArg (fun l => l[17]?) cd_104).trans rfl
theorem c_104_18 : (zm_cd 104)[18]? = some ((67, .ireturn, 1, 1, 0, 0, 0, 0, []) : zm_E) := (congrArg (fun l => l[18]?) cd_104).trans rfl
theorem c_104_19 : (zm_cd 104)[19]? = some ((68, .aload_n 0, 1, 0, 0, 0, 0, 0, []) : zm_E) := (congrArg (fun l => l[19]?) cd_104).trans rfl
theorem c_104_20 : (zm_cd 104)[20]? = some ((69, .iload_n 2, 1, 2, 0, 0, 0, 0, []) : zm_E) := (congrArg (fun l => l[20]?) cd_104).trans rfl
theorem c_104_21 : (zm_cd 104)[21]? = some ((70, .iload_n 3, 1, 3, 0, 0, 0, 0, []) : zm_E) := (congrArg (fun l => l[21]?) cd_104).trans rfl
theorem c_104_22 : (zm_cd 104)[22]? = some ((71, .invokevirtual 174, 3, 76, 2, 1, 0, 0, [8]) : zm_E) := (congrArg (fun l => l[22]?) cd_104).trans rfl
theorem c_104_23 : (zm_cd 104)[23]? = some ((74, .pop, 1, 0, 0, 0, 0, 0, []) : zm_E) := (congrArg (fun l => l[23]?) cd_104).trans rfl
theorem c_104_24 : (zm_cd 104)[24]? = some ((75, .iconst 1, 1, 0, 0, 0, 1, 0, []) : zm_E) := (congrArg (fun l => l[24]?) cd_104).trans rfl
theorem c_104_25 : (zm_cd 104)[25]? = some ((76, .ireturn, 1, 1, 0, 0, 0, 0, []) : zm_E) := (congrArg (fun l => l[25]?) cd_104).trans rfl
theorem c_104_26 : (zm_cd 104)[26]? = some ((77, .aload_n 0, 1, 0, 0, 0, 0, 0, []) : zm_E) := (congrArg (fun l => l[26]?) cd_104).trans rfl
theorem c_104_27 : (zm_cd 104)[27]? = some ((78, .invokevirtual 148, 3, 55, 0, 0, 0, 0, [8]) : zm_E) := (congrArg (fun l => l[27]?) cd_104).trans rfl
theorem c_104_28 : (zm_cd 104)[28]? = some ((81, .iload_n 2, 1, 2, 0, 0, 0, 0, []) : zm_E) := (congrArg (fun l => l[28]?) cd_104).trans rfl
theorem c_104_29 : (zm_cd 104)[29]? = some ((82, .aload_n 0, 1, 0, 0, 0, 0, 0, []) : zm_E) := (congrArg (fun l => l[29]?) cd_104).trans rfl
theorem c_104_30 : (zm_cd 104)[30]? = some ((83, .getfield 101, 3, 8, 16, 0, 0, 0, []) : zm_E) := (congrArg (fun l => l[30]?) cd_104).trans rfl
theorem c_104_31 : (zm_cd 104)[31]? = some ((86, .if_icmp .ge 10, 3, 36, 0, 0, 0, 0, []) : zm_E) := (congrArg (fun l => l[31]?) cd_104).trans rfl
theorem c_104_32 : (zm_cd 104)[32]? = some ((89, .iload_n 3, 1, 3, 0, 0, 0, 0, []) : zm_E) := (congrArg (fun l => l[32]?) cd_104).trans rfl
theorem c_104_33 : (zm_cd 104)[33]? = some ((90, .iload 4, 2, 4, 0, 0, 0, 0, []) : zm_E) := (congrArg (fun l => l[33]?) cd_104).trans rfl
theorem c_104_34 : (zm_cd 104)[34]? = some ((92, .iadd, 1, 0, 0, 0, 0, 0, []) : zm_E) := (congrArg (fun l => l[34]?) cd_104).trans rfl
theorem c_104_35 : (zm_cd 104)[35]? = some ((93, .ifCond .le 5, 3, 38, 0, 0, 0, 0, []) : zm_E) := (congrArg (fun l => l[35]?) cd_104).trans rfl
theorem c_104_36 : (zm_cd 104)[36]? = some ((96, .iconst 0, 1, 0, 0, 0, 0, 0, []) : zm_E) := (congrArg (fun l => l[36]?) cd_104).trans rfl
theorem c_104_37 : (zm_cd 104)[37]? = some ((97, .ireturn, 1, 1, 0, 0, 0, 0, []) : zm_E) := (congrArg (fun l => l[37]?) cd_104).trans rfl
theorem c_104_38 : (zm_cd 104)[38]? = some ((98, .aload_n 0, 1, 0, 0, 0, 0, 0, []) : zm_E) := (congrArg (fun l => l[38]?) cd_104).trans rfl
theorem c_104_39 : (zm_cd 104)[39]? = some ((99, .aload_n 0, 1, 0, 0, 0, 0, 0, []) : zm_E) := (congrArg (fun l => l[39]?) cd_104).trans rfl
theorem c_104_40 : (zm_cd 104)[40]? = some ((100, .getfield 44, 3, 8, 14, 1, 0, 0, []) : zm_E) := (congrArg (fun l => l[40]?) cd_104).trans rfl
theorem c_104_41 : (zm_cd 104)[41]? = some ((103, .iload_n 2, 1, 2, 0, 0, 0, 0, []) : zm_E) := (congrArg (fun l => l[41]?) cd_104).trans rfl
theorem c_104_42 : (zm_cd 104)[42]? = some ((104, .iaload, 1, 0, 0, 0, 0, 0, []) : zm_E) := (congrArg (fun l => l[42]?) cd_104).trans rfl
theorem c_104_43 : (zm_cd 104)[43]? = some ((105, .invokevirtual 177, 3, 78, 1, 1, 0, 0, [8]) : zm_E) := (congrArg (fun l => l[43]?) cd_104).trans rfl
theorem c_104_44 : (zm_cd 104)[44]? = some ((108, .pop, 1, 0, 0, 0, 0, 0, []) : zm_E) := (congrArg (fun l => l[44]?) cd_104).trans rfl
theorem c_104_45 : (zm_cd 104)[45]? = some ((109, .iconst 1, 1, 0, 0, 0, 1, 0, []) : zm_E) := (congrArg (fun l => l[45]?) cd_104).trans rfl
theorem c_104_46 : (zm_cd 104)[46]? = some ((110, .ireturn, 1, 1, 0, 0, 0, 0, []) : zm_E) := (congrArg (fun l => l[46]?) cd_104).trans rfl
theorem c_104_47 : (zm_cd 104)[47]? = some ((111, .iload_n 2, 1, 2, 0, 0, 0, 0, []) : zm_E) := (congrArg (fun l => l[47]?) cd_104).trans rfl
theorem c_104_48 : (zm_cd 104)[48]? = some ((112, .iload_n 3, 1, 3, 0, 0, 0, 0, []) : zm_E) := (congrArg (fun l => l[48]?) cd_104).trans rfl
theorem c_104_49 : (zm_cd 104)[49]? = some ((113, .iadd, 1, 0, 0, 0, 0, 0, []) : zm_E) := (congrArg (fun l => l[49]?) cd_104).trans rfl
theorem c_104_50 : (zm_cd 104)[50]? = some ((114, .iload 4, 2, 4, 0, 0, 0, 0, []) : zm_E) := (congrArg (fun l => l[50]?) cd_104).trans rfl
theorem c_104_51 : (zm_cd 104)[51]? = some ((116, .iadd, 1, 0, 0, 0, 0, 0, []) : zm_E) := (congrArg (fun l => l[51]?) cd_104).trans rfl
theorem c_104_52 : (zm_cd 104)[52]? = some ((117, .ifCond .le 5, 3, 55, 0, 0, 0, 0, []) : zm_E) := (congrArg (fun l => l[52]?) cd_104).trans rfl
theorem c_104_53 : (zm_cd 104)[53]? = some ((120, .iconst 0, 1, 0, 0, 0, 0, 0, []) : zm_E) := (congrArg (fun l => l[53]?) cd_104).trans rfl
theorem c_104_54 : (zm_cd 104)[54]? = some ((121, .ireturn, 1, 1, 0, 0, 0, 0, []) : zm_E) := (congrArg (fun l => l[54]?) cd_104).trans rfl
theorem c_104_55 : (zm_cd 104)[55]? = some ((122, .aload_n 0, 1, 0, 0, 0, 0, 0, []) : zm_E) := (congrArg (fun l => l[55]?) cd_104).trans rfl
theorem c_104_56 : (zm_cd 104)[56]? = some ((123, .invokevirtual 180, 3, 80, 0, 1, 0, 0, [8]) : zm_E) := (congrArg (fun l => l[56]?) cd_104).trans rfl
theorem c_104_57 : (zm_cd 104)[57]? = some ((126, .pop, 1, 0, 0, 0, 0, 0, []) : zm_E) := (congrArg (fun l => l[57]?) cd_104).trans rfl
theorem c_104_58 : (zm_cd 104)[58]? = some ((127, .iconst 1, 1, 0, 0, 0, 1, 0, []) : zm_E) := (congrArg (fun l => l[58]?) cd_104).trans rfl
theorem c_104_59 : (zm_cd 104)[59]? = some ((128, .ireturn, 1, 1, 0, 0, 0, 0, []) : zm_E) := (congrArg (fun l => l[59]?) cd_104).trans rfl
theorem c_104_60 : (zm_cd 104)[60]? = some ((129, .aload_n 0, 1, 0, 0, 0, 0, 0, []) : zm_E) := (congrArg (fun l => l[60]?) cd_104).trans rfl
theorem c_104_61 : (zm_cd 104)[61]? = some ((130, .iload_n 2, 1, 2, 0, 0, 0, 0, []) : zm_E) := (congrArg (fun l => l[61]?) cd_104).trans rfl
theorem c_104_62 : (zm_cd 104)[62]? = some ((131, .invokevirtual 157, 3, 47, 1, 1, 0, 0, [8]) : zm_E) := (congrArg (fun l => l[62]?) cd_104).trans rfl
theorem c_104_63 : (zm_cd 104)[63]? = some ((134, .ifCond .eq 18, 3, 72, 0, 0, 0, 0, []) : zm_E) := (congrArg (fun l => l[63]?) cd_104).trans rfl
theorem c_104_64 : (zm_cd 104)[64]? = some ((137, .aload_n 0, 1, 0, 0, 0, 0, 0, []) : zm_E) := (congrArg (fun l => l[64]?) cd_104).trans rfl
theorem c_104_65 : (zm_cd 104)[65]? = some ((138, .iload_n 2, 1, 2, 0, 0, 0, 0, []) : zm_E) := (congrArg (fun l => l[65]?) cd_104).trans rfl
theorem c_104_66 : (zm_cd 104)[66]? = some ((139, .invokevirtual 97, 3, 48, 1, 1, 0, 0, [8]) : zm_E) := (congrArg (fun l => l[66]?) cd_104).trans rfl
theorem c_104_67 : (zm_cd 104)[67]? = some ((142, .ifCond .eq 10, 3, 72, 0, 0, 0, 0, []) : zm_E) := (congrArg (fun l => l[67]?) cd_104).trans rfl
theorem c_104_68 : (zm_cd 104)[68]? = some ((145, .iload_n 3, 1, 3, 0, 0, 0, 0, []) : zm_E) := (congrArg (fun l => l[68]?) cd_104).trans rfl
theorem c_104_69 : (zm_cd 104)[69]? = some ((146, .iload 4, 2, 4, 0, 0, 0, 0, []) : zm_E) := (congrArg (fun l => l[69]?) cd_104).trans rfl
theorem c_104_70 : (zm_cd 104)[70]? = some ((148, .iadd, 1, 0, 0, 0, 0, 0, []) : zm_E) := (congrArg (fun l => l[70]?) cd_104).trans rfl
theorem c_104_71 : (zm_cd 104)[71]? = some ((149, .ifCond .le 5, 3, 74, 0, 0, 0, 0, []) : zm_E) := (congrArg (fun l => l[71]?) cd_104).trans rfl
theorem c_104_72 : (zm_cd 104)[72]? = some ((152, .iconst 0, 1, 0, 0, 0, 0, 0, []) : zm_E) := (congrArg (fun l => l[72]?) cd_104).trans rfl
theorem c_104_73 : (zm_cd 104)[73]? = some ((153, .ireturn, 1, 1, 0, 0, 0, 0, []) : zm_E) := (congrArg (fun l => l[73]?) cd_104).trans rfl
theorem c_104_74 : (zm_cd 104)[74]? = some ((154, .aload_n 0, 1, 0, 0, 0, 0, 0, []) : zm_E) := (congrArg (fun l => l[74]?) cd_104).trans rfl
theorem c_104_75 : (zm_cd 104)[75]? = some ((155, .getfield 7, 3, 8, 0, 1, 0, 0, []) : zm_E) := (congrArg (fun l => l[75]?) cd_104).trans rfl
theorem c_104_76 : (zm_cd 104)[76]? = some ((158, .iconst 1, 1, 0, 0, 0, 1, 0, []) : zm_E) := (congrArg (fun l => l[76]?) cd_104).trans rfl
theorem c_104_77 : (zm_cd 104)[77]? = some ((159, .dup2, 1, 0, 0, 0, 0, 0, []) : zm_E) := (congrArg (fun l => l[77]?) cd_104).trans rfl
theorem c_104_78 : (zm_cd 104)[78]? = some ((160, .iaload, 1, 0, 0, 0, 0, 0, []) : zm_E) := (congrArg (fun l => l[78]?) cd_104).trans rfl
theorem c_104_79 : (zm_cd 104)[79]? = some ((161, .iconst 1, 1, 0, 0, 0, 1, 0, []) : zm_E) := (congrArg (fun l => l[79]?) cd_104).trans rfl
theorem c_104_80 : (zm_cd 104)[80]? = some ((162, .iload_n 2, 1, 2, 0, 0, 0, 0, []) : zm_E) := (congrArg (fun l => l[80]?) cd_104).trans rfl
theorem c_104_81 : (zm_cd 104)[81]? = some ((163, .ishl, 1, 0, 0, 0, 0, 0, []) : zm_E) := (congrArg (fun l => l[81]?) cd_104).trans rfl
theorem c_104_82 : (zm_cd 104)[82]? = some ((164, .ior, 1, 0, 0, 0, 0, 0, []) : zm_E) := (congrArg (fun l => l[82]?) cd_104).trans rfl
theorem c_104_83 : (zm_cd 104)[83]? = some ((165, .iastore, 1, 0, 0, 0, 0, 0, []) : zm_E) := (congrArg (fun l => l[83]?) cd_104).trans rfl
theorem c_104_84 : (zm_cd 104)[84]? = some ((166, .iconst 1, 1, 0, 0, 0, 1, 0, []) : zm_E) := (congrArg (fun l => l[84]?) cd_104).trans rfl
theorem c_104_85 : (zm_cd 104)[85]? = some ((167, .ireturn, 1, 1, 0, 0, 0, 0, []) : zm_E) := (congrArg (fun l => l[85]?) cd_104).trans rfl
theorem c_104_86 : (zm_cd 104)[86]? = some ((168, .aload_n 0, 1, 0, 0, 0, 0, 0, []) : zm_E) := (congrArg (fun l => l[86]?) cd_104).trans rfl
theorem c_104_87 : (zm_cd 104)[87]? = some ((169, .iload_n 2, 1, 2, 0, 0, 0, 0, []) : zm_E) := (congrArg (fun l => l[87]?) cd_104).trans rfl
theorem c_104_88 : (zm_cd 104)[88]? = some ((170, .invokevirtual 157, 3, 47, 1, 1, 0, 0, [8]) : zm_E) := (congrArg (fun l => l[88]?) cd_104).trans rfl
theorem c_104_89 : (zm_cd 104)[89]? = some ((173, .ifCond .eq 11, 3, 94, 0, 0, 0, 0, []) : zm_E) := (congrArg (fun l => l[89]?) cd_104).trans rfl
theorem c_104_90 : (zm_cd 104)[90]? = some ((176, .aload_n 0, 1, 0, 0, 0, 0, 0, []) : zm_E) := (congrArg (fun l => l[90]?) cd_104).trans rfl
theorem c_104_91 : (zm_cd 104)[91]? = some ((177, .iload_n 3, 1, 3, 0, 0, 0, 0, []) : zm_E) := (congrArg (fun l => l[91]?) cd_104).trans rfl
theorem c_104_92 : (zm_cd 104)[92]? = some ((178, .invokevirtual 157, 3, 47, 1, 1, 0, 0, [8]) : zm_E) := (congrArg (fun l => l[92]?) cd_104).trans rfl
theorem c_104_93 : (zm_cd 104)[93]? = some ((181, .ifCond .ne 5, 3, 96, 0, 0, 0, 0, []) : zm_E) := (congrArg (fun l => l[93]?) cd_104).trans rfl
theorem c_104_94 : (zm_cd 104)[94]? = some ((184, .iconst 0, 1, 0, 0, 0, 0, 0, []) : zm_E) := (congrArg (fun l => l[94]?) cd_104).trans rfl
theorem c_104_95 : (zm_cd 104)[95]? = some ((185, .ireturn, 1, 1, 0, 0, 0, 0, []) : zm_E) := (congrArg (fun l => l[95]?) cd_104).trans rfl
theorem c_104_96 : (zm_cd 104)[96]? = some ((186, .aload_n 0, 1, 0, 0, 0, 0, 0, []) : zm_E) := (congrArg (fun l => l[96]?) cd_104).trans rfl
theorem c_104_97 : (zm_cd 104)[97]? = some ((187, .iload_n 2, 1, 2, 0, 0, 0, 0, []) : zm_E) := (congrArg (fun l => l[97]?) cd_104).trans rfl
theorem c_104_98 : (zm_cd 104)[98]? = some ((188, .iload_n 3, 1, 3, 0, 0, 0, 0, []) : zm_E) := (congrArg (fun l => l[98]?) cd_104).trans rfl
theorem c_104_99 : (zm_cd 104)[99]? = some ((189, .iload 4, 2, 4, 0, 0, 0, 0, []) : zm_E) := (congrArg (fun l => l[99]?) cd_104).trans rfl
theorem c_104_100 : (zm_cd 104)[100]? = some ((191, .invokevirtual 170, 3, 74, 3, 1, 0, 0, [8]) : zm_E) := (congrArg (fun l => l[100]?) cd_104).trans rfl
theorem c_104_101 : (zm_cd 104)[101]? = some ((194, .pop, 1, 0, 0, 0, 0, 0, []) : zm_E) := (congrArg (fun l => l[101]?) cd_104).trans rfl
theorem c_104_102 : (zm_cd 104)[102]? = some ((195, .iconst 1, 1, 0, 0, 0, 1, 0, []) : zm_E) := (congrArg (fun l => l[102]?) cd_104).trans rfl
theorem c_104_103 : (zm_cd 104)[103]? = some ((196, .ireturn, 1, 1, 0, 0, 0, 0, []) : zm_E) := (congrArg (fun l => l[103]?) cd_104).trans rfl
theorem c_104_104 : (zm_cd 104)[104]? = some ((197, .iload_n 2, 1, 2, 0, 0, 0, 0, []) : zm_E) := (congrArg (fun l => l[104]?) cd_104).trans rfl
theorem c_104_105 : (zm_cd 104)[105]? = some ((198, .iload_n 3, 1, 3, 0, 0, 0, 0, []) : zm_E) := (congrArg (fun l => l[105]?) cd_104).trans rfl
theorem c_104_106 : (zm_cd 104)[106]? = some ((199, .iadd, 1, 0, 0, 0, 0, 0, []) : zm_E) := (congrArg (fun l => l[106]?) cd_104).trans rfl
theorem c_104_107 : (zm_cd 104)[107]? = some ((200, .iload 4, 2, 4, 0, 0, 0, 0, []) : zm_E) := (congrArg (fun l => l[107]?) cd_104).trans rfl
theorem c_104_108 : (zm_cd 104)[108]? = some ((202, .iadd, 1, 0, 0, 0, 0, 0, []) : zm_E) := (congrArg (fun l => l[108]?) cd_104).trans rfl
theorem c_104_109 : (zm_cd 104)[109]? = some ((203, .ifCond .le 5, 3, 112, 0, 0, 0, 0, []) : zm_E) := (congrArg (fun l => l[109]?) cd_104).trans rfl
theorem c_104_110 : (zm_cd 104)[110]? = some ((206, .iconst 0, 1, 0, 0, 0, 0, 0, []) : zm_E) := (congrArg (fun l => l[110]?) cd_104).trans rfl
theorem c_104_111 : (zm_cd 104)[111]? = some ((207, .ireturn, 1, 1, 0, 0, 0, 0, []) : zm_E) := (congrArg (fun l => l[111]?) cd_104).trans rfl
theorem c_104_112 : (zm_cd 104)[112]? = some ((208, .aload_n 0, 1, 0, 0, 0, 0, 0, []) : zm_E) := (congrArg (fun l => l[112]?) cd_104).trans rfl
theorem c_104_113 : (zm_cd 104)[113]? = some ((209, .invokevirtual 183, 3, 83, 0, 1, 0, 0, [8]) : zm_E) := (congrArg (fun l => l[113]?) cd_104).trans rfl
theorem c_104_114 : (zm_cd 104)[114]? = some ((212, .pop, 1, 0, 0, 0, 0, 0, []) : zm_E) := (congrArg (fun l => l[114]?) cd_104).trans rfl
theorem c_104_115 : (zm_cd 104)[115]? = some ((213, .iconst 1, 1, 0, 0, 0, 1, 0, []) : zm_E) := (congrArg (fun l => l[115]?) cd_104).trans rfl
theorem c_104_116 : (zm_cd 104)[116]? = some ((214, .ireturn, 1, 1, 0, 0, 0, 0, []) : zm_E) := (congrArg (fun l => l[116]?) cd_104).trans rfl
theorem cd_105 : zm_cd 105 = zd_105 := rfl
theorem ml_105 : zm_ml 105 = 6 := rfl
theorem ht_105 : zm_ht 105 = [] := rfl
theorem c_105_0 : (zm_cd 105)[0]? = some ((0, .iload_n 1, 1, 1, 0, 0, 0, 0, []) : zm_E) := (congrArg (fun l => l[0]?) cd_105).trans rfl
theorem c_105_1 : (zm_cd 105)[1]? = some ((1, .sipush 1000, 3, 0, 0, 0, 1000, 0, []) : zm_E) := (congrArg (fun l => l[1]?) cd_105).trans rfl
theorem c_105_2 : (zm_cd 105)[2]? = some ((4, .idiv, 1, 0, 0, 0, 0, 0, []) : zm_E) := (congrArg (fun l => l[2]?) cd_105).trans rfl
theorem c_105_3 : (zm_cd 105)[3]? = some ((5, .istore_n 2, 1, 2, 0, 0, 0, 0, []) : zm_E) := (congrArg (fun l => l[3]?) cd_105).trans rfl
theorem c_105_4 : (zm_cd 105)[4]? = some ((6, .iload_n 1, 1, 1, 0, 0, 0, 0, []) : zm_E) := (congrArg (fun l => l[4]?) cd_105).trans rfl
theorem c_105_5 : (zm_cd 105)[5]? = some ((7, .bipush 100, 2, 0, 0, 0, 100, 0, []) : zm_E) := (congrArg (fun l => l[5]?) cd_105).trans rfl
theorem c_105_6 : (zm_cd 105)[6]? = some ((9, .idiv, 1, 0, 0, 0, 0, 0, []) : zm_E) := (congrArg (fun l => l[6]?) cd_105).trans rfl
theorem c_105_7 : (zm_cd 105)[7]? = some ((10, .bipush 10, 2, 0, 0, 0, 10, 0, []) : zm_E) := (congrArg (fun l => l[7]?) cd_105).trans rfl
theorem c_105_8 : (zm_cd 105)[8]? = some ((12, .irem, 1, 0, 0, 0, 0, 0, []) : zm_E) := (congrArg (fun l => l[8]?) cd_105).trans rfl
theorem c_105_9 : (zm_cd 105)[9]? = some ((13, .istore_n 3, 1, 3, 0, 0, 0, 0, []) : zm_E) := (congrArg (fun l => l[9]?) cd_105).trans rfl
theorem c_105_10 : (zm_cd 105)[10]? = some ((14, .iload_n 1, 1, 1, 0, 0, 0, 0, []) : zm_E) := (congrArg (fun l => l[10]?) cd_105).trans rfl
theorem c_105_11 : (zm_cd 105)[11]? = some ((15, .bipush 10, 2, 0, 0, 0, 10, 0, []) : zm_E) := (congrArg (fun l => l[11]?) cd_105).trans rfl
theorem c_105_12 : (zm_cd 105)[12]? = some ((17, .idiv, 1, 0, 0, 0, 0, 0, []) : zm_E) := (congrArg (fun l => l[12]?) cd_105).trans rfl
theorem c_105_13 : (zm_cd 105)[13]? = some ((18, .bipush 10, 2, 0, 0, 0, 10, 0, []) : zm_E) := (congrArg (fun l => l[13]?) cd_105).trans rfl
theorem c_105_14 : (zm_cd 105)[14]? = some ((20, .irem, 1, 0, 0, 0, 0, 0, []) : zm_E) := (congrArg (fun l => l[14]?) cd_105).trans rfl
theorem c_105_15 : (zm_cd 105)[15]? = some ((21, .istore 4, 2, 4, 0, 0, 0, 0, []) : zm_E) := (congrArg (fun l => l[15]?) cd_105).trans rfl
theorem c_105_16 : (zm_cd 105)[16]? = some ((23, .iload_n 1, 1, 1, 0, 0, 0, 0, []) : zm_E) := (congrArg (fun l => l[16]?) cd_105).trans rfl
theorem c_105_17 : (zm_cd 105)[17]? = some ((24, .bipush 10, 2, 0, 0, 0, 10, 0, []) : zm_E) := (congrArg (fun l => l[17]?) cd_105).trans rfl
theorem c_105_18 : (zm_cd 105)[18]? = some ((26, .irem, 1, 0, 0, 0, 0, 0, []) : zm_E) := (congrArg (fun l => l[18]?) cd_105).trans rfl
theorem c_105_19 : (zm_cd 105)[19]? = some ((27, .istore 5, 2, 5, 0, 0, 0, 0, []) : zm_E) := (congrArg (fun l => l[19]?) cd_105).trans rfl
theorem c_105_20 : (zm_cd 105)[20]? = some ((29, .iload_n 2, 1, 2, 0, 0, 0, 0, []) : zm_E) := (congrArg (fun l => l[20]?) cd_105).trans rfl
theorem c_105_21 : (zm_cd 105)[21]? = some ((30, .i2l, 1, 0, 0, 0, 0, 0, []) : zm_E) := (congrArg (fun l => l[21]?) cd_105).trans rfl
theorem c_105_22 : (zm_cd 105)[22]? = some ((31, .lconst 1, 1, 0, 0, 0, 0, 1, []) : zm_E) := (congrArg (fun l => l[22]?) cd_105).trans rfl
theorem c_105_23 : (zm_cd 105)[23]? = some ((32, .ldc2_w 228, 3, 0, 0, 0, 0, 6, []) : zm_E) := (congrArg (fun l => l[23]?) cd_105).trans rfl
theorem c_105_24 : (zm_cd 105)[24]? = some ((35, .invokestatic 78, 3, 40, 3, 1, 0, 0, []) : zm_E) := (congrArg (fun l => l[24]?) cd_105).trans rfl
theorem c_105_25 : (zm_cd 105)[25]? = some ((38, .ifCond .eq 14, 3, 33, 0, 0, 0, 0, []) : zm_E) := (congrArg (fun l => l[25]?) cd_105).trans rfl
theorem c_105_26 : (zm_cd 105)[26]? = some ((41, .aload_n 0, 1, 0, 0, 0, 0, 0, []) : zm_E) := (congrArg (fun l => l[26]?) cd_105).trans rfl
theorem c_105_27 : (zm_cd 105)[27]? = some ((42, .iload_n 2, 1, 2, 0, 0, 0, 0, []) : zm_E) := (congrArg (fun l => l[27]?) cd_105).trans rfl
theorem c_105_28 : (zm_cd 105)[28]? = some ((43, .iload_n 3, 1, 3, 0, 0, 0, 0, []) : zm_E) := (congrArg (fun l => l[28]?) cd_105).trans rfl
theorem c_105_29 : (zm_cd 105)[29]? = some ((44, .iload 4, 2, 4, 0, 0, 0, 0, []) : zm_E) := (congrArg (fun l => l[29]?) cd_105).trans rfl
theorem c_105_30 : (zm_cd 105)[30]? = some ((46, .iload 5, 2, 5, 0, 0, 0, 0, []) : zm_E) := (congrArg (fun l => l[30]?) cd_105).trans rfl
theorem c_105_31 : (zm_cd 105)[31]? = some ((48, .invokevirtual 230, 3, 104, 4, 1, 0, 0, [8]) : zm_E) := (congrArg (fun l => l[31]?) cd_105).trans rfl
theorem c_105_32 : (zm_cd 105)[32]? = some ((51, .ireturn, 1, 1, 0, 0, 0, 0, []) : zm_E) := (congrArg (fun l => l[32]?) cd_105).trans rfl
theorem c_105_33 : (zm_cd 105)[33]? = some ((52, .iload_n 2, 1, 2, 0, 0, 0, 0, []) : zm_E) := (congrArg (fun l => l[33]?) cd_105).trans rfl
theorem c_105_34 : (zm_cd 105)[34]? = some ((53, .bipush 7, 2, 0, 0, 0, 7, 0, []) : zm_E) := (congrArg (fun l => l[34]?) cd_105).trans rfl
theorem c_105_35 : (zm_cd 105)[35]? = some ((55, .if_icmp .ne 41, 3, 55, 0, 0, 0, 0, []) : zm_E) := (congrArg (fun l => l[35]?) cd_105).trans rfl
theorem c_105_36 : (zm_cd 105)[36]? = some ((58, .aload_n 0, 1, 0, 0, 0, 0, 0, []) : zm_E) := (congrArg (fun l => l[36]?) cd_105).trans rfl
theorem c_105_37 : (zm_cd 105)[37]? = some ((59, .iload_n 3, 1, 3, 0, 0, 0, 0, []) : zm_E) := (congrArg (fun l => l[37]?) cd_105).trans rfl
theorem c_105_38 : (zm_cd 105)[38]? = some ((60, .invokevirtual 157, 3, 47, 1, 1, 0, 0, [8]) : zm_E) := (congrArg (fun l => l[38]?) cd_105).trans rfl
theorem c_105_39 : (zm_cd 105)[39]? = some ((63, .ifCond .eq 31, 3, 53, 0, 0, 0, 0, []) : zm_E) := (congrArg (fun l => l[39]?) cd_105).trans rfl
theorem c_105_40 : (zm_cd 105)[40]? = some ((66, .aload_n 0, 1, 0, 0, 0, 0, 0, []) : zm_E) := (congrArg (fun l => l[40]?) cd_105).trans rfl
theorem c_105_41 : (zm_cd 105)[41]? = some ((67, .iload 4, 2, 4, 0, 0, 0, 0, []) : zm_E) := (congrArg (fun l => l[41]?) cd_105).trans rfl
theorem c_105_42 : (zm_cd 105)[42]? = some ((69, .invokevirtual 157, 3, 47, 1, 1, 0, 0, [8]) : zm_E) := (congrArg (fun l => l[42]?) cd_105).trans rfl
theorem c_105_43 : (zm_cd 105)[43]? = some ((72, .ifCond .eq 22, 3, 53, 0, 0, 0, 0, []) : zm_E) := (congrArg (fun l => l[43]?) cd_105).trans rfl
theorem c_105_44 : (zm_cd 105)[44]? = some ((75, .iload 5, 2, 5, 0, 0, 0, 0, []) : zm_E) := (congrArg (fun l => l[44]?) cd_105).trans rfl
theorem c_105_45 : (zm_cd 105)[45]? = some ((77, .ifCond .ne 17, 3, 53, 0, 0, 0, 0, []) : zm_E) := (congrArg (fun l => l[45]?) cd_105).trans rfl
theorem c_105_46 : (zm_cd 105)[46]? = some ((80, .aload_n 0, 1, 0, 0, 0, 0, 0, []) : zm_E) := (congrArg (fun l => l[46]?) cd_105).trans rfl
theorem c_105_47 : (zm_cd 105)[47]? = some ((81, .iload_n 3, 1, 3, 0, 0, 0, 0, []) : zm_E) := (congrArg (fun l => l[47]?) cd_105).trans rfl
theorem c_105_48 : (zm_cd 105)[48]? = some ((82, .invokevirtual 90, 3, 50, 1, 1, 0, 0, [8]) : zm_E) := (congrArg (fun l => l[48]?) cd_105).trans rfl
theorem c_105_49 : (zm_cd 105)[49]? = some ((85, .iload 4, 2, 4, 0, 0, 0, 0, []) : zm_E) := (congrArg (fun l => l[49]?) cd_105).trans rfl
theorem c_105_50 : (zm_cd 105)[50]? = some ((87, .if_icmp .ne 7, 3, 53, 0, 0, 0, 0, []) : zm_E) := (congrArg (fun l => l[50]?) cd_105).trans rfl
theorem c_105_51 : (zm_cd 105)[51]? = some ((90, .iconst 1, 1, 0, 0, 0, 1, 0, []) : zm_E) := (congrArg (fun l => l[51]?) cd_105).trans rfl
theorem c_105_52 : (zm_cd 105)[52]? = some ((91, .goto 4, 3, 54, 0, 0, 0, 0, []) : zm_E) := (congrArg (fun l => l[52]?) cd_105).trans rfl
theorem c_105_53 : (zm_cd 105)[53]? = some ((94, .iconst 0, 1, 0, 0, 0, 0, 0, []) : zm_E) := (congrArg (fun l => l[53]?) cd_105).trans rfl
theorem c_105_54 : (zm_cd 105)[54]? = some ((95, .ireturn, 1, 1, 0, 0, 0, 0, []) : zm_E) := (congrArg (fun l => l[54]?) cd_105).trans rfl
theorem c_105_55 : (zm_cd 105)[55]? = some ((96, .iload_n 2, 1, 2, 0, 0, 0, 0, []) : zm_E) := (congrArg (fun l => l[55]?) cd_105).trans rfl
theorem c_105_56 : (zm_cd 105)[56]? = some ((97, .bipush 8, 2, 0, 0, 0, 8, 0, []) : zm_E) := (congrArg (fun l => l[56]?) cd_105).trans rfl
theorem c_105_57 : (zm_cd 105)[57]? = some ((99, .if_icmp .ne 28, 3, 72, 0, 0, 0, 0, []) : zm_E) := (congrArg (fun l => l[57]?) cd_105).trans rfl
theorem c_105_58 : (zm_cd 105)[58]? = some ((102, .iload_n 3, 1, 3, 0, 0, 0, 0, []) : zm_E) := (congrArg (fun l => l[58]?) cd_105).trans rfl
theorem c_105_59 : (zm_cd 105)[59]? = some ((103, .ifCond .ne 22, 3, 70, 0, 0, 0, 0, []) : zm_E) := (congrArg (fun l => l[59]?) cd_105).trans rfl
theorem c_105_60 : (zm_cd 105)[60]? = some ((106, .aload_n 0, 1, 0, 0, 0, 0, 0, []) : zm_E) := (congrArg (fun l => l[60]?) cd_105).trans rfl
theorem c_105_61 : (zm_cd 105)[61]? = some ((107, .invokevirtual 154, 3, 52, 0, 1, 0, 0, [8]) : zm_E) := (congrArg (fun l => l[61]?) cd_105).trans rfl
theorem c_105_62 : (zm_cd 105)[62]? = some ((110, .bipush 10, 2, 0, 0, 0, 10, 0, []) : zm_E) := (congrArg (fun l => l[62]?) cd_105).trans rfl
theorem c_105_63 : (zm_cd 105)[63]? = some ((112, .iload 4, 2, 4, 0, 0, 0, 0, []) : zm_E) := (congrArg (fun l => l[63]?) cd_105).trans rfl
theorem c_105_64 : (zm_cd 105)[64]? = some ((114, .imul, 1, 0, 0, 0, 0, 0, []) : zm_E) := (congrArg (fun l => l[64]?) cd_105).trans rfl
theorem c_105_65 : (zm_cd 105)[65]? = some ((115, .iload 5, 2, 5, 0, 0, 0, 0, []) : zm_E) := (congrArg (fun l => l[65]?) cd_105).trans rfl
theorem c_105_66 : (zm_cd 105)[66]? = some ((117, .iadd, 1, 0, 0, 0, 0, 0, []) : zm_E) := (congrArg (fun l => l[66]?) cd_105).trans rfl
theorem c_105_67 : (zm_cd 105)[67]? = some ((118, .if_icmp .gt 7, 3, 70, 0, 0, 0, 0, []) : zm_E) := (congrArg (fun l => l[67]?) cd_105).trans rfl
theorem c_105_68 : (zm_cd 105)[68]? = some ((121, .iconst 1, 1, 0, 0, 0, 1, 0, []) : zm_E) := (congrArg (fun l => l[68]?) cd_105).trans rfl
theorem c_105_69 : (zm_cd 105)[69]? = some ((122, .goto 4, 3, 71, 0, 0, 0, 0, []) : zm_E) := (congrArg (fun l => l[69]?) cd_105).trans rfl
theorem c_105_70 : (zm_cd 105)[70]? = some ((125, .iconst 0, 1, 0, 0, 0, 0, 0, []) : zm_E) := (congrArg (fun l => l[70]?) cd_105).trans rfl
theorem c_105_71 : (zm_cd 105)[71]? = some ((126, .ireturn, 1, 1, 0, 0, 0, 0, []) : zm_E) := (congrArg (fun l => l[71]?) cd_105).trans rfl
theorem c_105_72 : (zm_cd 105)[72]? = some ((127, .iload_n 2, 1, 2, 0, 0, 0, 0, []) : zm_E) := (congrArg (fun l => l[72]?) cd_105).trans rfl
theorem c_105_73 : (zm_cd 105)[73]? = some ((128, .bipush 9, 2, 0, 0, 0, 9, 0, []) : zm_E) := (congrArg (fun l => l[73]?) cd_105).trans rfl
theorem c_105_74 : (zm_cd 105)[74]? = some ((130, .if_icmp .ne 37, 3, 92, 0, 0, 0, 0, []) : zm_E) := (congrArg (fun l => l[74]?) cd_105).trans rfl
theorem c_105_75 : (zm_cd 105)[75]? = some ((133, .iload_n 3, 1, 3, 0, 0, 0, 0, []) : zm_E) := (congrArg (fun l => l[75]?) cd_105).trans rfl
theorem c_105_76 : (zm_cd 105)[76]? = some ((134, .ifCond .ne 33, 3, 92, 0, 0, 0, 0, []) : zm_E) := (congrArg (fun l => l[76]?) cd_105).trans rfl
theorem c_105_77 : (zm_cd 105)[77]? = some ((137, .iload 4, 2, 4, 0, 0, 0, 0, []) : zm_E) := (congrArg (fun l => l[77]?) cd_105).trans rfl
theorem c_105_78 : (zm_cd 105)[78]? = some ((139, .iconst 2, 1, 0, 0, 0, 2, 0, []) : zm_E) := (congrArg (fun l => l[78]?) cd_105).trans rfl
theorem c_105_79 : (zm_cd 105)[79]? = some ((140, .if_icmp .ge 27, 3, 92, 0, 0, 0, 0, []) : zm_E) := (congrArg (fun l => l[79]?) cd_105).trans rfl
theorem c_105_80 : (zm_cd 105)[80]? = some ((143, .aload_n 0, 1, 0, 0, 0, 0, 0, []) : zm_E) := (congrArg (fun l => l[80]?) cd_105).trans rfl
theorem c_105_81 : (zm_cd 105)[81]? = some ((144, .iload 4, 2, 4, 0, 0, 0, 0, []) : zm_E) := (congrArg (fun l => l[81]?) cd_105).trans rfl
theorem c_105_82 : (zm_cd 105)[82]? = some ((146, .iconst 1, 1, 0, 0, 0, 1, 0, []) : zm_E) := (congrArg (fun l => l[82]?) cd_105).trans rfl
theorem c_105_83 : (zm_cd 105)[83]? = some ((147, .if_icmp .ne 7, 3, 86, 0, 0, 0, 0, []) : zm_E) := (congrArg (fun l => l[83]?) cd_105).trans rfl
theorem c_105_84 : (zm_cd 105)[84]? = some ((150, .iconst 1, 1, 0, 0, 0, 1, 0, []) : zm_E) := (congrArg (fun l => l[84]?) cd_105).trans rfl
theorem c_105_85 : (zm_cd 105)[85]? = some ((151, .goto 4, 3, 87, 0, 0, 0, 0, []) : zm_E) := (congrArg (fun l => l[85]?) cd_105).trans rfl
theorem c_105_86 : (zm_cd 105)[86]? = some ((154, .iconst 0, 1, 0, 0, 0, 0, 0, []) : zm_E) := (congrArg (fun l => l[86]?) cd_105).trans rfl
theorem c_105_87 : (zm_cd 105)[87]? = some ((155, .invokevirtual 197, 3, 90, 1, 1, 0, 0, [8]) : zm_E) := (congrArg (fun l => l[87]?) cd_105).trans rfl
theorem c_105_88 : (zm_cd 105)[88]? = some ((158, .iload 5, 2, 5, 0, 0, 0, 0, []) : zm_E) := (congrArg (fun l => l[88]?) cd_105).trans rfl
theorem c_105_89 : (zm_cd 105)[89]? = some ((160, .if_icmp .gt 7, 3, 92, 0, 0, 0, 0, []) : zm_E) := (congrArg (fun l => l[89]?) cd_105).trans rfl
theorem c_105_90 : (zm_cd 105)[90]? = some ((163, .iconst 1, 1, 0, 0, 0, 1, 0, []) : zm_E) := (congrArg (fun l => l[90]?) cd_105).trans rfl
theorem c_105_91 : (zm_cd 105)[91]? = some ((164, .goto 4, 3, 93, 0, 0, 0, 0, []) : zm_E) := (congrArg (fun l => l[91]?) cd_105).trans rfl
theorem c_105_92 : (zm_cd 105)[92]? = some ((167, .iconst 0, 1, 0, 0, 0, 0, 0, []) : zm_E) := (congrArg (fun l => l[92]?) cd_105).trans rfl
theorem c_105_93 : (zm_cd 105)[93]? = some ((168, .ireturn, 1, 1, 0, 0, 0, 0, []) : zm_E) := (congrArg (fun l => l[93]?) cd_105).trans rfl
theorem cd_106 : zm_cd 106 = zd_106 := rfl
theorem ml_106 : zm_ml 106 = 8 := rfl
theorem ht_106 : zm_ht 106 = [] := rfl
theorem c_106_0 : (zm_cd 106)[0]? = some ((0, .aload_n 0, 1, 0, 0, 0, 0, 0, []) : zm_E) := (congrArg (fun l => l[0]?) cd_106).trans rfl
theorem c_106_1 : (zm_cd 106)[1]? = some ((1, .iconst 0, 1, 0, 0, 0, 0, 0, []) : zm_E) := (congrArg (fun l => l[1]?) cd_106).trans rfl
theorem c_106_2 : (zm_cd 106)[2]? = some ((2, .putfield 71, 3, 8, 8, 0, 0, 0, []) : zm_E) := (congrArg (fun l => l[2]?) cd_106).trans rfl
theorem c_106_3 : (zm_cd 106)[3]? = some ((5, .lconst 1, 1, 0, 0, 0, 0, 1, []) : zm_E) := (congrArg (fun l => l[3]?) cd_106).trans rfl
theorem c_106_4 : (zm_cd 106)[4]? = some ((6, .lstore 4, 2, 4, 0, 0, 0, 0, []) : zm_E) := (congrArg (fun l => l[4]?) cd_106).trans rfl
theorem c_106_5 : (zm_cd 106)[5]? = some ((8, .iconst 0, 1, 0, 0, 0, 0, 0, []) : zm_E) := (congrArg (fun l => l[5]?) cd_106).trans rfl
theorem c_106_6 : (zm_cd 106)[6]? = some ((9, .istore 6, 2, 6, 0, 0, 0, 0, []) : zm_E) := (congrArg (fun l => l[6]?) cd_106).trans rfl
theorem c_106_7 : (zm_cd 106)[7]? = some ((11, .iload 6, 2, 6, 0, 0, 0, 0, []) : zm_E) := (congrArg (fun l => l[7]?) cd_106).trans rfl
theorem c_106_8 : (zm_cd 106)[8]? = some ((13, .iload_n 1, 1, 1, 0, 0, 0, 0, []) : zm_E) := (congrArg (fun l => l[8]?) cd_106).trans rfl
theorem c_106_9 : (zm_cd 106)[9]? = some ((14, .if_icmp .ge 23, 3, 19, 0, 0, 0, 0, []) : zm_E) := (congrArg (fun l => l[9]?) cd_106).trans rfl
theorem c_106_10 : (zm_cd 106)[10]? = some ((17, .iload 6, 2, 6, 0, 0, 0, 0, []) : zm_E) := (congrArg (fun l => l[10]?) cd_106).trans rfl
theorem c_106_11 : (zm_cd 106)[11]? = some ((19, .iconst 4, 1, 0, 0, 0, 4, 0, []) : zm_E) := (congrArg (fun l => l[11]?) cd_106).trans rfl
theorem c_106_12 : (zm_cd 106)[12]? = some ((20, .if_icmp .ge 17, 3, 19, 0, 0, 0, 0, []) : zm_E) := (congrArg (fun l => l[12]?) cd_106).trans rfl
theorem c_106_13 : (zm_cd 106)[13]? = some ((23, .lload 4, 2, 4, 0, 0, 0, 0, []) : zm_E) := (congrArg (fun l => l[13]?) cd_106).trans rfl
theorem c_106_14 : (zm_cd 106)[14]? = some ((25, .ldc2_w 234, 3, 0, 0, 0, 0, 10000, []) : zm_E) := (congrArg (fun l => l[14]?) cd_106).trans rfl
theorem c_106_15 : (zm_cd 106)[15]? = some ((28, .lmul, 1, 0, 0, 0, 0, 0, []) : zm_E) := (congrArg (fun l => l[15]?) cd_106).trans rfl
theorem c_106_16 : (zm_cd 106)[16]? = some ((29, .lstore 4, 2, 4, 0, 0, 0, 0, []) : zm_E) := (congrArg (fun l => l[16]?) cd_106).trans rfl
theorem c_106_17 : (zm_cd 106)[17]? = some ((31, .iinc 6 1, 3, 6, 0, 0, 1, 0, []) : zm_E) := (congrArg (fun l => l[17]?) cd_106).trans rfl
theorem c_106_18 : (zm_cd 106)[18]? = some ((34, .goto (-23), 3, 7, 0, 0, 0, 0, []) : zm_E) := (congrArg (fun l => l[18]?) cd_106).trans rfl
theorem c_106_19 : (zm_cd 106)[19]? = some ((37, .iload_n 1, 1, 1, 0, 0, 0, 0, []) : zm_E) := (congrArg (fun l => l[19]?) cd_106).trans rfl
theorem c_106_20 : (zm_cd 106)[20]? = some ((38, .i2l, 1, 0, 0, 0, 0, 0, []) : zm_E) := (congrArg (fun l => l[20]?) cd_106).trans rfl
theorem c_106_21 : (zm_cd 106)[21]? = some ((39, .lconst 1, 1, 0, 0, 0, 0, 1, []) : zm_E) := (congrArg (fun l => l[21]?) cd_106).trans rfl
theorem c_106_22 : (zm_cd 106)[22]? = some ((40, .ldc2_w 236, 3, 0, 0, 0, 0, 4, []) : zm_E) := (congrArg (fun l => l[22]?) cd_106).trans rfl
theorem c_106_23 : (zm_cd 106)[23]? = some ((43, .invokestatic 78, 3, 40, 3, 1, 0, 0, []) : zm_E) := (congrArg (fun l => l[23]?) cd_106).trans rfl
theorem c_106_24 : (zm_cd 106)[24]? = some ((46, .ifCond .eq 16, 3, 33, 0, 0, 0, 0, []) : zm_E) := (congrArg (fun l => l[24]?) cd_106).trans rfl
theorem c_106_25 : (zm_cd 106)[25]? = some ((49, .lload_n 2, 1, 2, 0, 0, 0, 0, []) : zm_E) := (congrArg (fun l => l[25]?) cd_106).trans rfl
theorem c_106_26 : (zm_cd 106)[26]? = some ((50, .lconst 0, 1, 0, 0, 0, 0, 0, []) : zm_E) := (congrArg (fun l => l[26]?) cd_106).trans rfl
theorem c_106_27 : (zm_cd 106)[27]? = some ((51, .lcmp, 1, 0, 0, 0, 0, 0, []) : zm_E) := (congrArg (fun l => l[27]?) cd_106).trans rfl
theorem c_106_28 : (zm_cd 106)[28]? = some ((52, .ifCond .lt 10, 3, 33, 0, 0, 0, 0, []) : zm_E) := (congrArg (fun l => l[28]?) cd_106).trans rfl
theorem c_106_29 : (zm_cd 106)[29]? = some ((55, .lload_n 2, 1, 2, 0, 0, 0, 0, []) : zm_E) := (congrArg (fun l => l[29]?) cd_106).trans rfl
theorem c_106_30 : (zm_cd 106)[30]? = some ((56, .lload 4, 2, 4, 0, 0, 0, 0, []) : zm_E) := (congrArg (fun l => l[30]?) cd_106).trans rfl
theorem c_106_31 : (zm_cd 106)[31]? = some ((58, .lcmp, 1, 0, 0, 0, 0, 0, []) : zm_E) := (congrArg (fun l => l[31]?) cd_106).trans rfl
theorem c_106_32 : (zm_cd 106)[32]? = some ((59, .ifCond .lt 9, 3, 37, 0, 0, 0, 0, []) : zm_E) := (congrArg (fun l => l[32]?) cd_106).trans rfl
theorem c_106_33 : (zm_cd 106)[33]? = some ((62, .aload_n 0, 1, 0, 0, 0, 0, 0, []) : zm_E) := (congrArg (fun l => l[33]?) cd_106).trans rfl
theorem c_106_34 : (zm_cd 106)[34]? = some ((63, .iconst 1, 1, 0, 0, 0, 1, 0, []) : zm_E) := (congrArg (fun l => l[34]?) cd_106).trans rfl
theorem c_106_35 : (zm_cd 106)[35]? = some ((64, .invokevirtual 119, 3, 43, 1, 1, 0, 0, [8]) : zm_E) := (congrArg (fun l => l[35]?) cd_106).trans rfl
theorem c_106_36 : (zm_cd 106)[36]? = some ((67, .ireturn, 1, 0, 0, 0, 0, 0, []) : zm_E) := (congrArg (fun l => l[36]?) cd_106).trans rfl
theorem c_106_37 : (zm_cd 106)[37]? = some ((68, .aload_n 0, 1, 0, 0, 0, 0, 0, []) : zm_E) := (congrArg (fun l => l[37]?) cd_106).trans rfl
theorem c_106_38 : (zm_cd 106)[38]? = some ((69, .invokevirtual 219, 3, 44, 0, 0, 0, 0, [8]) : zm_E) := (congrArg (fun l => l[38]?) cd_106).trans rfl
theorem c_106_39 : (zm_cd 106)[39]? = some ((72, .bipush (-9), 2, 0, 0, 0, (-9), 0, []) : zm_E) := (congrArg (fun l => l[39]?) cd_106).trans rfl
theorem c_106_40 : (zm_cd 106)[40]? = some ((74, .istore 6, 2, 6, 0, 0, 0, 0, []) : zm_E) := (congrArg (fun l => l[40]?) cd_106).trans rfl
theorem c_106_41 : (zm_cd 106)[41]? = some ((76, .iconst 0, 1, 0, 0, 0, 0, 0, []) : zm_E) := (congrArg (fun l => l[41]?) cd_106).trans rfl
theorem c_106_42 : (zm_cd 106)[42]? = some ((77, .istore 7, 2, 7, 0, 0, 0, 0, []) : zm_E) := (congrArg (fun l => l[42]?) cd_106).trans rfl
theorem c_106_43 : (zm_cd 106)[43]? = some ((79, .iload 7, 2, 7, 0, 0, 0, 0, []) : zm_E) := (congrArg (fun l => l[43]?) cd_106).trans rfl
theorem c_106_44 : (zm_cd 106)[44]? = some ((81, .iload_n 1, 1, 1, 0, 0, 0, 0, []) : zm_E) := (congrArg (fun l => l[44]?) cd_106).trans rfl
theorem c_106_45 : (zm_cd 106)[45]? = some ((82, .if_icmp .ge 47, 3, 67, 0, 0, 0, 0, []) : zm_E) := (congrArg (fun l => l[45]?) cd_106).trans rfl
theorem c_106_46 : (zm_cd 106)[46]? = some ((85, .iload 6, 2, 6, 0, 0, 0, 0, []) : zm_E) := (congrArg (fun l => l[46]?) cd_106).trans rfl
theorem c_106_47 : (zm_cd 106)[47]? = some ((87, .ifCond .ge 42, 3, 67, 0, 0, 0, 0, []) : zm_E) := (congrArg (fun l => l[47]?) cd_106).trans rfl
theorem c_106_48 : (zm_cd 106)[48]? = some ((90, .lload 4, 2, 4, 0, 0, 0, 0, []) : zm_E) := (congrArg (fun l => l[48]?) cd_106).trans rfl
theorem c_106_49 : (zm_cd 106)[49]? = some ((92, .ldc2_w 234, 3, 0, 0, 0, 0, 10000, []) : zm_E) := (congrArg (fun l => l[49]?) cd_106).trans rfl
theorem c_106_50 : (zm_cd 106)[50]? = some ((95, .ldiv, 1, 0, 0, 0, 0, 0, []) : zm_E) := (congrArg (fun l => l[50]?) cd_106).trans rfl
theorem c_106_51 : (zm_cd 106)[51]? = some ((96, .lstore 4, 2, 4, 0, 0, 0, 0, []) : zm_E) := (congrArg (fun l => l[51]?) cd_106).trans rfl
theorem c_106_52 : (zm_cd 106)[52]? = some ((98, .aload_n 0, 1, 0, 0, 0, 0, 0, []) : zm_E) := (congrArg (fun l => l[52]?) cd_106).trans rfl
theorem c_106_53 : (zm_cd 106)[53]? = some ((99, .lload_n 2, 1, 2, 0, 0, 0, 0, []) : zm_E) := (congrArg (fun l => l[53]?) cd_106).trans rfl
theorem c_106_54 : (zm_cd 106)[54]? = some ((100, .lload 4, 2, 4, 0, 0, 0, 0, []) : zm_E) := (congrArg (fun l => l[54]?) cd_106).trans rfl
theorem c_106_55 : (zm_cd 106)[55]? = some ((102, .ldiv, 1, 0, 0, 0, 0, 0, []) : zm_E) := (congrArg (fun l => l[55]?) cd_106).trans rfl
theorem c_106_56 : (zm_cd 106)[56]? = some ((103, .ldc2_w 234, 3, 0, 0, 0, 0, 10000, []) : zm_E) := (congrArg (fun l => l[56]?) cd_106).trans rfl
theorem c_106_57 : (zm_cd 106)[57]? = some ((106, .lrem, 1, 0, 0, 0, 0, 0, []) : zm_E) := (congrArg (fun l => l[57]?) cd_106).trans rfl
theorem c_106_58 : (zm_cd 106)[58]? = some ((107, .l2i, 1, 0, 0, 0, 0, 0, []) : zm_E) := (congrArg (fun l => l[58]?) cd_106).trans rfl
theorem c_106_59 : (zm_cd 106)[59]? = some ((108, .invokevirtual 238, 3, 105, 1, 1, 0, 0, [8]) : zm_E) := (congrArg (fun l => l[59]?) cd_106).trans rfl
theorem c_106_60 : (zm_cd 106)[60]? = some ((111, .ifCond .eq 8, 3, 63, 0, 0, 0, 0, []) : zm_E) := (congrArg (fun l => l[60]?) cd_106).trans rfl
theorem c_106_61 : (zm_cd 106)[61]? = some ((114, .iload 6, 2, 6, 0, 0, 0, 0, []) : zm_E) := (congrArg (fun l => l[61]?) cd_106).trans rfl
theorem c_106_62 : (zm_cd 106)[62]? = some ((116, .goto 5, 3, 64, 0, 0, 0, 0, []) : zm_E) := (congrArg (fun l => l[62]?) cd_106).trans rfl
theorem c_106_63 : (zm_cd 106)[63]? = some ((119, .iload 7, 2, 7, 0, 0, 0, 0, []) : zm_E) := (congrArg (fun l => l[63]?) cd_106).trans rfl
theorem c_106_64 : (zm_cd 106)[64]? = some ((121, .istore 6, 2, 6, 0, 0, 0, 0, []) : zm_E) := (congrArg (fun l => l[64]?) cd_106).trans rfl
theorem c_106_65 : (zm_cd 106)[65]? = some ((123, .iinc 7 1, 3, 7, 0, 0, 1, 0, []) : zm_E) := (congrArg (fun l => l[65]?) cd_106).trans rfl
theorem c_106_66 : (zm_cd 106)[66]? = some ((126, .goto (-47), 3, 43, 0, 0, 0, 0, []) : zm_E) := (congrArg (fun l => l[66]?) cd_106).trans rfl
theorem c_106_67 : (zm_cd 106)[67]? = some ((129, .aload_n 0, 1, 0, 0, 0, 0, 0, []) : zm_E) := (congrArg (fun l => l[67]?) cd_106).trans rfl
theorem c_106_68 : (zm_cd 106)[68]? = some ((130, .invokevirtual 225, 3, 45, 0, 0, 0, 0, [8]) : zm_E) := (congrArg (fun l => l[68]?) cd_106).trans rfl
theorem c_106_69 : (zm_cd 106)[69]? = some ((133, .iload 6, 2, 6, 0, 0, 0, 0, []) : zm_E) := (congrArg (fun l => l[69]?) cd_106).trans rfl
theorem c_106_70 : (zm_cd 106)[70]? = some ((135, .ireturn, 1, 0, 0, 0, 0, 0, []) : zm_E) := (congrArg (fun l => l[70]?) cd_106).trans rfl
theorem cd_107 : zm_cd 107 = zd_107 := rfl
theorem ml_107 : zm_ml 107 = 11 := rfl
theorem ht_107 : zm_ht 107 = [] := rfl
theorem c_107_0 : (zm_cd 107)[0]? = some ((0, .aload_n 0, 1, 0, 0, 0, 0, 0, []) : zm_E) := (congrArg (fun l => l[0]?) cd_107).trans rfl
theorem c_107_1 : (zm_cd 107)[1]? = some ((1, .iconst 0, 1, 0, 0, 0, 0, 0, []) : zm_E) := (congrArg (fun l => l[1]?) cd_107).trans rfl
theorem c_107_2 : (zm_cd 107)[2]? = some ((2, .putfield 71, 3, 8, 8, 0, 0, 0, []) : zm_E) := (congrArg (fun l => l[2]?) cd_107).trans rfl
theorem c_107_3 : (zm_cd 107)[3]? = some ((5, .iload_n 3, 1, 3, 0, 0, 0, 0, []) : zm_E) := (congrArg (fun l => l[3]?) cd_107).trans rfl
theorem c_107_4 : (zm_cd 107)[4]? = some ((6, .i2l, 1, 0, 0, 0, 0, 0, []) : zm_E) := (congrArg (fun l => l[4]?) cd_107).trans rfl
theorem c_107_5 : (zm_cd 107)[5]? = some ((7, .lconst 1, 1, 0, 0, 0, 0, 1, []) : zm_E) := (congrArg (fun l => l[5]?) cd_107).trans rfl
theorem c_107_6 : (zm_cd 107)[6]? = some ((8, .ldc2_w 241, 3, 0, 0, 0, 0, 99, []) : zm_E) := (congrArg (fun l => l[6]?) cd_107).trans rfl
theorem c_107_7 : (zm_cd 107)[7]? = some ((11, .invokestatic 78, 3, 40, 3, 1, 0, 0, []) : zm_E) := (congrArg (fun l => l[7]?) cd_107).trans rfl
theorem c_107_8 : (zm_cd 107)[8]? = some ((14, .ifCond .ne 9, 3, 13, 0, 0, 0, 0, []) : zm_E) := (congrArg (fun l => l[8]?) cd_107).trans rfl
theorem c_107_9 : (zm_cd 107)[9]? = some ((17, .aload_n 0, 1, 0, 0, 0, 0, 0, []) : zm_E) := (congrArg (fun l => l[9]?) cd_107).trans rfl
theorem c_107_10 : (zm_cd 107)[10]? = some ((18, .iconst 1, 1, 0, 0, 0, 1, 0, []) : zm_E) := (congrArg (fun l => l[10]?) cd_107).trans rfl
theorem c_107_11 : (zm_cd 107)[11]? = some ((19, .invokevirtual 119, 3, 43, 1, 1, 0, 0, [8]) : zm_E) := (congrArg (fun l => l[11]?) cd_107).trans rfl
theorem c_107_12 : (zm_cd 107)[12]? = some ((22, .ireturn, 1, 0, 0, 0, 0, 0, []) : zm_E) := (congrArg (fun l => l[12]?) cd_107).trans rfl
theorem c_107_13 : (zm_cd 107)[13]? = some ((23, .aload_n 0, 1, 0, 0, 0, 0, 0, []) : zm_E) := (congrArg (fun l => l[13]?) cd_107).trans rfl
theorem c_107_14 : (zm_cd 107)[14]? = some ((24, .invokevirtual 219, 3, 44, 0, 0, 0, 0, [8]) : zm_E) := (congrArg (fun l => l[14]?) cd_107).trans rfl
theorem c_107_15 : (zm_cd 107)[15]? = some ((27, .lload_n 1, 1, 1, 0, 0, 0, 0, []) : zm_E) := (congrArg (fun l => l[15]?) cd_107).trans rfl
theorem c_107_16 : (zm_cd 107)[16]? = some ((28, .lstore 4, 2, 4, 0, 0, 0, 0, []) : zm_E) := (congrArg (fun l => l[16]?) cd_107).trans rfl
theorem c_107_17 : (zm_cd 107)[17]? = some ((30, .iconst 0, 1, 0, 0, 0, 0, 0, []) : zm_E) := (congrArg (fun l => l[17]?) cd_107).trans rfl
theorem c_107_18 : (zm_cd 107)[18]? = some ((31, .istore 6, 2, 6, 0, 0, 0, 0, []) : zm_E) := (congrArg (fun l => l[18]?) cd_107).trans rfl
theorem c_107_19 : (zm_cd 107)[19]? = some ((33, .iconst 0, 1, 0, 0, 0, 0, 0, []) : zm_E) := (congrArg (fun l => l[19]?) cd_107).trans rfl
theorem c_107_20 : (zm_cd 107)[20]? = some ((34, .istore 7, 2, 7, 0, 0, 0, 0, []) : zm_E) := (congrArg (fun l => l[20]?) cd_107).trans rfl
theorem c_107_21 : (zm_cd 107)[21]? = some ((36, .iload 7, 2, 7, 0, 0, 0, 0, []) : zm_E) := (congrArg (fun l => l[21]?) cd_107).trans rfl
theorem c_107_22 : (zm_cd 107)[22]? = some ((38, .iload_n 3, 1, 3, 0, 0, 0, 0, []) : zm_E) := (congrArg (fun l => l[22]?) cd_107).trans rfl
theorem c_107_23 : (zm_cd 107)[23]? = some ((39, .if_icmp .ge 115, 3, 87, 0, 0, 0, 0, []) : zm_E) := (congrArg (fun l => l[23]?) cd_107).trans rfl
theorem c_107_24 : (zm_cd 107)[24]? = some ((42, .aload_n 0, 1, 0, 0, 0, 0, 0, []) : zm_E) := (congrArg (fun l => l[24]?) cd_107).trans rfl
theorem c_107_25 : (zm_cd 107)[25]? = some ((43, .getfield 7, 3, 8, 0, 1, 0, 0, []) : zm_E) := (congrArg (fun l => l[25]?) cd_107).trans rfl
theorem c_107_26 : (zm_cd 107)[26]? = some ((46, .iconst 0, 1, 0, 0, 0, 0, 0, []) : zm_E) := (congrArg (fun l => l[26]?) cd_107).trans rfl
theorem c_107_27 : (zm_cd 107)[27]? = some ((47, .iaload, 1, 0, 0, 0, 0, 0, []) : zm_E) := (congrArg (fun l => l[27]?) cd_107).trans rfl
theorem c_107_28 : (zm_cd 107)[28]? = some ((48, .ifCond .le 106, 3, 87, 0, 0, 0, 0, []) : zm_E) := (congrArg (fun l => l[28]?) cd_107).trans rfl
theorem c_107_29 : (zm_cd 107)[29]? = some ((51, .lload 4, 2, 4, 0, 0, 0, 0, []) : zm_E) := (congrArg (fun l => l[29]?) cd_107).trans rfl
theorem c_107_30 : (zm_cd 107)[30]? = some ((53, .ldc2_w 243, 3, 0, 0, 0, 0, 6364136223846793005, []) : zm_E) := (congrArg (fun l => l[30]?) cd_107).trans rfl
theorem c_107_31 : (zm_cd 107)[31]? = some ((56, .lmul, 1, 0, 0, 0, 0, 0, []) : zm_E) := (congrArg (fun l => l[31]?) cd_107).trans rfl
theorem c_107_32 : (zm_cd 107)[32]? = some ((57, .ldc2_w 245, 3, 0, 0, 0, 0, 1442695040888963407, []) : zm_E) := (congrArg (fun l => l[32]?) cd_107).trans rfl
theorem c_107_33 : (zm_cd 107)[33]? = some ((60, .ladd, 1, 0, 0, 0, 0, 0, []) : zm_E) := (congrArg (fun l => l[33]?) cd_107).trans rfl
theorem c_107_34 : (zm_cd 107)[34]? = some ((61, .lstore 4, 2, 4, 0, 0, 0, 0, []) : zm_E) := (congrArg (fun l => l[34]?) cd_107).trans rfl
theorem c_107_35 : (zm_cd 107)[35]? = some ((63, .lload 4, 2, 4, 0, 0, 0, 0, []) : zm_E) := (congrArg (fun l => l[35]?) cd_107).trans rfl
theorem c_107_36 : (zm_cd 107)[36]? = some ((65, .bipush 33, 2, 0, 0, 0, 33, 0, []) : zm_E) := (congrArg (fun l => l[36]?) cd_107).trans rfl
theorem c_107_37 : (zm_cd 107)[37]? = some ((67, .lushr, 1, 0, 0, 0, 0, 0, []) : zm_E) := (congrArg (fun l => l[37]?) cd_107).trans rfl
theorem c_107_38 : (zm_cd 107)[38]? = some ((68, .l2i, 1, 0, 0, 0, 0, 0, []) : zm_E) := (congrArg (fun l => l[38]?) cd_107).trans rfl
theorem c_107_39 : (zm_cd 107)[39]? = some ((69, .istore 8, 2, 8, 0, 0, 0, 0, []) : zm_E) := (congrArg (fun l => l[39]?) cd_107).trans rfl
theorem c_107_40 : (zm_cd 107)[40]? = some ((71, .iload 8, 2, 8, 0, 0, 0, 0, []) : zm_E) := (congrArg (fun l => l[40]?) cd_107).trans rfl
theorem c_107_41 : (zm_cd 107)[41]? = some ((73, .bipush 16, 2, 0, 0, 0, 16, 0, []) : zm_E) := (congrArg (fun l => l[41]?) cd_107).trans rfl
theorem c_107_42 : (zm_cd 107)[42]? = some ((75, .idiv, 1, 0, 0, 0, 0, 0, []) : zm_E) := (congrArg (fun l => l[42]?) cd_107).trans rfl
theorem c_107_43 : (zm_cd 107)[43]? = some ((76, .aload_n 0, 1, 0, 0, 0, 0, 0, []) : zm_E) := (congrArg (fun l => l[43]?) cd_107).trans rfl
theorem c_107_44 : (zm_cd 107)[44]? = some ((77, .getfield 7, 3, 8, 0, 1, 0, 0, []) : zm_E) := (congrArg (fun l => l[44]?) cd_107).trans rfl
theorem c_107_45 : (zm_cd 107)[45]? = some ((80, .iconst 0, 1, 0, 0, 0, 0, 0, []) : zm_E) := (congrArg (fun l => l[45]?) cd_107).trans rfl
theorem c_107_46 : (zm_cd 107)[46]? = some ((81, .iaload, 1, 0, 0, 0, 0, 0, []) : zm_E) := (congrArg (fun l => l[46]?) cd_107).trans rfl
theorem c_107_47 : (zm_cd 107)[47]? = some ((82, .irem, 1, 0, 0, 0, 0, 0, []) : zm_E) := (congrArg (fun l => l[47]?) cd_107).trans rfl
theorem c_107_48 : (zm_cd 107)[48]? = some ((83, .istore 9, 2, 9, 0, 0, 0, 0, []) : zm_E) := (congrArg (fun l => l[48]?) cd_107).trans rfl
theorem c_107_49 : (zm_cd 107)[49]? = some ((85, .iload 8, 2, 8, 0, 0, 0, 0, []) : zm_E) := (congrArg (fun l => l[49]?) cd_107).trans rfl
theorem c_107_50 : (zm_cd 107)[50]? = some ((87, .sipush 256, 3, 0, 0, 0, 256, 0, []) : zm_E) := (congrArg (fun l => l[50]?) cd_107).trans rfl
theorem c_107_51 : (zm_cd 107)[51]? = some ((90, .idiv, 1, 0, 0, 0, 0, 0, []) : zm_E) := (congrArg (fun l => l[51]?) cd_107).trans rfl
theorem c_107_52 : (zm_cd 107)[52]? = some ((91, .aload_n 0, 1, 0, 0, 0, 0, 0, []) : zm_E) := (congrArg (fun l => l[52]?) cd_107).trans rfl
theorem c_107_53 : (zm_cd 107)[53]? = some ((92, .getfield 7, 3, 8, 0, 1, 0, 0, []) : zm_E) := (congrArg (fun l => l[53]?) cd_107).trans rfl
theorem c_107_54 : (zm_cd 107)[54]? = some ((95, .iconst 0, 1, 0, 0, 0, 0, 0, []) : zm_E) := (congrArg (fun l => l[54]?) cd_107).trans rfl
theorem c_107_55 : (zm_cd 107)[55]? = some ((96, .iaload, 1, 0, 0, 0, 0, 0, []) : zm_E) := (congrArg (fun l => l[55]?) cd_107).trans rfl
theorem c_107_56 : (zm_cd 107)[56]? = some ((97, .irem, 1, 0, 0, 0, 0, 0, []) : zm_E) := (congrArg (fun l => l[56]?) cd_107).trans rfl
theorem c_107_57 : (zm_cd 107)[57]? = some ((98, .istore 10, 2, 10, 0, 0, 0, 0, []) : zm_E) := (congrArg (fun l => l[57]?) cd_107).trans rfl
theorem c_107_58 : (zm_cd 107)[58]? = some ((100, .aload_n 0, 1, 0, 0, 0, 0, 0, []) : zm_E) := (congrArg (fun l => l[58]?) cd_107).trans rfl
theorem c_107_59 : (zm_cd 107)[59]? = some ((101, .iload 9, 2, 9, 0, 0, 0, 0, []) : zm_E) := (congrArg (fun l => l[59]?) cd_107).trans rfl
theorem c_107_60 : (zm_cd 107)[60]? = some ((103, .iload 10, 2, 10, 0, 0, 0, 0, []) : zm_E) := (congrArg (fun l => l[60]?) cd_107).trans rfl
theorem c_107_61 : (zm_cd 107)[61]? = some ((105, .invokevirtual 162, 3, 71, 2, 1, 0, 0, [8]) : zm_E) := (congrArg (fun l => l[61]?) cd_107).trans rfl
theorem c_107_62 : (zm_cd 107)[62]? = some ((108, .ifCond .ne 15, 3, 69, 0, 0, 0, 0, []) : zm_E) := (congrArg (fun l => l[62]?) cd_107).trans rfl
theorem c_107_63 : (zm_cd 107)[63]? = some ((111, .aload_n 0, 1, 0, 0, 0, 0, 0, []) : zm_E) := (congrArg (fun l => l[63]?) cd_107).trans rfl
theorem c_107_64 : (zm_cd 107)[64]? = some ((112, .iload 9, 2, 9, 0, 0, 0, 0, []) : zm_E) := (congrArg (fun l => l[64]?) cd_107).trans rfl
theorem c_107_65 : (zm_cd 107)[65]? = some ((114, .iload 10, 2, 10, 0, 0, 0, 0, []) : zm_E) := (congrArg (fun l => l[65]?) cd_107).trans rfl
theorem c_107_66 : (zm_cd 107)[66]? = some ((116, .invokevirtual 174, 3, 76, 2, 1, 0, 0, [8]) : zm_E) := (congrArg (fun l => l[66]?) cd_107).trans rfl
theorem c_107_67 : (zm_cd 107)[67]? = some ((119, .pop, 1, 0, 0, 0, 0, 0, []) : zm_E) := (congrArg (fun l => l[67]?) cd_107).trans rfl
theorem c_107_68 : (zm_cd 107)[68]? = some ((120, .iinc 6 1, 3, 6, 0, 0, 1, 0, []) : zm_E) := (congrArg (fun l => l[68]?) cd_107).trans rfl
theorem c_107_69 : (zm_cd 107)[69]? = some ((123, .aload_n 0, 1, 0, 0, 0, 0, 0, []) : zm_E) := (congrArg (fun l => l[69]?) cd_107).trans rfl
theorem c_107_70 : (zm_cd 107)[70]? = some ((124, .getfield 7, 3, 8, 0, 1, 0, 0, []) : zm_E) := (congrArg (fun l => l[70]?) cd_107).trans rfl
theorem c_107_71 : (zm_cd 107)[71]? = some ((127, .iconst 1, 1, 0, 0, 0, 1, 0, []) : zm_E) := (congrArg (fun l => l[71]?) cd_107).trans rfl
theorem c_107_72 : (zm_cd 107)[72]? = some ((128, .dup2, 1, 0, 0, 0, 0, 0, []) : zm_E) := (congrArg (fun l => l[72]?) cd_107).trans rfl
theorem c_107_73 : (zm_cd 107)[73]? = some ((129, .iaload, 1, 0, 0, 0, 0, 0, []) : zm_E) := (congrArg (fun l => l[73]?) cd_107).trans rfl
theorem c_107_74 : (zm_cd 107)[74]? = some ((130, .iload 8, 2, 8, 0, 0, 0, 0, []) : zm_E) := (congrArg (fun l => l[74]?) cd_107).trans rfl
theorem c_107_75 : (zm_cd 107)[75]? = some ((132, .bipush 16, 2, 0, 0, 0, 16, 0, []) : zm_E) := (congrArg (fun l => l[75]?) cd_107).trans rfl
theorem c_107_76 : (zm_cd 107)[76]? = some ((134, .irem, 1, 0, 0, 0, 0, 0, []) : zm_E) := (congrArg (fun l => l[76]?) cd_107).trans rfl
theorem c_107_77 : (zm_cd 107)[77]? = some ((135, .ifCond .ne 10, 3, 82, 0, 0, 0, 0, []) : zm_E) := (congrArg (fun l => l[77]?) cd_107).trans rfl
theorem c_107_78 : (zm_cd 107)[78]? = some ((138, .iconst 1, 1, 0, 0, 0, 1, 0, []) : zm_E) := (congrArg (fun l => l[78]?) cd_107).trans rfl
theorem c_107_79 : (zm_cd 107)[79]? = some ((139, .iload 9, 2, 9, 0, 0, 0, 0, []) : zm_E) := (congrArg (fun l => l[79]?) cd_107).trans rfl
theorem c_107_80 : (zm_cd 107)[80]? = some ((141, .ishl, 1, 0, 0, 0, 0, 0, []) : zm_E) := (congrArg (fun l => l[80]?) cd_107).trans rfl
theorem c_107_81 : (zm_cd 107)[81]? = some ((142, .goto 4, 3, 83, 0, 0, 0, 0, []) : zm_E) := (congrArg (fun l => l[81]?) cd_107).trans rfl
theorem c_107_82 : (zm_cd 107)[82]? = some ((145, .iconst 0, 1, 0, 0, 0, 0, 0, []) : zm_E) := (congrArg (fun l => l[82]?) cd_107).trans rfl
theorem c_107_83 : (zm_cd 107)[83]? = some ((146, .ior, 1, 0, 0, 0, 0, 0, []) : zm_E) := (congrArg (fun l => l[83]?) cd_107).trans rfl
theorem c_107_84 : (zm_cd 107)[84]? = some ((147, .iastore, 1, 0, 0, 0, 0, 0, []) : zm_E) := (congrArg (fun l => l[84]?) cd_107).trans rfl
theorem c_107_85 : (zm_cd 107)[85]? = some ((148, .iinc 7 1, 3, 7, 0, 0, 1, 0, []) : zm_E) := (congrArg (fun l => l[85]?) cd_107).trans rfl
theorem c_107_86 : (zm_cd 107)[86]? = some ((151, .goto (-115), 3, 21, 0, 0, 0, 0, []) : zm_E) := (congrArg (fun l => l[86]?) cd_107).trans rfl
theorem c_107_87 : (zm_cd 107)[87]? = some ((154, .sipush 1000, 3, 0, 0, 0, 1000, 0, []) : zm_E) := (congrArg (fun l => l[87]?) cd_107).trans rfl
theorem c_107_88 : (zm_cd 107)[88]? = some ((157, .iload 6, 2, 6, 0, 0, 0, 0, []) : zm_E) := (congrArg (fun l => l[88]?) cd_107).trans rfl
theorem c_107_89 : (zm_cd 107)[89]? = some ((159, .imul, 1, 0, 0, 0, 0, 0, []) : zm_E) := (congrArg (fun l => l[89]?) cd_107).trans rfl
theorem c_107_90 : (zm_cd 107)[90]? = some ((160, .bipush 100, 2, 0, 0, 0, 100, 0, []) : zm_E) := (congrArg (fun l => l[90]?) cd_107).trans rfl
theorem c_107_91 : (zm_cd 107)[91]? = some ((162, .aload_n 0, 1, 0, 0, 0, 0, 0, []) : zm_E) := (congrArg (fun l => l[91]?) cd_107).trans rfl
theorem c_107_92 : (zm_cd 107)[92]? = some ((163, .invokevirtual 144, 3, 51, 0, 1, 0, 0, [8]) : zm_E) := (congrArg (fun l => l[92]?) cd_107).trans rfl
theorem c_107_93 : (zm_cd 107)[93]? = some ((166, .imul, 1, 0, 0, 0, 0, 0, []) : zm_E) := (congrArg (fun l => l[93]?) cd_107).trans rfl
theorem c_107_94 : (zm_cd 107)[94]? = some ((167, .iadd, 1, 0, 0, 0, 0, 0, []) : zm_E) := (congrArg (fun l => l[94]?) cd_107).trans rfl
theorem c_107_95 : (zm_cd 107)[95]? = some ((168, .aload_n 0, 1, 0, 0, 0, 0, 0, []) : zm_E) := (congrArg (fun l => l[95]?) cd_107).trans rfl
theorem c_107_96 : (zm_cd 107)[96]? = some ((169, .invokevirtual 154, 3, 52, 0, 1, 0, 0, [8]) : zm_E) := (congrArg (fun l => l[96]?) cd_107).trans rfl
theorem c_107_97 : (zm_cd 107)[97]? = some ((172, .iadd, 1, 0, 0, 0, 0, 0, []) : zm_E) := (congrArg (fun l => l[97]?) cd_107).trans rfl
theorem c_107_98 : (zm_cd 107)[98]? = some ((173, .istore 7, 2, 7, 0, 0, 0, 0, []) : zm_E) := (congrArg (fun l => l[98]?) cd_107).trans rfl
theorem c_107_99 : (zm_cd 107)[99]? = some ((175, .aload_n 0, 1, 0, 0, 0, 0, 0, []) : zm_E) := (congrArg (fun l => l[99]?) cd_107).trans rfl
theorem c_107_100 : (zm_cd 107)[100]? = some ((176, .invokevirtual 225, 3, 45, 0, 0, 0, 0, [8]) : zm_E) := (congrArg (fun l => l[100]?) cd_107).trans rfl
theorem c_107_101 : (zm_cd 107)[101]? = some ((179, .iload 7, 2, 7, 0, 0, 0, 0, []) : zm_E) := (congrArg (fun l => l[101]?) cd_107).trans rfl
theorem c_107_102 : (zm_cd 107)[102]? = some ((181, .ireturn, 1, 0, 0, 0, 0, 0, []) : zm_E) := (congrArg (fun l => l[102]?) cd_107).trans rfl
theorem cd_108 : zm_cd 108 = zd_108 := rfl
theorem ml_108 : zm_ml 108 = 3 := rfl
theorem ht_108 : zm_ht 108 = [] := rfl
theorem c_108_0 : (zm_cd 108)[0]? = some ((0, .aload_n 0, 1, 0, 0, 0, 0, 0, []) : zm_E) := (congrArg (fun l => l[0]?) cd_108).trans rfl
theorem c_108_1 : (zm_cd 108)[1]? = some ((1, .iconst 0, 1, 0, 0, 0, 0, 0, []) : zm_E) := (congrArg (fun l => l[1]?) cd_108).trans rfl
theorem c_108_2 : (zm_cd 108)[2]? = some ((2, .putfield 71, 3, 8, 8, 0, 0, 0, []) : zm_E) := (congrArg (fun l => l[2]?) cd_108).trans rfl
theorem c_108_3 : (zm_cd 108)[3]? = some ((5, .iload_n 1, 1, 1, 0, 0, 0, 0, []) : zm_E) := (congrArg (fun l => l[3]?) cd_108).trans rfl
theorem c_108_4 : (zm_cd 108)[4]? = some ((6, .i2l, 1, 0, 0, 0, 0, 0, []) : zm_E) := (congrArg (fun l => l[4]?) cd_108).trans rfl
theorem c_108_5 : (zm_cd 108)[5]? = some ((7, .lconst 0, 1, 0, 0, 0, 0, 0, []) : zm_E) := (congrArg (fun l => l[5]?) cd_108).trans rfl
theorem c_108_6 : (zm_cd 108)[6]? = some ((8, .lconst 1, 1, 0, 0, 0, 0, 1, []) : zm_E) := (congrArg (fun l => l[6]?) cd_108).trans rfl
theorem c_108_7 : (zm_cd 108)[7]? = some ((9, .invokestatic 78, 3, 40, 3, 1, 0, 0, []) : zm_E) := (congrArg (fun l => l[7]?) cd_108).trans rfl
theorem c_108_8 : (zm_cd 108)[8]? = some ((12, .ifCond .ne 9, 3, 13, 0, 0, 0, 0, []) : zm_E) := (congrArg (fun l => l[8]?) cd_108).trans rfl
theorem c_108_9 : (zm_cd 108)[9]? = some ((15, .aload_n 0, 1, 0, 0, 0, 0, 0, []) : zm_E) := (congrArg (fun l => l[9]?) cd_108).trans rfl
theorem c_108_10 : (zm_cd 108)[10]? = some ((16, .iconst 1, 1, 0, 0, 0, 1, 0, []) : zm_E) := (congrArg (fun l => l[10]?) cd_108).trans rfl
theorem c_108_11 : (zm_cd 108)[11]? = some ((17, .invokevirtual 119, 3, 43, 1, 1, 0, 0, [8]) : zm_E) := (congrArg (fun l => l[11]?) cd_108).trans rfl
theorem c_108_12 : (zm_cd 108)[12]? = some ((20, .ireturn, 1, 0, 0, 0, 0, 0, []) : zm_E) := (congrArg (fun l => l[12]?) cd_108).trans rfl
theorem c_108_13 : (zm_cd 108)[13]? = some ((21, .iconst 0, 1, 0, 0, 0, 0, 0, []) : zm_E) := (congrArg (fun l => l[13]?) cd_108).trans rfl
theorem c_108_14 : (zm_cd 108)[14]? = some ((22, .istore_n 2, 1, 2, 0, 0, 0, 0, []) : zm_E) := (congrArg (fun l => l[14]?) cd_108).trans rfl
theorem c_108_15 : (zm_cd 108)[15]? = some ((23, .iload_n 2, 1, 2, 0, 0, 0, 0, []) : zm_E) := (congrArg (fun l => l[15]?) cd_108).trans rfl
theorem c_108_16 : (zm_cd 108)[16]? = some ((24, .bipush 58, 2, 0, 0, 0, 58, 0, []) : zm_E) := (congrArg (fun l => l[16]?) cd_108).trans rfl
theorem c_108_17 : (zm_cd 108)[17]? = some ((26, .if_icmp .ge 26, 3, 32, 0, 0, 0, 0, []) : zm_E) := (congrArg (fun l => l[17]?) cd_108).trans rfl
theorem c_108_18 : (zm_cd 108)[18]? = some ((29, .aload_n 0, 1, 0, 0, 0, 0, 0, []) : zm_E) := (congrArg (fun l => l[18]?) cd_108).trans rfl
theorem c_108_19 : (zm_cd 108)[19]? = some ((30, .getfield 19, 3, 8, 4, 1, 0, 0, []) : zm_E) := (congrArg (fun l => l[19]?) cd_108).trans rfl
theorem c_108_20 : (zm_cd 108)[20]? = some ((33, .bipush 58, 2, 0, 0, 0, 58, 0, []) : zm_E) := (congrArg (fun l => l[20]?) cd_108).trans rfl
theorem c_108_21 : (zm_cd 108)[21]? = some ((35, .iload_n 1, 1, 1, 0, 0, 0, 0, []) : zm_E) := (congrArg (fun l => l[21]?) cd_108).trans rfl
theorem c_108_22 : (zm_cd 108)[22]? = some ((36, .imul, 1, 0, 0, 0, 0, 0, []) : zm_E) := (congrArg (fun l => l[22]?) cd_108).trans rfl
theorem c_108_23 : (zm_cd 108)[23]? = some ((37, .iload_n 2, 1, 2, 0, 0, 0, 0, []) : zm_E) := (congrArg (fun l => l[23]?) cd_108).trans rfl
theorem c_108_24 : (zm_cd 108)[24]? = some ((38, .iadd, 1, 0, 0, 0, 0, 0, []) : zm_E) := (congrArg (fun l => l[24]?) cd_108).trans rfl
theorem c_108_25 : (zm_cd 108)[25]? = some ((39, .aload_n 0, 1, 0, 0, 0, 0, 0, []) : zm_E) := (congrArg (fun l => l[25]?) cd_108).trans rfl
theorem c_108_26 : (zm_cd 108)[26]? = some ((40, .getfield 7, 3, 8, 0, 1, 0, 0, []) : zm_E) := (congrArg (fun l => l[26]?) cd_108).trans rfl
theorem c_108_27 : (zm_cd 108)[27]? = some ((43, .iload_n 2, 1, 2, 0, 0, 0, 0, []) : zm_E) := (congrArg (fun l => l[27]?) cd_108).trans rfl
theorem c_108_28 : (zm_cd 108)[28]? = some ((44, .iaload, 1, 0, 0, 0, 0, 0, []) : zm_E) := (congrArg (fun l => l[28]?) cd_108).trans rfl
theorem c_108_29 : (zm_cd 108)[29]? = some ((45, .iastore, 1, 0, 0, 0, 0, 0, []) : zm_E) := (congrArg (fun l => l[29]?) cd_108).trans rfl
theorem c_108_30 : (zm_cd 108)[30]? = some ((46, .iinc 2 1, 3, 2, 0, 0, 1, 0, []) : zm_E) := (congrArg (fun l => l[30]?) cd_108).trans rfl
theorem c_108_31 : (zm_cd 108)[31]? = some ((49, .goto (-26), 3, 15, 0, 0, 0, 0, []) : zm_E) := (congrArg (fun l => l[31]?) cd_108).trans rfl
theorem c_108_32 : (zm_cd 108)[32]? = some ((52, .aload_n 0, 1, 0, 0, 0, 0, 0, []) : zm_E) := (congrArg (fun l => l[32]?) cd_108).trans rfl
theorem c_108_33 : (zm_cd 108)[33]? = some ((53, .getfield 22, 3, 8, 5, 1, 0, 0, []) : zm_E) := (congrArg (fun l => l[33]?) cd_108).trans rfl
theorem c_108_34 : (zm_cd 108)[34]? = some ((56, .iload_n 1, 1, 1, 0, 0, 0, 0, []) : zm_E) := (congrArg (fun l => l[34]?) cd_108).trans rfl
theorem c_108_35 : (zm_cd 108)[35]? = some ((57, .iconst 1, 1, 0, 0, 0, 1, 0, []) : zm_E) := (congrArg (fun l => l[35]?) cd_108).trans rfl
theorem c_108_36 : (zm_cd 108)[36]? = some ((58, .bastore, 1, 0, 0, 0, 0, 0, []) : zm_E) := (congrArg (fun l => l[36]?) cd_108).trans rfl
theorem c_108_37 : (zm_cd 108)[37]? = some ((59, .aload_n 0, 1, 0, 0, 0, 0, 0, []) : zm_E) := (congrArg (fun l => l[37]?) cd_108).trans rfl
theorem c_108_38 : (zm_cd 108)[38]? = some ((60, .getfield 7, 3, 8, 0, 1, 0, 0, []) : zm_E) := (congrArg (fun l => l[38]?) cd_108).trans rfl
theorem c_108_39 : (zm_cd 108)[39]? = some ((63, .iconst 0, 1, 0, 0, 0, 0, 0, []) : zm_E) := (congrArg (fun l => l[39]?) cd_108).trans rfl
theorem c_108_40 : (zm_cd 108)[40]? = some ((64, .iaload, 1, 0, 0, 0, 0, 0, []) : zm_E) := (congrArg (fun l => l[40]?) cd_108).trans rfl
theorem c_108_41 : (zm_cd 108)[41]? = some ((65, .ireturn, 1, 0, 0, 0, 0, 0, []) : zm_E) := (congrArg (fun l => l[41]?) cd_108).trans rfl
theorem cd_109 : zm_cd 109 = zd_109 := rfl
theorem ml_109 : zm_ml 109 = 3 := rfl
theorem ht_109 : zm_ht 109 = [] := rfl
theorem c_109_0 : (zm_cd 109)[0]? = some ((0, .aload_n 0, 1, 0, 0, 0, 0, 0, []) : zm_E) := (congrArg (fun l => l[0]?) cd_109).trans rfl
theorem c_109_1 : (zm_cd 109)[1]? = some ((1, .iconst 0, 1, 0, 0, 0, 0, 0, []) : zm_E) := (congrArg (fun l => l[1]?) cd_109).trans rfl
theorem c_109_2 : (zm_cd 109)[2]? = some ((2, .putfield 71, 3, 8, 8, 0, 0, 0, []) : zm_E) := (congrArg (fun l => l[2]?) cd_109).trans rfl
theorem c_109_3 : (zm_cd 109)[3]? = some ((5, .iload_n 1, 1, 1, 0, 0, 0, 0, []) : zm_E) := (congrArg (fun l => l[3]?) cd_109).trans rfl
theorem c_109_4 : (zm_cd 109)[4]? = some ((6, .i2l, 1, 0, 0, 0, 0, 0, []) : zm_E) := (congrArg (fun l => l[4]?) cd_109).trans rfl
theorem c_109_5 : (zm_cd 109)[5]? = some ((7, .lconst 0, 1, 0, 0, 0, 0, 0, []) : zm_E) := (congrArg (fun l => l[5]?) cd_109).trans rfl
theorem c_109_6 : (zm_cd 109)[6]? = some ((8, .lconst 1, 1, 0, 0, 0, 0, 1, []) : zm_E) := (congrArg (fun l => l[6]?) cd_109).trans rfl
theorem c_109_7 : (zm_cd 109)[7]? = some ((9, .invokestatic 78, 3, 40, 3, 1, 0, 0, []) : zm_E) := (congrArg (fun l => l[7]?) cd_109).trans rfl
theorem c_109_8 : (zm_cd 109)[8]? = some ((12, .ifCond .ne 9, 3, 13, 0, 0, 0, 0, []) : zm_E) := (congrArg (fun l => l[8]?) cd_109).trans rfl
theorem c_109_9 : (zm_cd 109)[9]? = some ((15, .aload_n 0, 1, 0, 0, 0, 0, 0, []) : zm_E) := (congrArg (fun l => l[9]?) cd_109).trans rfl
theorem c_109_10 : (zm_cd 109)[10]? = some ((16, .iconst 1, 1, 0, 0, 0, 1, 0, []) : zm_E) := (congrArg (fun l => l[10]?) cd_109).trans rfl
theorem c_109_11 : (zm_cd 109)[11]? = some ((17, .invokevirtual 119, 3, 43, 1, 1, 0, 0, [8]) : zm_E) := (congrArg (fun l => l[11]?) cd_109).trans rfl
theorem c_109_12 : (zm_cd 109)[12]? = some ((20, .ireturn, 1, 0, 0, 0, 0, 0, []) : zm_E) := (congrArg (fun l => l[12]?) cd_109).trans rfl
theorem c_109_13 : (zm_cd 109)[13]? = some ((21, .aload_n 0, 1, 0, 0, 0, 0, 0, []) : zm_E) := (congrArg (fun l => l[13]?) cd_109).trans rfl
theorem c_109_14 : (zm_cd 109)[14]? = some ((22, .getfield 22, 3, 8, 5, 1, 0, 0, []) : zm_E) := (congrArg (fun l => l[14]?) cd_109).trans rfl
theorem c_109_15 : (zm_cd 109)[15]? = some ((25, .iload_n 1, 1, 1, 0, 0, 0, 0, []) : zm_E) := (congrArg (fun l => l[15]?) cd_109).trans rfl
theorem c_109_16 : (zm_cd 109)[16]? = some ((26, .baload, 1, 0, 0, 0, 0, 0, []) : zm_E) := (congrArg (fun l => l[16]?) cd_109).trans rfl
theorem c_109_17 : (zm_cd 109)[17]? = some ((27, .ifCond .ne 9, 3, 22, 0, 0, 0, 0, []) : zm_E) := (congrArg (fun l => l[17]?) cd_109).trans rfl
theorem c_109_18 : (zm_cd 109)[18]? = some ((30, .aload_n 0, 1, 0, 0, 0, 0, 0, []) : zm_E) := (congrArg (fun l => l[18]?) cd_109).trans rfl
theorem c_109_19 : (zm_cd 109)[19]? = some ((31, .iconst 2, 1, 0, 0, 0, 2, 0, []) : zm_E) := (congrArg (fun l => l[19]?) cd_109).trans rfl
theorem c_109_20 : (zm_cd 109)[20]? = some ((32, .invokevirtual 119, 3, 43, 1, 1, 0, 0, [8]) : zm_E) := (congrArg (fun l => l[20]?) cd_109).trans rfl
theorem c_109_21 : (zm_cd 109)[21]? = some ((35, .ireturn, 1, 0, 0, 0, 0, 0, []) : zm_E) := (congrArg (fun l => l[21]?) cd_109).trans rfl
theorem c_109_22 : (zm_cd 109)[22]? = some ((36, .iconst 0, 1, 0, 0, 0, 0, 0, []) : zm_E) := (congrArg (fun l => l[22]?) cd_109).trans rfl
theorem c_109_23 : (zm_cd 109)[23]? = some ((37, .istore_n 2, 1, 2, 0, 0, 0, 0, []) : zm_E) := (congrArg (fun l => l[23]?) cd_109).trans rfl
theorem c_109_24 : (zm_cd 109)[24]? = some ((38, .iload_n 2, 1, 2, 0, 0, 0, 0, []) : zm_E) := (congrArg (fun l => l[24]?) cd_109).trans rfl
theorem c_109_25 : (zm_cd 109)[25]? = some ((39, .bipush 58, 2, 0, 0, 0, 58, 0, []) : zm_E) := (congrArg (fun l => l[25]?) cd_109).trans rfl
theorem c_109_26 : (zm_cd 109)[26]? = some ((41, .if_icmp .ge 26, 3, 41, 0, 0, 0, 0, []) : zm_E) := (congrArg (fun l => l[26]?) cd_109).trans rfl
theorem c_109_27 : (zm_cd 109)[27]? = some ((44, .aload_n 0, 1, 0, 0, 0, 0, 0, []) : zm_E) := (congrArg (fun l => l[27]?) cd_109).trans rfl
theorem c_109_28 : (zm_cd 109)[28]? = some ((45, .getfield 7, 3, 8, 0, 1, 0, 0, []) : zm_E) := (congrArg (fun l => l[28]?) cd_109).trans rfl
theorem c_109_29 : (zm_cd 109)[29]? = some ((48, .iload_n 2, 1, 2, 0, 0, 0, 0, []) : zm_E) := (congrArg (fun l => l[29]?) cd_109).trans rfl
theorem c_109_30 : (zm_cd 109)[30]? = some ((49, .aload_n 0, 1, 0, 0, 0, 0, 0, []) : zm_E) := (congrArg (fun l => l[30]?) cd_109).trans rfl
theorem c_109_31 : (zm_cd 109)[31]? = some ((50, .getfield 19, 3, 8, 4, 1, 0, 0, []) : zm_E) := (congrArg (fun l => l[31]?) cd_109).trans rfl
theorem c_109_32 : (zm_cd 109)[32]? = some ((53, .bipush 58, 2, 0, 0, 0, 58, 0, []) : zm_E) := (congrArg (fun l => l[32]?) cd_109).trans rfl
theorem c_109_33 : (zm_cd 109)[33]? = some ((55, .iload_n 1, 1, 1, 0, 0, 0, 0, []) : zm_E) := (congrArg (fun l => l[33]?) cd_109).trans rfl
theorem c_109_34 : (zm_cd 109)[34]? = some ((56, .imul, 1, 0, 0, 0, 0, 0, []) : zm_E) := (congrArg (fun l => l[34]?) cd_109).trans rfl
theorem c_109_35 : (zm_cd 109)[35]? = some ((57, .iload_n 2, 1, 2, 0, 0, 0, 0, []) : zm_E) := (congrArg (fun l => l[35]?) cd_109).trans rfl
theorem c_109_36 : (zm_cd 109)[36]? = some ((58, .iadd, 1, 0, 0, 0, 0, 0, []) : zm_E) := (congrArg (fun l => l[36]?) cd_109).trans rfl
theorem c_109_37 : (zm_cd 109)[37]? = some ((59, .iaload, 1, 0, 0, 0, 0, 0, []) : zm_E) := (congrArg (fun l => l[37]?) cd_109).trans rfl
theorem c_109_38 : (zm_cd 109)[38]? = some ((60, .iastore, 1, 0, 0, 0, 0, 0, []) : zm_E) := (congrArg (fun l => l[38]?) cd_109).trans rfl
theorem c_109_39 : (zm_cd 109)[39]? = some ((61, .iinc 2 1, 3, 2, 0, 0, 1, 0, []) : zm_E) := (congrArg (fun l => l[39]?) cd_109).trans rfl
theorem c_109_40 : (zm_cd 109)[40]? = some ((64, .goto (-26), 3, 24, 0, 0, 0, 0, []) : zm_E) := (congrArg (fun l => l[40]?) cd_109).trans rfl
theorem c_109_41 : (zm_cd 109)[41]? = some ((67, .aload_n 0, 1, 0, 0, 0, 0, 0, []) : zm_E) := (congrArg (fun l => l[41]?) cd_109).trans rfl
theorem c_109_42 : (zm_cd 109)[42]? = some ((68, .iconst 0, 1, 0, 0, 0, 0, 0, []) : zm_E) := (congrArg (fun l => l[42]?) cd_109).trans rfl
theorem c_109_43 : (zm_cd 109)[43]? = some ((69, .putfield 75, 3, 8, 3, 0, 0, 0, []) : zm_E) := (congrArg (fun l => l[43]?) cd_109).trans rfl
theorem c_109_44 : (zm_cd 109)[44]? = some ((72, .aload_n 0, 1, 0, 0, 0, 0, 0, []) : zm_E) := (congrArg (fun l => l[44]?) cd_109).trans rfl
theorem c_109_45 : (zm_cd 109)[45]? = some ((73, .getfield 7, 3, 8, 0, 1, 0, 0, []) : zm_E) := (congrArg (fun l => l[45]?) cd_109).trans rfl
theorem c_109_46 : (zm_cd 109)[46]? = some ((76, .iconst 0, 1, 0, 0, 0, 0, 0, []) : zm_E) := (congrArg (fun l => l[46]?) cd_109).trans rfl
theorem c_109_47 : (zm_cd 109)[47]? = some ((77, .iaload, 1, 0, 0, 0, 0, 0, []) : zm_E) := (congrArg (fun l => l[47]?) cd_109).trans rfl
theorem c_109_48 : (zm_cd 109)[48]? = some ((78, .ireturn, 1, 0, 0, 0, 0, 0, []) : zm_E) := (congrArg (fun l => l[48]?) cd_109).trans rfl
theorem cd_111 : zm_cd 111 = zd_111 := rfl
theorem ml_111 : zm_ml 111 = 1 := rfl
theorem ht_111 : zm_ht 111 = [] := rfl
theorem c_111_0 : (zm_cd 111)[0]? = some ((0, .aload_n 0, 1, 0, 0, 0, 0, 0, []) : zm_E) := (congrArg (fun l => l[0]?) cd_111).trans rfl
theorem c_111_1 : (zm_cd 111)[1]? = some ((1, .iconst 0, 1, 0, 0, 0, 0, 0, []) : zm_E) := (congrArg (fun l => l[1]?) cd_111).trans rfl
theorem c_111_2 : (zm_cd 111)[2]? = some ((2, .putfield 16, 3, 0, 1, 0, 0, 0, []) : zm_E) := (congrArg (fun l => l[2]?) cd_111).trans rfl
theorem c_111_3 : (zm_cd 111)[3]? = some ((5, .return_, 1, 0, 0, 0, 0, 0, []) : zm_E) := (congrArg (fun l => l[3]?) cd_111).trans rfl
theorem cd_112 : zm_cd 112 = zd_112 := rfl
theorem ml_112 : zm_ml 112 = 2 := rfl
theorem ht_112 : zm_ht 112 = [] := rfl
theorem c_112_0 : (zm_cd 112)[0]? = some ((0, .aload_n 0, 1, 0, 0, 0, 0, 0, []) : zm_E) := (congrArg (fun l => l[0]?) cd_112).trans rfl
theorem c_112_1 : (zm_cd 112)[1]? = some ((1, .getfield 20, 3, 0, 2, 0, 0, 0, []) : zm_E) := (congrArg (fun l => l[1]?) cd_112).trans rfl
theorem c_112_2 : (zm_cd 112)[2]? = some ((4, .ifCond .lt 68, 3, 38, 0, 0, 0, 0, []) : zm_E) := (congrArg (fun l => l[2]?) cd_112).trans rfl
theorem c_112_3 : (zm_cd 112)[3]? = some ((7, .aload_n 0, 1, 0, 0, 0, 0, 0, []) : zm_E) := (congrArg (fun l => l[3]?) cd_112).trans rfl
theorem c_112_4 : (zm_cd 112)[4]? = some ((8, .getfield 20, 3, 0, 2, 0, 0, 0, []) : zm_E) := (congrArg (fun l => l[4]?) cd_112).trans rfl
theorem c_112_5 : (zm_cd 112)[5]? = some ((11, .aload_n 0, 1, 0, 0, 0, 0, 0, []) : zm_E) := (congrArg (fun l => l[5]?) cd_112).trans rfl
theorem c_112_6 : (zm_cd 112)[6]? = some ((12, .getfield 11, 3, 0, 0, 1, 0, 0, []) : zm_E) := (congrArg (fun l => l[6]?) cd_112).trans rfl
theorem c_112_7 : (zm_cd 112)[7]? = some ((15, .arraylength, 1, 0, 0, 0, 0, 0, []) : zm_E) := (congrArg (fun l => l[7]?) cd_112).trans rfl
theorem c_112_8 : (zm_cd 112)[8]? = some ((16, .if_icmp .ge 56, 3, 38, 0, 0, 0, 0, []) : zm_E) := (congrArg (fun l => l[8]?) cd_112).trans rfl
theorem c_112_9 : (zm_cd 112)[9]? = some ((19, .aload_n 0, 1, 0, 0, 0, 0, 0, []) : zm_E) := (congrArg (fun l => l[9]?) cd_112).trans rfl
theorem c_112_10 : (zm_cd 112)[10]? = some ((20, .getfield 11, 3, 0, 0, 1, 0, 0, []) : zm_E) := (congrArg (fun l => l[10]?) cd_112).trans rfl
theorem c_112_11 : (zm_cd 112)[11]? = some ((23, .aload_n 0, 1, 0, 0, 0, 0, 0, []) : zm_E) := (congrArg (fun l => l[11]?) cd_112).trans rfl
theorem c_112_12 : (zm_cd 112)[12]? = some ((24, .getfield 20, 3, 0, 2, 0, 0, 0, []) : zm_E) := (congrArg (fun l => l[12]?) cd_112).trans rfl
theorem c_112_13 : (zm_cd 112)[13]? = some ((27, .aaload, 1, 0, 0, 0, 0, 0, []) : zm_E) := (congrArg (fun l => l[13]?) cd_112).trans rfl
theorem c_112_14 : (zm_cd 112)[14]? = some ((28, .ifnull 44, 3, 38, 0, 0, 0, 0, []) : zm_E) := (congrArg (fun l => l[14]?) cd_112).trans rfl
theorem c_112_15 : (zm_cd 112)[15]? = some ((31, .aload_n 0, 1, 0, 0, 0, 0, 0, []) : zm_E) := (congrArg (fun l => l[15]?) cd_112).trans rfl
theorem c_112_16 : (zm_cd 112)[16]? = some ((32, .getfield 11, 3, 0, 0, 1, 0, 0, []) : zm_E) := (congrArg (fun l => l[16]?) cd_112).trans rfl
theorem c_112_17 : (zm_cd 112)[17]? = some ((35, .aload_n 0, 1, 0, 0, 0, 0, 0, []) : zm_E) := (congrArg (fun l => l[17]?) cd_112).trans rfl
theorem c_112_18 : (zm_cd 112)[18]? = some ((36, .getfield 20, 3, 0, 2, 0, 0, 0, []) : zm_E) := (congrArg (fun l => l[18]?) cd_112).trans rfl
theorem c_112_19 : (zm_cd 112)[19]? = some ((39, .aaload, 1, 0, 0, 0, 0, 0, []) : zm_E) := (congrArg (fun l => l[19]?) cd_112).trans rfl
theorem c_112_20 : (zm_cd 112)[20]? = some ((40, .aload_n 1, 1, 1, 0, 0, 0, 0, []) : zm_E) := (congrArg (fun l => l[20]?) cd_112).trans rfl
theorem c_112_21 : (zm_cd 112)[21]? = some ((41, .invokevirtual 23, 3, 115, 1, 0, 0, 0, [1]) : zm_E) := (congrArg (fun l => l[21]?) cd_112).trans rfl
theorem c_112_22 : (zm_cd 112)[22]? = some ((44, .aload_n 0, 1, 0, 0, 0, 0, 0, []) : zm_E) := (congrArg (fun l => l[22]?) cd_112).trans rfl
theorem c_112_23 : (zm_cd 112)[23]? = some ((45, .aload_n 0, 1, 0, 0, 0, 0, 0, []) : zm_E) := (congrArg (fun l => l[23]?) cd_112).trans rfl
theorem c_112_24 : (zm_cd 112)[24]? = some ((46, .getfield 20, 3, 0, 2, 0, 0, 0, []) : zm_E) := (congrArg (fun l => l[24]?) cd_112).trans rfl
theorem c_112_25 : (zm_cd 112)[25]? = some ((49, .iconst 1, 1, 0, 0, 0, 1, 0, []) : zm_E) := (congrArg (fun l => l[25]?) cd_112).trans rfl
theorem c_112_26 : (zm_cd 112)[26]? = some ((50, .iadd, 1, 0, 0, 0, 0, 0, []) : zm_E) := (congrArg (fun l => l[26]?) cd_112).trans rfl
theorem c_112_27 : (zm_cd 112)[27]? = some ((51, .bipush 14, 2, 0, 0, 0, 14, 0, []) : zm_E) := (congrArg (fun l => l[27]?) cd_112).trans rfl
theorem c_112_28 : (zm_cd 112)[28]? = some ((53, .irem, 1, 0, 0, 0, 0, 0, []) : zm_E) := (congrArg (fun l => l[28]?) cd_112).trans rfl
theorem c_112_29 : (zm_cd 112)[29]? = some ((54, .putfield 20, 3, 0, 2, 0, 0, 0, []) : zm_E) := (congrArg (fun l => l[29]?) cd_112).trans rfl
theorem c_112_30 : (zm_cd 112)[30]? = some ((57, .aload_n 0, 1, 0, 0, 0, 0, 0, []) : zm_E) := (congrArg (fun l => l[30]?) cd_112).trans rfl
theorem c_112_31 : (zm_cd 112)[31]? = some ((58, .aload_n 0, 1, 0, 0, 0, 0, 0, []) : zm_E) := (congrArg (fun l => l[31]?) cd_112).trans rfl
theorem c_112_32 : (zm_cd 112)[32]? = some ((59, .getfield 16, 3, 0, 1, 0, 0, 0, []) : zm_E) := (congrArg (fun l => l[32]?) cd_112).trans rfl
theorem c_112_33 : (zm_cd 112)[33]? = some ((62, .iconst 1, 1, 0, 0, 0, 1, 0, []) : zm_E) := (congrArg (fun l => l[33]?) cd_112).trans rfl
theorem c_112_34 : (zm_cd 112)[34]? = some ((63, .iadd, 1, 0, 0, 0, 0, 0, []) : zm_E) := (congrArg (fun l => l[34]?) cd_112).trans rfl
theorem c_112_35 : (zm_cd 112)[35]? = some ((64, .bipush 14, 2, 0, 0, 0, 14, 0, []) : zm_E) := (congrArg (fun l => l[35]?) cd_112).trans rfl
theorem c_112_36 : (zm_cd 112)[36]? = some ((66, .invokestatic 27, 3, 1003, 2, 1, 0, 0, []) : zm_E) := (congrArg (fun l => l[36]?) cd_112).trans rfl
theorem c_112_37 : (zm_cd 112)[37]? = some ((69, .putfield 16, 3, 0, 1, 0, 0, 0, []) : zm_E) := (congrArg (fun l => l[37]?) cd_112).trans rfl
theorem c_112_38 : (zm_cd 112)[38]? = some ((72, .return_, 1, 0, 0, 0, 0, 0, []) : zm_E) := (congrArg (fun l => l[38]?) cd_112).trans rfl
theorem cd_113 : zm_cd 113 = zd_113 := rfl
theorem ml_113 : zm_ml 113 = 3 := rfl
theorem ht_113 : zm_ht 113 = [] := rfl
theorem c_113_0 : (zm_cd 113)[0]? = some ((0, .aload_n 0, 1, 0, 0, 0, 0, 0, []) : zm_E) := (congrArg (fun l => l[0]?) cd_113).trans rfl
theorem c_113_1 : (zm_cd 113)[1]? = some ((1, .getfield 20, 3, 0, 2, 0, 0, 0, []) : zm_E) := (congrArg (fun l => l[1]?) cd_113).trans rfl
theorem c_113_2 : (zm_cd 113)[2]? = some ((4, .bipush 14, 2, 0, 0, 0, 14, 0, []) : zm_E) := (congrArg (fun l => l[2]?) cd_113).trans rfl
theorem c_113_3 : (zm_cd 113)[3]? = some ((6, .iadd, 1, 0, 0, 0, 0, 0, []) : zm_E) := (congrArg (fun l => l[3]?) cd_113).trans rfl
theorem c_113_4 : (zm_cd 113)[4]? = some ((7, .iconst 1, 1, 0, 0, 0, 1, 0, []) : zm_E) := (congrArg (fun l => l[4]?) cd_113).trans rfl
theorem c_113_5 : (zm_cd 113)[5]? = some ((8, .isub, 1, 0, 0, 0, 0, 0, []) : zm_E) := (congrArg (fun l => l[5]?) cd_113).trans rfl
theorem c_113_6 : (zm_cd 113)[6]? = some ((9, .bipush 14, 2, 0, 0, 0, 14, 0, []) : zm_E) := (congrArg (fun l => l[6]?) cd_113).trans rfl
theorem c_113_7 : (zm_cd 113)[7]? = some ((11, .irem, 1, 0, 0, 0, 0, 0, []) : zm_E) := (congrArg (fun l => l[7]?) cd_113).trans rfl
theorem c_113_8 : (zm_cd 113)[8]? = some ((12, .istore_n 2, 1, 2, 0, 0, 0, 0, []) : zm_E) := (congrArg (fun l => l[8]?) cd_113).trans rfl
theorem c_113_9 : (zm_cd 113)[9]? = some ((13, .aload_n 0, 1, 0, 0, 0, 0, 0, []) : zm_E) := (congrArg (fun l => l[9]?) cd_113).trans rfl
theorem c_113_10 : (zm_cd 113)[10]? = some ((14, .getfield 16, 3, 0, 1, 0, 0, 0, []) : zm_E) := (congrArg (fun l => l[10]?) cd_113).trans rfl
theorem c_113_11 : (zm_cd 113)[11]? = some ((17, .ifCond .le 50, 3, 39, 0, 0, 0, 0, []) : zm_E) := (congrArg (fun l => l[11]?) cd_113).trans rfl
theorem c_113_12 : (zm_cd 113)[12]? = some ((20, .iload_n 2, 1, 2, 0, 0, 0, 0, []) : zm_E) := (congrArg (fun l => l[12]?) cd_113).trans rfl
theorem c_113_13 : (zm_cd 113)[13]? = some ((21, .ifCond .lt 46, 3, 39, 0, 0, 0, 0, []) : zm_E) := (congrArg (fun l => l[13]?) cd_113).trans rfl
theorem c_113_14 : (zm_cd 113)[14]? = some ((24, .iload_n 2, 1, 2, 0, 0, 0, 0, []) : zm_E) := (congrArg (fun l => l[14]?) cd_113).trans rfl
theorem c_113_15 : (zm_cd 113)[15]? = some ((25, .aload_n 0, 1, 0, 0, 0, 0, 0, []) : zm_E) := (congrArg (fun l => l[15]?) cd_113).trans rfl
theorem c_113_16 : (zm_cd 113)[16]? = some ((26, .getfield 11, 3, 0, 0, 1, 0, 0, []) : zm_E) := (congrArg (fun l => l[16]?) cd_113).trans rfl
theorem c_113_17 : (zm_cd 113)[17]? = some ((29, .arraylength, 1, 0, 0, 0, 0, 0, []) : zm_E) := (congrArg (fun l => l[17]?) cd_113).trans rfl
theorem c_113_18 : (zm_cd 113)[18]? = some ((30, .if_icmp .ge 37, 3, 39, 0, 0, 0, 0, []) : zm_E) := (congrArg (fun l => l[18]?) cd_113).trans rfl
theorem c_113_19 : (zm_cd 113)[19]? = some ((33, .aload_n 0, 1, 0, 0, 0, 0, 0, []) : zm_E) := (congrArg (fun l => l[19]?) cd_113).trans rfl
theorem c_113_20 : (zm_cd 113)[20]? = some ((34, .getfield 11, 3, 0, 0, 1, 0, 0, []) : zm_E) := (congrArg (fun l => l[20]?) cd_113).trans rfl
theorem c_113_21 : (zm_cd 113)[21]? = some ((37, .iload_n 2, 1, 2, 0, 0, 0, 0, []) : zm_E) := (congrArg (fun l => l[21]?) cd_113).trans rfl
theorem c_113_22 : (zm_cd 113)[22]? = some ((38, .aaload, 1, 0, 0, 0, 0, 0, []) : zm_E) := (congrArg (fun l => l[22]?) cd_113).trans rfl
theorem c_113_23 : (zm_cd 113)[23]? = some ((39, .ifnull 28, 3, 39, 0, 0, 0, 0, []) : zm_E) := (congrArg (fun l => l[23]?) cd_113).trans rfl
theorem c_113_24 : (zm_cd 113)[24]? = some ((42, .aload_n 1, 1, 1, 0, 0, 0, 0, []) : zm_E) := (congrArg (fun l => l[24]?) cd_113).trans rfl
theorem c_113_25 : (zm_cd 113)[25]? = some ((43, .aload_n 0, 1, 0, 0, 0, 0, 0, []) : zm_E) := (congrArg (fun l => l[25]?) cd_113).trans rfl
theorem c_113_26 : (zm_cd 113)[26]? = some ((44, .getfield 11, 3, 0, 0, 1, 0, 0, []) : zm_E) := (congrArg (fun l => l[26]?) cd_113).trans rfl
theorem c_113_27 : (zm_cd 113)[27]? = some ((47, .iload_n 2, 1, 2, 0, 0, 0, 0, []) : zm_E) := (congrArg (fun l => l[27]?) cd_113).trans rfl
theorem c_113_28 : (zm_cd 113)[28]? = some ((48, .aaload, 1, 0, 0, 0, 0, 0, []) : zm_E) := (congrArg (fun l => l[28]?) cd_113).trans rfl
theorem c_113_29 : (zm_cd 113)[29]? = some ((49, .invokevirtual 23, 3, 115, 1, 0, 0, 0, [1]) : zm_E) := (congrArg (fun l => l[29]?) cd_113).trans rfl
theorem c_113_30 : (zm_cd 113)[30]? = some ((52, .aload_n 0, 1, 0, 0, 0, 0, 0, []) : zm_E) := (congrArg (fun l => l[30]?) cd_113).trans rfl
theorem c_113_31 : (zm_cd 113)[31]? = some ((53, .iload_n 2, 1, 2, 0, 0, 0, 0, []) : zm_E) := (congrArg (fun l => l[31]?) cd_113).trans rfl
theorem c_113_32 : (zm_cd 113)[32]? = some ((54, .putfield 20, 3, 0, 2, 0, 0, 0, []) : zm_E) := (congrArg (fun l => l[32]?) cd_113).trans rfl
theorem c_113_33 : (zm_cd 113)[33]? = some ((57, .aload_n 0, 1, 0, 0, 0, 0, 0, []) : zm_E) := (congrArg (fun l => l[33]?) cd_113).trans rfl
theorem c_113_34 : (zm_cd 113)[34]? = some ((58, .dup, 1, 0, 0, 0, 0, 0, []) : zm_E) := (congrArg (fun l => l[34]?) cd_113).trans rfl
theorem c_113_35 : (zm_cd 113)[35]? = some ((59, .getfield 16, 3, 0, 1, 0, 0, 0, []) : zm_E) := (congrArg (fun l => l[35]?) cd_113).trans rfl
theorem c_113_36 : (zm_cd 113)[36]? = some ((62, .iconst 1, 1, 0, 0, 0, 1, 0, []) : zm_E) := (congrArg (fun l => l[36]?) cd_113).trans rfl
theorem c_113_37 : (zm_cd 113)[37]? = some ((63, .isub, 1, 0, 0, 0, 0, 0, []) : zm_E) := (congrArg (fun l => l[37]?) cd_113).trans rfl
theorem c_113_38 : (zm_cd 113)[38]? = some ((64, .putfield 16, 3, 0, 1, 0, 0, 0, []) : zm_E) := (congrArg (fun l => l[38]?) cd_113).trans rfl
theorem c_113_39 : (zm_cd 113)[39]? = some ((67, .return_, 1, 0, 0, 0, 0, 0, []) : zm_E) := (congrArg (fun l => l[39]?) cd_113).trans rfl
theorem cd_115 : zm_cd 115 = zd_115 := rfl
theorem ml_115 : zm_ml 115 = 2 := rfl
theorem ht_115 : zm_ht 115 = [] := rfl
theorem c_115_0 : (zm_cd 115)[0]? = some ((0, .aload_n 0, 1, 0, 0, 0, 0, 0, []) : zm_E) := (congrArg (fun l => l[0]?) cd_115).trans rfl
theorem c_115_1 : (zm_cd 115)[1]? = some ((1, .aload_n 1, 1, 1, 0, 0, 0, 0, []) : zm_E) := (congrArg (fun l => l[1]?) cd_115).trans rfl
theorem c_115_2 : (zm_cd 115)[2]? = some ((2, .getfield 18, 3, 1, 0, 0, 0, 0, []) : zm_E) := (congrArg (fun l => l[2]?) cd_115).trans rfl
theorem c_115_3 : (zm_cd 115)[3]? = some ((5, .putfield 18, 3, 1, 0, 0, 0, 0, []) : zm_E) := (congrArg (fun l => l[3]?) cd_115).trans rfl
theorem c_115_4 : (zm_cd 115)[4]? = some ((8, .aload_n 0, 1, 0, 0, 0, 0, 0, []) : zm_E) := (congrArg (fun l => l[4]?) cd_115).trans rfl
theorem c_115_5 : (zm_cd 115)[5]? = some ((9, .aload_n 1, 1, 1, 0, 0, 0, 0, []) : zm_E) := (congrArg (fun l => l[5]?) cd_115).trans rfl
theorem c_115_6 : (zm_cd 115)[6]? = some ((10, .getfield 22, 3, 1, 1, 0, 0, 0, []) : zm_E) := (congrArg (fun l => l[6]?) cd_115).trans rfl
theorem c_115_7 : (zm_cd 115)[7]? = some ((13, .putfield 22, 3, 1, 1, 0, 0, 0, []) : zm_E) := (congrArg (fun l => l[7]?) cd_115).trans rfl
theorem c_115_8 : (zm_cd 115)[8]? = some ((16, .aload_n 1, 1, 1, 0, 0, 0, 0, []) : zm_E) := (congrArg (fun l => l[8]?) cd_115).trans rfl
theorem c_115_9 : (zm_cd 115)[9]? = some ((17, .getfield 9, 3, 1, 2, 1, 0, 0, []) : zm_E) := (congrArg (fun l => l[9]?) cd_115).trans rfl
theorem c_115_10 : (zm_cd 115)[10]? = some ((20, .aload_n 0, 1, 0, 0, 0, 0, 0, []) : zm_E) := (congrArg (fun l => l[10]?) cd_115).trans rfl
theorem c_115_11 : (zm_cd 115)[11]? = some ((21, .getfield 9, 3, 1, 2, 1, 0, 0, []) : zm_E) := (congrArg (fun l => l[11]?) cd_115).trans rfl
theorem c_115_12 : (zm_cd 115)[12]? = some ((24, .invokestatic 25, 3, 211, 2, 0, 1, 0, []) : zm_E) := (congrArg (fun l => l[12]?) cd_115).trans rfl
theorem c_115_13 : (zm_cd 115)[13]? = some ((27, .aload_n 1, 1, 1, 0, 0, 0, 0, []) : zm_E) := (congrArg (fun l => l[13]?) cd_115).trans rfl
theorem c_115_14 : (zm_cd 115)[14]? = some ((28, .getfield 15, 3, 1, 3, 1, 0, 0, []) : zm_E) := (congrArg (fun l => l[14]?) cd_115).trans rfl
theorem c_115_15 : (zm_cd 115)[15]? = some ((31, .aload_n 0, 1, 0, 0, 0, 0, 0, []) : zm_E) := (congrArg (fun l => l[15]?) cd_115).trans rfl
theorem c_115_16 : (zm_cd 115)[16]? = some ((32, .getfield 15, 3, 1, 3, 1, 0, 0, []) : zm_E) := (congrArg (fun l => l[16]?) cd_115).trans rfl
theorem c_115_17 : (zm_cd 115)[17]? = some ((35, .invokestatic 25, 3, 211, 2, 0, 1, 0, []) : zm_E) := (congrArg (fun l => l[17]?) cd_115).trans rfl
theorem c_115_18 : (zm_cd 115)[18]? = some ((38, .return_, 1, 0, 0, 0, 0, 0, []) : zm_E) := (congrArg (fun l => l[18]?) cd_115).trans rfl
theorem cd_116 : zm_cd 116 = zd_116 := rfl
theorem ml_116 : zm_ml 116 = 2 := rfl
theorem ht_116 : zm_ht 116 = [] := rfl
theorem c_116_0 : (zm_cd 116)[0]? = some ((0, .iload_n 1, 1, 1, 0, 0, 0, 0, []) : zm_E) := (congrArg (fun l => l[0]?) cd_116).trans rfl
theorem c_116_1 : (zm_cd 116)[1]? = some ((1, .ifCond .lt 15, 3, 8, 0, 0, 0, 0, []) : zm_E) := (congrArg (fun l => l[1]?) cd_116).trans rfl
theorem c_116_2 : (zm_cd 116)[2]? = some ((4, .iload_n 1, 1, 1, 0, 0, 0, 0, []) : zm_E) := (congrArg (fun l => l[2]?) cd_116).trans rfl
theorem c_116_3 : (zm_cd 116)[3]? = some ((5, .aload_n 0, 1, 0, 0, 0, 0, 0, []) : zm_E) := (congrArg (fun l => l[3]?) cd_116).trans rfl
theorem c_116_4 : (zm_cd 116)[4]? = some ((6, .getfield 18, 3, 1, 0, 0, 0, 0, []) : zm_E) := (congrArg (fun l => l[4]?) cd_116).trans rfl
theorem c_116_5 : (zm_cd 116)[5]? = some ((9, .if_icmp .ge 7, 3, 8, 0, 0, 0, 0, []) : zm_E) := (congrArg (fun l => l[5]?) cd_116).trans rfl
theorem c_116_6 : (zm_cd 116)[6]? = some ((12, .iconst 1, 1, 0, 0, 0, 1, 0, []) : zm_E) := (congrArg (fun l => l[6]?) cd_116).trans rfl
theorem c_116_7 : (zm_cd 116)[7]? = some ((13, .goto 4, 3, 9, 0, 0, 0, 0, []) : zm_E) := (congrArg (fun l => l[7]?) cd_116).trans rfl
theorem c_116_8 : (zm_cd 116)[8]? = some ((16, .iconst 0, 1, 0, 0, 0, 0, 0, []) : zm_E) := (congrArg (fun l => l[8]?) cd_116).trans rfl
theorem c_116_9 : (zm_cd 116)[9]? = some ((17, .ireturn, 1, 1, 0, 0, 0, 0, []) : zm_E) := (congrArg (fun l => l[9]?) cd_116).trans rfl
theorem cd_117 : zm_cd 117 = zd_117 := rfl
theorem ml_117 : zm_ml 117 = 1 := rfl
theorem ht_117 : zm_ht 117 = [] := rfl
theorem c_117_0 : (zm_cd 117)[0]? = some ((0, .aload_n 0, 1, 0, 0, 0, 0, 0, []) : zm_E) := (congrArg (fun l => l[0]?) cd_117).trans rfl
theorem c_117_1 : (zm_cd 117)[1]? = some ((1, .getfield 18, 3, 1, 0, 0, 0, 0, []) : zm_E) := (congrArg (fun l => l[1]?) cd_117).trans rfl
theorem c_117_2 : (zm_cd 117)[2]? = some ((4, .invokestatic 29, 3, 36, 1, 1, 1, 0, []) : zm_E) := (congrArg (fun l => l[2]?) cd_117).trans rfl
theorem c_117_3 : (zm_cd 117)[3]? = some ((7, .iconst 1, 1, 0, 0, 0, 1, 0, []) : zm_E) := (congrArg (fun l => l[3]?) cd_117).trans rfl
theorem c_117_4 : (zm_cd 117)[4]? = some ((8, .isub, 1, 0, 0, 0, 0, 0, []) : zm_E) := (congrArg (fun l => l[4]?) cd_117).trans rfl
theorem c_117_5 : (zm_cd 117)[5]? = some ((9, .ireturn, 1, 0, 0, 0, 0, 0, []) : zm_E) := (congrArg (fun l => l[5]?) cd_117).trans rfl
theorem cd_118 : zm_cd 118 = zd_118 := rfl
theorem ml_118 : zm_ml 118 = 1 := rfl
theorem ht_118 : zm_ht 118 = [] := rfl
theorem c_118_0 : (zm_cd 118)[0]? = some ((0, .aload_n 0, 1, 0, 0, 0, 0, 0, []) : zm_E) := (congrArg (fun l => l[0]?) cd_118).trans rfl
theorem c_118_1 : (zm_cd 118)[1]? = some ((1, .invokevirtual 33, 3, 117, 0, 1, 0, 0, [1]) : zm_E) := (congrArg (fun l => l[1]?) cd_118).trans rfl
theorem c_118_2 : (zm_cd 118)[2]? = some ((4, .aload_n 0, 1, 0, 0, 0, 0, 0, []) : zm_E) := (congrArg (fun l => l[2]?) cd_118).trans rfl
theorem c_118_3 : (zm_cd 118)[3]? = some ((5, .getfield 22, 3, 1, 1, 0, 0, 0, []) : zm_E) := (congrArg (fun l => l[3]?) cd_118).trans rfl
theorem c_118_4 : (zm_cd 118)[4]? = some ((8, .iconst (-1), 1, 0, 0, 0, (-1), 0, []) : zm_E) := (congrArg (fun l => l[4]?) cd_118).trans rfl
theorem c_118_5 : (zm_cd 118)[5]? = some ((9, .ixor, 1, 0, 0, 0, 0, 0, []) : zm_E) := (congrArg (fun l => l[5]?) cd_118).trans rfl
theorem c_118_6 : (zm_cd 118)[6]? = some ((10, .iand, 1, 0, 0, 0, 0, 0, []) : zm_E) := (congrArg (fun l => l[6]?) cd_118).trans rfl
theorem c_118_7 : (zm_cd 118)[7]? = some ((11, .ireturn, 1, 0, 0, 0, 0, 0, []) : zm_E) := (congrArg (fun l => l[7]?) cd_118).trans rfl
