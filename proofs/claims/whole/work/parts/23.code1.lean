/-! the instructions, by program, part 1 -/
theorem cd_56 : zm_cd 56 = zd_56 := rfl
theorem ml_56 : zm_ml 56 = 3 := rfl
theorem ht_56 : zm_ht 56 = [] := rfl
theorem c_56_0 : (zm_cd 56)[0]? = some ((0, .iconst 0, 1, 0, 0, 0, 0, 0, []) : zm_E) := (congrArg (fun l => l[0]?) cd_56).trans rfl
theorem c_56_1 : (zm_cd 56)[1]? = some ((1, .istore_n 2, 1, 2, 0, 0, 0, 0, []) : zm_E) := (congrArg (fun l => l[1]?) cd_56).trans rfl
theorem c_56_2 : (zm_cd 56)[2]? = some ((2, .iload_n 2, 1, 2, 0, 0, 0, 0, []) : zm_E) := (congrArg (fun l => l[2]?) cd_56).trans rfl
theorem c_56_3 : (zm_cd 56)[3]? = some ((3, .aload_n 0, 1, 0, 0, 0, 0, 0, []) : zm_E) := (congrArg (fun l => l[3]?) cd_56).trans rfl
theorem c_56_4 : (zm_cd 56)[4]? = some ((4, .getfield 7, 3, 8, 0, 1, 0, 0, []) : zm_E) := (congrArg (fun l => l[4]?) cd_56).trans rfl
theorem c_56_5 : (zm_cd 56)[5]? = some ((7, .iconst 0, 1, 0, 0, 0, 0, 0, []) : zm_E) := (congrArg (fun l => l[5]?) cd_56).trans rfl
theorem c_56_6 : (zm_cd 56)[6]? = some ((8, .iaload, 1, 0, 0, 0, 0, 0, []) : zm_E) := (congrArg (fun l => l[6]?) cd_56).trans rfl
theorem c_56_7 : (zm_cd 56)[7]? = some ((9, .if_icmp .ge 53, 3, 36, 0, 0, 0, 0, []) : zm_E) := (congrArg (fun l => l[7]?) cd_56).trans rfl
theorem c_56_8 : (zm_cd 56)[8]? = some ((12, .iload_n 1, 1, 1, 0, 0, 0, 0, []) : zm_E) := (congrArg (fun l => l[8]?) cd_56).trans rfl
theorem c_56_9 : (zm_cd 56)[9]? = some ((13, .iload_n 2, 1, 2, 0, 0, 0, 0, []) : zm_E) := (congrArg (fun l => l[9]?) cd_56).trans rfl
theorem c_56_10 : (zm_cd 56)[10]? = some ((14, .invokestatic 82, 3, 41, 2, 1, 0, 0, []) : zm_E) := (congrArg (fun l => l[10]?) cd_56).trans rfl
theorem c_56_11 : (zm_cd 56)[11]? = some ((17, .ifCond .eq 39, 3, 34, 0, 0, 0, 0, []) : zm_E) := (congrArg (fun l => l[11]?) cd_56).trans rfl
theorem c_56_12 : (zm_cd 56)[12]? = some ((20, .aload_n 0, 1, 0, 0, 0, 0, 0, []) : zm_E) := (congrArg (fun l => l[12]?) cd_56).trans rfl
theorem c_56_13 : (zm_cd 56)[13]? = some ((21, .getfield 29, 3, 8, 9, 1, 0, 0, []) : zm_E) := (congrArg (fun l => l[13]?) cd_56).trans rfl
theorem c_56_14 : (zm_cd 56)[14]? = some ((24, .iload_n 2, 1, 2, 0, 0, 0, 0, []) : zm_E) := (congrArg (fun l => l[14]?) cd_56).trans rfl
theorem c_56_15 : (zm_cd 56)[15]? = some ((25, .aload_n 0, 1, 0, 0, 0, 0, 0, []) : zm_E) := (congrArg (fun l => l[15]?) cd_56).trans rfl
theorem c_56_16 : (zm_cd 56)[16]? = some ((26, .aload_n 0, 1, 0, 0, 0, 0, 0, []) : zm_E) := (congrArg (fun l => l[16]?) cd_56).trans rfl
theorem c_56_17 : (zm_cd 56)[17]? = some ((27, .getfield 41, 3, 8, 13, 1, 0, 0, []) : zm_E) := (congrArg (fun l => l[17]?) cd_56).trans rfl
theorem c_56_18 : (zm_cd 56)[18]? = some ((30, .iload_n 2, 1, 2, 0, 0, 0, 0, []) : zm_E) := (congrArg (fun l => l[18]?) cd_56).trans rfl
theorem c_56_19 : (zm_cd 56)[19]? = some ((31, .iaload, 1, 0, 0, 0, 0, 0, []) : zm_E) := (congrArg (fun l => l[19]?) cd_56).trans rfl
theorem c_56_20 : (zm_cd 56)[20]? = some ((32, .invokevirtual 90, 3, 50, 1, 1, 0, 0, [8]) : zm_E) := (congrArg (fun l => l[20]?) cd_56).trans rfl
theorem c_56_21 : (zm_cd 56)[21]? = some ((35, .iastore, 1, 0, 0, 0, 0, 0, []) : zm_E) := (congrArg (fun l => l[21]?) cd_56).trans rfl
theorem c_56_22 : (zm_cd 56)[22]? = some ((36, .aload_n 0, 1, 0, 0, 0, 0, 0, []) : zm_E) := (congrArg (fun l => l[22]?) cd_56).trans rfl
theorem c_56_23 : (zm_cd 56)[23]? = some ((37, .getfield 32, 3, 8, 10, 1, 0, 0, []) : zm_E) := (congrArg (fun l => l[23]?) cd_56).trans rfl
theorem c_56_24 : (zm_cd 56)[24]? = some ((40, .iload_n 2, 1, 2, 0, 0, 0, 0, []) : zm_E) := (congrArg (fun l => l[24]?) cd_56).trans rfl
theorem c_56_25 : (zm_cd 56)[25]? = some ((41, .aload_n 0, 1, 0, 0, 0, 0, 0, []) : zm_E) := (congrArg (fun l => l[25]?) cd_56).trans rfl
theorem c_56_26 : (zm_cd 56)[26]? = some ((42, .getfield 104, 3, 8, 17, 0, 0, 0, []) : zm_E) := (congrArg (fun l => l[26]?) cd_56).trans rfl
theorem c_56_27 : (zm_cd 56)[27]? = some ((45, .iastore, 1, 0, 0, 0, 0, 0, []) : zm_E) := (congrArg (fun l => l[27]?) cd_56).trans rfl
theorem c_56_28 : (zm_cd 56)[28]? = some ((46, .aload_n 0, 1, 0, 0, 0, 0, 0, []) : zm_E) := (congrArg (fun l => l[28]?) cd_56).trans rfl
theorem c_56_29 : (zm_cd 56)[29]? = some ((47, .getfield 35, 3, 8, 11, 1, 0, 0, []) : zm_E) := (congrArg (fun l => l[29]?) cd_56).trans rfl
theorem c_56_30 : (zm_cd 56)[30]? = some ((50, .iload_n 2, 1, 2, 0, 0, 0, 0, []) : zm_E) := (congrArg (fun l => l[30]?) cd_56).trans rfl
theorem c_56_31 : (zm_cd 56)[31]? = some ((51, .aload_n 0, 1, 0, 0, 0, 0, 0, []) : zm_E) := (congrArg (fun l => l[31]?) cd_56).trans rfl
theorem c_56_32 : (zm_cd 56)[32]? = some ((52, .getfield 101, 3, 8, 16, 0, 0, 0, []) : zm_E) := (congrArg (fun l => l[32]?) cd_56).trans rfl
theorem c_56_33 : (zm_cd 56)[33]? = some ((55, .iastore, 1, 0, 0, 0, 0, 0, []) : zm_E) := (congrArg (fun l => l[33]?) cd_56).trans rfl
theorem c_56_34 : (zm_cd 56)[34]? = some ((56, .iinc 2 1, 3, 2, 0, 0, 1, 0, []) : zm_E) := (congrArg (fun l => l[34]?) cd_56).trans rfl
theorem c_56_35 : (zm_cd 56)[35]? = some ((59, .goto (-57), 3, 2, 0, 0, 0, 0, []) : zm_E) := (congrArg (fun l => l[35]?) cd_56).trans rfl
theorem c_56_36 : (zm_cd 56)[36]? = some ((62, .return_, 1, 0, 0, 0, 0, 0, []) : zm_E) := (congrArg (fun l => l[36]?) cd_56).trans rfl
theorem cd_57 : zm_cd 57 = zd_57 := rfl
theorem ml_57 : zm_ml 57 = 2 := rfl
theorem ht_57 : zm_ht 57 = [] := rfl
theorem c_57_0 : (zm_cd 57)[0]? = some ((0, .aload_n 0, 1, 0, 0, 0, 0, 0, []) : zm_E) := (congrArg (fun l => l[0]?) cd_57).trans rfl
theorem c_57_1 : (zm_cd 57)[1]? = some ((1, .iconst 0, 1, 0, 0, 0, 0, 0, []) : zm_E) := (congrArg (fun l => l[1]?) cd_57).trans rfl
theorem c_57_2 : (zm_cd 57)[2]? = some ((2, .putfield 71, 3, 8, 8, 0, 0, 0, []) : zm_E) := (congrArg (fun l => l[2]?) cd_57).trans rfl
theorem c_57_3 : (zm_cd 57)[3]? = some ((5, .iload_n 1, 1, 1, 0, 0, 0, 0, []) : zm_E) := (congrArg (fun l => l[3]?) cd_57).trans rfl
theorem c_57_4 : (zm_cd 57)[4]? = some ((6, .i2l, 1, 0, 0, 0, 0, 0, []) : zm_E) := (congrArg (fun l => l[4]?) cd_57).trans rfl
theorem c_57_5 : (zm_cd 57)[5]? = some ((7, .lconst 0, 1, 0, 0, 0, 0, 0, []) : zm_E) := (congrArg (fun l => l[5]?) cd_57).trans rfl
theorem c_57_6 : (zm_cd 57)[6]? = some ((8, .ldc2_w 117, 3, 0, 0, 0, 0, 255, []) : zm_E) := (congrArg (fun l => l[6]?) cd_57).trans rfl
theorem c_57_7 : (zm_cd 57)[7]? = some ((11, .invokestatic 78, 3, 40, 3, 1, 0, 0, []) : zm_E) := (congrArg (fun l => l[7]?) cd_57).trans rfl
theorem c_57_8 : (zm_cd 57)[8]? = some ((14, .ifCond .ne 9, 3, 13, 0, 0, 0, 0, []) : zm_E) := (congrArg (fun l => l[8]?) cd_57).trans rfl
theorem c_57_9 : (zm_cd 57)[9]? = some ((17, .aload_n 0, 1, 0, 0, 0, 0, 0, []) : zm_E) := (congrArg (fun l => l[9]?) cd_57).trans rfl
theorem c_57_10 : (zm_cd 57)[10]? = some ((18, .iconst 1, 1, 0, 0, 0, 1, 0, []) : zm_E) := (congrArg (fun l => l[10]?) cd_57).trans rfl
theorem c_57_11 : (zm_cd 57)[11]? = some ((19, .invokevirtual 119, 3, 43, 1, 1, 0, 0, [8]) : zm_E) := (congrArg (fun l => l[11]?) cd_57).trans rfl
theorem c_57_12 : (zm_cd 57)[12]? = some ((22, .ireturn, 1, 0, 0, 0, 0, 0, []) : zm_E) := (congrArg (fun l => l[12]?) cd_57).trans rfl
theorem c_57_13 : (zm_cd 57)[13]? = some ((23, .aload_n 0, 1, 0, 0, 0, 0, 0, []) : zm_E) := (congrArg (fun l => l[13]?) cd_57).trans rfl
theorem c_57_14 : (zm_cd 57)[14]? = some ((24, .getfield 122, 3, 8, 7, 0, 0, 0, []) : zm_E) := (congrArg (fun l => l[14]?) cd_57).trans rfl
theorem c_57_15 : (zm_cd 57)[15]? = some ((27, .bipush 70, 2, 0, 0, 0, 70, 0, []) : zm_E) := (congrArg (fun l => l[15]?) cd_57).trans rfl
theorem c_57_16 : (zm_cd 57)[16]? = some ((29, .if_icmp .ne 9, 3, 21, 0, 0, 0, 0, []) : zm_E) := (congrArg (fun l => l[16]?) cd_57).trans rfl
theorem c_57_17 : (zm_cd 57)[17]? = some ((32, .aload_n 0, 1, 0, 0, 0, 0, 0, []) : zm_E) := (congrArg (fun l => l[17]?) cd_57).trans rfl
theorem c_57_18 : (zm_cd 57)[18]? = some ((33, .iconst 2, 1, 0, 0, 0, 2, 0, []) : zm_E) := (congrArg (fun l => l[18]?) cd_57).trans rfl
theorem c_57_19 : (zm_cd 57)[19]? = some ((34, .invokevirtual 119, 3, 43, 1, 1, 0, 0, [8]) : zm_E) := (congrArg (fun l => l[19]?) cd_57).trans rfl
theorem c_57_20 : (zm_cd 57)[20]? = some ((37, .ireturn, 1, 0, 0, 0, 0, 0, []) : zm_E) := (congrArg (fun l => l[20]?) cd_57).trans rfl
theorem c_57_21 : (zm_cd 57)[21]? = some ((38, .aload_n 0, 1, 0, 0, 0, 0, 0, []) : zm_E) := (congrArg (fun l => l[21]?) cd_57).trans rfl
theorem c_57_22 : (zm_cd 57)[22]? = some ((39, .getfield 26, 3, 8, 6, 1, 0, 0, []) : zm_E) := (congrArg (fun l => l[22]?) cd_57).trans rfl
theorem c_57_23 : (zm_cd 57)[23]? = some ((42, .aload_n 0, 1, 0, 0, 0, 0, 0, []) : zm_E) := (congrArg (fun l => l[23]?) cd_57).trans rfl
theorem c_57_24 : (zm_cd 57)[24]? = some ((43, .getfield 122, 3, 8, 7, 0, 0, 0, []) : zm_E) := (congrArg (fun l => l[24]?) cd_57).trans rfl
theorem c_57_25 : (zm_cd 57)[25]? = some ((46, .iload_n 1, 1, 1, 0, 0, 0, 0, []) : zm_E) := (congrArg (fun l => l[25]?) cd_57).trans rfl
theorem c_57_26 : (zm_cd 57)[26]? = some ((47, .iastore, 1, 0, 0, 0, 0, 0, []) : zm_E) := (congrArg (fun l => l[26]?) cd_57).trans rfl
theorem c_57_27 : (zm_cd 57)[27]? = some ((48, .aload_n 0, 1, 0, 0, 0, 0, 0, []) : zm_E) := (congrArg (fun l => l[27]?) cd_57).trans rfl
theorem c_57_28 : (zm_cd 57)[28]? = some ((49, .dup, 1, 0, 0, 0, 0, 0, []) : zm_E) := (congrArg (fun l => l[28]?) cd_57).trans rfl
theorem c_57_29 : (zm_cd 57)[29]? = some ((50, .getfield 122, 3, 8, 7, 0, 0, 0, []) : zm_E) := (congrArg (fun l => l[29]?) cd_57).trans rfl
theorem c_57_30 : (zm_cd 57)[30]? = some ((53, .iconst 1, 1, 0, 0, 0, 1, 0, []) : zm_E) := (congrArg (fun l => l[30]?) cd_57).trans rfl
theorem c_57_31 : (zm_cd 57)[31]? = some ((54, .iadd, 1, 0, 0, 0, 0, 0, []) : zm_E) := (congrArg (fun l => l[31]?) cd_57).trans rfl
theorem c_57_32 : (zm_cd 57)[32]? = some ((55, .putfield 122, 3, 8, 7, 0, 0, 0, []) : zm_E) := (congrArg (fun l => l[32]?) cd_57).trans rfl
theorem c_57_33 : (zm_cd 57)[33]? = some ((58, .aload_n 0, 1, 0, 0, 0, 0, 0, []) : zm_E) := (congrArg (fun l => l[33]?) cd_57).trans rfl
theorem c_57_34 : (zm_cd 57)[34]? = some ((59, .getfield 122, 3, 8, 7, 0, 0, 0, []) : zm_E) := (congrArg (fun l => l[34]?) cd_57).trans rfl
theorem c_57_35 : (zm_cd 57)[35]? = some ((62, .ireturn, 1, 0, 0, 0, 0, 0, []) : zm_E) := (congrArg (fun l => l[35]?) cd_57).trans rfl
theorem cd_58 : zm_cd 58 = zd_58 := rfl
theorem ml_58 : zm_ml 58 = 2 := rfl
theorem ht_58 : zm_ht 58 = [] := rfl
theorem c_58_0 : (zm_cd 58)[0]? = some ((0, .aload_n 0, 1, 0, 0, 0, 0, 0, []) : zm_E) := (congrArg (fun l => l[0]?) cd_58).trans rfl
theorem c_58_1 : (zm_cd 58)[1]? = some ((1, .iconst 0, 1, 0, 0, 0, 0, 0, []) : zm_E) := (congrArg (fun l => l[1]?) cd_58).trans rfl
theorem c_58_2 : (zm_cd 58)[2]? = some ((2, .putfield 71, 3, 8, 8, 0, 0, 0, []) : zm_E) := (congrArg (fun l => l[2]?) cd_58).trans rfl
theorem c_58_3 : (zm_cd 58)[3]? = some ((5, .aload_n 0, 1, 0, 0, 0, 0, 0, []) : zm_E) := (congrArg (fun l => l[3]?) cd_58).trans rfl
theorem c_58_4 : (zm_cd 58)[4]? = some ((6, .getfield 122, 3, 8, 7, 0, 0, 0, []) : zm_E) := (congrArg (fun l => l[4]?) cd_58).trans rfl
theorem c_58_5 : (zm_cd 58)[5]? = some ((9, .istore_n 1, 1, 1, 0, 0, 0, 0, []) : zm_E) := (congrArg (fun l => l[5]?) cd_58).trans rfl
theorem c_58_6 : (zm_cd 58)[6]? = some ((10, .aload_n 0, 1, 0, 0, 0, 0, 0, []) : zm_E) := (congrArg (fun l => l[6]?) cd_58).trans rfl
theorem c_58_7 : (zm_cd 58)[7]? = some ((11, .iconst 0, 1, 0, 0, 0, 0, 0, []) : zm_E) := (congrArg (fun l => l[7]?) cd_58).trans rfl
theorem c_58_8 : (zm_cd 58)[8]? = some ((12, .putfield 122, 3, 8, 7, 0, 0, 0, []) : zm_E) := (congrArg (fun l => l[8]?) cd_58).trans rfl
theorem c_58_9 : (zm_cd 58)[9]? = some ((15, .iload_n 1, 1, 1, 0, 0, 0, 0, []) : zm_E) := (congrArg (fun l => l[9]?) cd_58).trans rfl
theorem c_58_10 : (zm_cd 58)[10]? = some ((16, .ireturn, 1, 0, 0, 0, 0, 0, []) : zm_E) := (congrArg (fun l => l[10]?) cd_58).trans rfl
theorem cd_59 : zm_cd 59 = zd_59 := rfl
theorem ml_59 : zm_ml 59 = 3 := rfl
theorem ht_59 : zm_ht 59 = [] := rfl
theorem c_59_0 : (zm_cd 59)[0]? = some ((0, .aload_n 0, 1, 0, 0, 0, 0, 0, []) : zm_E) := (congrArg (fun l => l[0]?) cd_59).trans rfl
theorem c_59_1 : (zm_cd 59)[1]? = some ((1, .getfield 125, 3, 8, 18, 0, 0, 0, []) : zm_E) := (congrArg (fun l => l[1]?) cd_59).trans rfl
theorem c_59_2 : (zm_cd 59)[2]? = some ((4, .aload_n 0, 1, 0, 0, 0, 0, 0, []) : zm_E) := (congrArg (fun l => l[2]?) cd_59).trans rfl
theorem c_59_3 : (zm_cd 59)[3]? = some ((5, .getfield 122, 3, 8, 7, 0, 0, 0, []) : zm_E) := (congrArg (fun l => l[3]?) cd_59).trans rfl
theorem c_59_4 : (zm_cd 59)[4]? = some ((8, .if_icmp .ge 20, 3, 14, 0, 0, 0, 0, []) : zm_E) := (congrArg (fun l => l[4]?) cd_59).trans rfl
theorem c_59_5 : (zm_cd 59)[5]? = some ((11, .aload_n 0, 1, 0, 0, 0, 0, 0, []) : zm_E) := (congrArg (fun l => l[5]?) cd_59).trans rfl
theorem c_59_6 : (zm_cd 59)[6]? = some ((12, .getfield 26, 3, 8, 6, 1, 0, 0, []) : zm_E) := (congrArg (fun l => l[6]?) cd_59).trans rfl
theorem c_59_7 : (zm_cd 59)[7]? = some ((15, .aload_n 0, 1, 0, 0, 0, 0, 0, []) : zm_E) := (congrArg (fun l => l[7]?) cd_59).trans rfl
theorem c_59_8 : (zm_cd 59)[8]? = some ((16, .getfield 125, 3, 8, 18, 0, 0, 0, []) : zm_E) := (congrArg (fun l => l[8]?) cd_59).trans rfl
theorem c_59_9 : (zm_cd 59)[9]? = some ((19, .iaload, 1, 0, 0, 0, 0, 0, []) : zm_E) := (congrArg (fun l => l[9]?) cd_59).trans rfl
theorem c_59_10 : (zm_cd 59)[10]? = some ((20, .iload_n 1, 1, 1, 0, 0, 0, 0, []) : zm_E) := (congrArg (fun l => l[10]?) cd_59).trans rfl
theorem c_59_11 : (zm_cd 59)[11]? = some ((21, .if_icmp .ne 7, 3, 14, 0, 0, 0, 0, []) : zm_E) := (congrArg (fun l => l[11]?) cd_59).trans rfl
theorem c_59_12 : (zm_cd 59)[12]? = some ((24, .iconst 1, 1, 0, 0, 0, 1, 0, []) : zm_E) := (congrArg (fun l => l[12]?) cd_59).trans rfl
theorem c_59_13 : (zm_cd 59)[13]? = some ((25, .goto 4, 3, 15, 0, 0, 0, 0, []) : zm_E) := (congrArg (fun l => l[13]?) cd_59).trans rfl
theorem c_59_14 : (zm_cd 59)[14]? = some ((28, .iconst 0, 1, 0, 0, 0, 0, 0, []) : zm_E) := (congrArg (fun l => l[14]?) cd_59).trans rfl
theorem c_59_15 : (zm_cd 59)[15]? = some ((29, .istore_n 2, 1, 2, 0, 0, 0, 0, []) : zm_E) := (congrArg (fun l => l[15]?) cd_59).trans rfl
theorem c_59_16 : (zm_cd 59)[16]? = some ((30, .aload_n 0, 1, 0, 0, 0, 0, 0, []) : zm_E) := (congrArg (fun l => l[16]?) cd_59).trans rfl
theorem c_59_17 : (zm_cd 59)[17]? = some ((31, .dup, 1, 0, 0, 0, 0, 0, []) : zm_E) := (congrArg (fun l => l[17]?) cd_59).trans rfl
theorem c_59_18 : (zm_cd 59)[18]? = some ((32, .getfield 125, 3, 8, 18, 0, 0, 0, []) : zm_E) := (congrArg (fun l => l[18]?) cd_59).trans rfl
theorem c_59_19 : (zm_cd 59)[19]? = some ((35, .iload_n 2, 1, 2, 0, 0, 0, 0, []) : zm_E) := (congrArg (fun l => l[19]?) cd_59).trans rfl
theorem c_59_20 : (zm_cd 59)[20]? = some ((36, .ifCond .eq 7, 3, 23, 0, 0, 0, 0, []) : zm_E) := (congrArg (fun l => l[20]?) cd_59).trans rfl
theorem c_59_21 : (zm_cd 59)[21]? = some ((39, .iconst 1, 1, 0, 0, 0, 1, 0, []) : zm_E) := (congrArg (fun l => l[21]?) cd_59).trans rfl
theorem c_59_22 : (zm_cd 59)[22]? = some ((40, .goto 4, 3, 24, 0, 0, 0, 0, []) : zm_E) := (congrArg (fun l => l[22]?) cd_59).trans rfl
theorem c_59_23 : (zm_cd 59)[23]? = some ((43, .iconst 0, 1, 0, 0, 0, 0, 0, []) : zm_E) := (congrArg (fun l => l[23]?) cd_59).trans rfl
theorem c_59_24 : (zm_cd 59)[24]? = some ((44, .iadd, 1, 0, 0, 0, 0, 0, []) : zm_E) := (congrArg (fun l => l[24]?) cd_59).trans rfl
theorem c_59_25 : (zm_cd 59)[25]? = some ((45, .putfield 125, 3, 8, 18, 0, 0, 0, []) : zm_E) := (congrArg (fun l => l[25]?) cd_59).trans rfl
theorem c_59_26 : (zm_cd 59)[26]? = some ((48, .iload_n 2, 1, 2, 0, 0, 0, 0, []) : zm_E) := (congrArg (fun l => l[26]?) cd_59).trans rfl
theorem c_59_27 : (zm_cd 59)[27]? = some ((49, .ireturn, 1, 1, 0, 0, 0, 0, []) : zm_E) := (congrArg (fun l => l[27]?) cd_59).trans rfl
theorem cd_60 : zm_cd 60 = zd_60 := rfl
theorem ml_60 : zm_ml 60 = 4 := rfl
theorem ht_60 : zm_ht 60 = [] := rfl
theorem c_60_0 : (zm_cd 60)[0]? = some ((0, .aload_n 0, 1, 0, 0, 0, 0, 0, []) : zm_E) := (congrArg (fun l => l[0]?) cd_60).trans rfl
theorem c_60_1 : (zm_cd 60)[1]? = some ((1, .aload_n 0, 1, 0, 0, 0, 0, 0, []) : zm_E) := (congrArg (fun l => l[1]?) cd_60).trans rfl
theorem c_60_2 : (zm_cd 60)[2]? = some ((2, .getfield 125, 3, 8, 18, 0, 0, 0, []) : zm_E) := (congrArg (fun l => l[2]?) cd_60).trans rfl
theorem c_60_3 : (zm_cd 60)[3]? = some ((5, .aload_n 0, 1, 0, 0, 0, 0, 0, []) : zm_E) := (congrArg (fun l => l[3]?) cd_60).trans rfl
theorem c_60_4 : (zm_cd 60)[4]? = some ((6, .getfield 122, 3, 8, 7, 0, 0, 0, []) : zm_E) := (congrArg (fun l => l[4]?) cd_60).trans rfl
theorem c_60_5 : (zm_cd 60)[5]? = some ((9, .if_icmp .ge 18, 3, 14, 0, 0, 0, 0, []) : zm_E) := (congrArg (fun l => l[5]?) cd_60).trans rfl
theorem c_60_6 : (zm_cd 60)[6]? = some ((12, .aload_n 0, 1, 0, 0, 0, 0, 0, []) : zm_E) := (congrArg (fun l => l[6]?) cd_60).trans rfl
theorem c_60_7 : (zm_cd 60)[7]? = some ((13, .getfield 26, 3, 8, 6, 1, 0, 0, []) : zm_E) := (congrArg (fun l => l[7]?) cd_60).trans rfl
theorem c_60_8 : (zm_cd 60)[8]? = some ((16, .aload_n 0, 1, 0, 0, 0, 0, 0, []) : zm_E) := (congrArg (fun l => l[8]?) cd_60).trans rfl
theorem c_60_9 : (zm_cd 60)[9]? = some ((17, .getfield 125, 3, 8, 18, 0, 0, 0, []) : zm_E) := (congrArg (fun l => l[9]?) cd_60).trans rfl
theorem c_60_10 : (zm_cd 60)[10]? = some ((20, .iaload, 1, 0, 0, 0, 0, 0, []) : zm_E) := (congrArg (fun l => l[10]?) cd_60).trans rfl
theorem c_60_11 : (zm_cd 60)[11]? = some ((21, .bipush 48, 2, 0, 0, 0, 48, 0, []) : zm_E) := (congrArg (fun l => l[11]?) cd_60).trans rfl
theorem c_60_12 : (zm_cd 60)[12]? = some ((23, .isub, 1, 0, 0, 0, 0, 0, []) : zm_E) := (congrArg (fun l => l[12]?) cd_60).trans rfl
theorem c_60_13 : (zm_cd 60)[13]? = some ((24, .goto 4, 3, 15, 0, 0, 0, 0, []) : zm_E) := (congrArg (fun l => l[13]?) cd_60).trans rfl
theorem c_60_14 : (zm_cd 60)[14]? = some ((27, .iconst (-1), 1, 0, 0, 0, (-1), 0, []) : zm_E) := (congrArg (fun l => l[14]?) cd_60).trans rfl
theorem c_60_15 : (zm_cd 60)[15]? = some ((28, .putfield 128, 3, 8, 19, 0, 0, 0, []) : zm_E) := (congrArg (fun l => l[15]?) cd_60).trans rfl
theorem c_60_16 : (zm_cd 60)[16]? = some ((31, .aload_n 0, 1, 0, 0, 0, 0, 0, []) : zm_E) := (congrArg (fun l => l[16]?) cd_60).trans rfl
theorem c_60_17 : (zm_cd 60)[17]? = some ((32, .getfield 128, 3, 8, 19, 0, 0, 0, []) : zm_E) := (congrArg (fun l => l[17]?) cd_60).trans rfl
theorem c_60_18 : (zm_cd 60)[18]? = some ((35, .i2l, 1, 0, 0, 0, 0, 0, []) : zm_E) := (congrArg (fun l => l[18]?) cd_60).trans rfl
theorem c_60_19 : (zm_cd 60)[19]? = some ((36, .iload_n 1, 1, 1, 0, 0, 0, 0, []) : zm_E) := (congrArg (fun l => l[19]?) cd_60).trans rfl
theorem c_60_20 : (zm_cd 60)[20]? = some ((37, .i2l, 1, 0, 0, 0, 0, 0, []) : zm_E) := (congrArg (fun l => l[20]?) cd_60).trans rfl
theorem c_60_21 : (zm_cd 60)[21]? = some ((38, .iload_n 2, 1, 2, 0, 0, 0, 0, []) : zm_E) := (congrArg (fun l => l[21]?) cd_60).trans rfl
theorem c_60_22 : (zm_cd 60)[22]? = some ((39, .i2l, 1, 0, 0, 0, 0, 0, []) : zm_E) := (congrArg (fun l => l[22]?) cd_60).trans rfl
theorem c_60_23 : (zm_cd 60)[23]? = some ((40, .invokestatic 78, 3, 40, 3, 1, 0, 0, []) : zm_E) := (congrArg (fun l => l[23]?) cd_60).trans rfl
theorem c_60_24 : (zm_cd 60)[24]? = some ((43, .istore_n 3, 1, 3, 0, 0, 0, 0, []) : zm_E) := (congrArg (fun l => l[24]?) cd_60).trans rfl
theorem c_60_25 : (zm_cd 60)[25]? = some ((44, .aload_n 0, 1, 0, 0, 0, 0, 0, []) : zm_E) := (congrArg (fun l => l[25]?) cd_60).trans rfl
theorem c_60_26 : (zm_cd 60)[26]? = some ((45, .dup, 1, 0, 0, 0, 0, 0, []) : zm_E) := (congrArg (fun l => l[26]?) cd_60).trans rfl
theorem c_60_27 : (zm_cd 60)[27]? = some ((46, .getfield 125, 3, 8, 18, 0, 0, 0, []) : zm_E) := (congrArg (fun l => l[27]?) cd_60).trans rfl
theorem c_60_28 : (zm_cd 60)[28]? = some ((49, .iload_n 3, 1, 3, 0, 0, 0, 0, []) : zm_E) := (congrArg (fun l => l[28]?) cd_60).trans rfl
theorem c_60_29 : (zm_cd 60)[29]? = some ((50, .ifCond .eq 7, 3, 32, 0, 0, 0, 0, []) : zm_E) := (congrArg (fun l => l[29]?) cd_60).trans rfl
theorem c_60_30 : (zm_cd 60)[30]? = some ((53, .iconst 1, 1, 0, 0, 0, 1, 0, []) : zm_E) := (congrArg (fun l => l[30]?) cd_60).trans rfl
theorem c_60_31 : (zm_cd 60)[31]? = some ((54, .goto 4, 3, 33, 0, 0, 0, 0, []) : zm_E) := (congrArg (fun l => l[31]?) cd_60).trans rfl
theorem c_60_32 : (zm_cd 60)[32]? = some ((57, .iconst 0, 1, 0, 0, 0, 0, 0, []) : zm_E) := (congrArg (fun l => l[32]?) cd_60).trans rfl
theorem c_60_33 : (zm_cd 60)[33]? = some ((58, .iadd, 1, 0, 0, 0, 0, 0, []) : zm_E) := (congrArg (fun l => l[33]?) cd_60).trans rfl
theorem c_60_34 : (zm_cd 60)[34]? = some ((59, .putfield 125, 3, 8, 18, 0, 0, 0, []) : zm_E) := (congrArg (fun l => l[34]?) cd_60).trans rfl
theorem c_60_35 : (zm_cd 60)[35]? = some ((62, .iload_n 3, 1, 3, 0, 0, 0, 0, []) : zm_E) := (congrArg (fun l => l[35]?) cd_60).trans rfl
theorem c_60_36 : (zm_cd 60)[36]? = some ((63, .ireturn, 1, 1, 0, 0, 0, 0, []) : zm_E) := (congrArg (fun l => l[36]?) cd_60).trans rfl
theorem cd_61 : zm_cd 61 = zd_61 := rfl
theorem ml_61 : zm_ml 61 = 5 := rfl
theorem ht_61 : zm_ht 61 = [] := rfl
theorem c_61_0 : (zm_cd 61)[0]? = some ((0, .iconst 0, 1, 0, 0, 0, 0, 0, []) : zm_E) := (congrArg (fun l => l[0]?) cd_61).trans rfl
theorem c_61_1 : (zm_cd 61)[1]? = some ((1, .istore_n 2, 1, 2, 0, 0, 0, 0, []) : zm_E) := (congrArg (fun l => l[1]?) cd_61).trans rfl
theorem c_61_2 : (zm_cd 61)[2]? = some ((2, .iconst 0, 1, 0, 0, 0, 0, 0, []) : zm_E) := (congrArg (fun l => l[2]?) cd_61).trans rfl
theorem c_61_3 : (zm_cd 61)[3]? = some ((3, .istore_n 3, 1, 3, 0, 0, 0, 0, []) : zm_E) := (congrArg (fun l => l[3]?) cd_61).trans rfl
theorem c_61_4 : (zm_cd 61)[4]? = some ((4, .iload_n 3, 1, 3, 0, 0, 0, 0, []) : zm_E) := (congrArg (fun l => l[4]?) cd_61).trans rfl
theorem c_61_5 : (zm_cd 61)[5]? = some ((5, .iload_n 1, 1, 1, 0, 0, 0, 0, []) : zm_E) := (congrArg (fun l => l[5]?) cd_61).trans rfl
theorem c_61_6 : (zm_cd 61)[6]? = some ((6, .if_icmp .ge 91, 3, 60, 0, 0, 0, 0, []) : zm_E) := (congrArg (fun l => l[6]?) cd_61).trans rfl
theorem c_61_7 : (zm_cd 61)[7]? = some ((9, .aload_n 0, 1, 0, 0, 0, 0, 0, []) : zm_E) := (congrArg (fun l => l[7]?) cd_61).trans rfl
theorem c_61_8 : (zm_cd 61)[8]? = some ((10, .getfield 125, 3, 8, 18, 0, 0, 0, []) : zm_E) := (congrArg (fun l => l[8]?) cd_61).trans rfl
theorem c_61_9 : (zm_cd 61)[9]? = some ((13, .istore 4, 2, 4, 0, 0, 0, 0, []) : zm_E) := (congrArg (fun l => l[9]?) cd_61).trans rfl
theorem c_61_10 : (zm_cd 61)[10]? = some ((15, .aload_n 0, 1, 0, 0, 0, 0, 0, []) : zm_E) := (congrArg (fun l => l[10]?) cd_61).trans rfl
theorem c_61_11 : (zm_cd 61)[11]? = some ((16, .iconst 0, 1, 0, 0, 0, 0, 0, []) : zm_E) := (congrArg (fun l => l[11]?) cd_61).trans rfl
theorem c_61_12 : (zm_cd 61)[12]? = some ((17, .iload_n 1, 1, 1, 0, 0, 0, 0, []) : zm_E) := (congrArg (fun l => l[12]?) cd_61).trans rfl
theorem c_61_13 : (zm_cd 61)[13]? = some ((18, .iconst 1, 1, 0, 0, 0, 1, 0, []) : zm_E) := (congrArg (fun l => l[13]?) cd_61).trans rfl
theorem c_61_14 : (zm_cd 61)[14]? = some ((19, .isub, 1, 0, 0, 0, 0, 0, []) : zm_E) := (congrArg (fun l => l[14]?) cd_61).trans rfl
theorem c_61_15 : (zm_cd 61)[15]? = some ((20, .invokevirtual 131, 3, 60, 2, 1, 0, 0, [8]) : zm_E) := (congrArg (fun l => l[15]?) cd_61).trans rfl
theorem c_61_16 : (zm_cd 61)[16]? = some ((23, .ifCond .eq 14, 3, 22, 0, 0, 0, 0, []) : zm_E) := (congrArg (fun l => l[16]?) cd_61).trans rfl
theorem c_61_17 : (zm_cd 61)[17]? = some ((26, .iload_n 2, 1, 2, 0, 0, 0, 0, []) : zm_E) := (congrArg (fun l => l[17]?) cd_61).trans rfl
theorem c_61_18 : (zm_cd 61)[18]? = some ((27, .aload_n 0, 1, 0, 0, 0, 0, 0, []) : zm_E) := (congrArg (fun l => l[18]?) cd_61).trans rfl
theorem c_61_19 : (zm_cd 61)[19]? = some ((28, .getfield 128, 3, 8, 19, 0, 0, 0, []) : zm_E) := (congrArg (fun l => l[19]?) cd_61).trans rfl
theorem c_61_20 : (zm_cd 61)[20]? = some ((31, .invokestatic 82, 3, 41, 2, 1, 0, 0, []) : zm_E) := (congrArg (fun l => l[20]?) cd_61).trans rfl
theorem c_61_21 : (zm_cd 61)[21]? = some ((34, .ifCond .eq 11, 3, 27, 0, 0, 0, 0, []) : zm_E) := (congrArg (fun l => l[21]?) cd_61).trans rfl
theorem c_61_22 : (zm_cd 61)[22]? = some ((37, .aload_n 0, 1, 0, 0, 0, 0, 0, []) : zm_E) := (congrArg (fun l => l[22]?) cd_61).trans rfl
theorem c_61_23 : (zm_cd 61)[23]? = some ((38, .iload 4, 2, 4, 0, 0, 0, 0, []) : zm_E) := (congrArg (fun l => l[23]?) cd_61).trans rfl
theorem c_61_24 : (zm_cd 61)[24]? = some ((40, .putfield 125, 3, 8, 18, 0, 0, 0, []) : zm_E) := (congrArg (fun l => l[24]?) cd_61).trans rfl
theorem c_61_25 : (zm_cd 61)[25]? = some ((43, .iconst 0, 1, 0, 0, 0, 0, 0, []) : zm_E) := (congrArg (fun l => l[25]?) cd_61).trans rfl
theorem c_61_26 : (zm_cd 61)[26]? = some ((44, .ireturn, 1, 1, 0, 0, 0, 0, []) : zm_E) := (congrArg (fun l => l[26]?) cd_61).trans rfl
theorem c_61_27 : (zm_cd 61)[27]? = some ((45, .iload_n 2, 1, 2, 0, 0, 0, 0, []) : zm_E) := (congrArg (fun l => l[27]?) cd_61).trans rfl
theorem c_61_28 : (zm_cd 61)[28]? = some ((46, .iconst 1, 1, 0, 0, 0, 1, 0, []) : zm_E) := (congrArg (fun l => l[28]?) cd_61).trans rfl
theorem c_61_29 : (zm_cd 61)[29]? = some ((47, .aload_n 0, 1, 0, 0, 0, 0, 0, []) : zm_E) := (congrArg (fun l => l[29]?) cd_61).trans rfl
theorem c_61_30 : (zm_cd 61)[30]? = some ((48, .getfield 128, 3, 8, 19, 0, 0, 0, []) : zm_E) := (congrArg (fun l => l[30]?) cd_61).trans rfl
theorem c_61_31 : (zm_cd 61)[31]? = some ((51, .ishl, 1, 0, 0, 0, 0, 0, []) : zm_E) := (congrArg (fun l => l[31]?) cd_61).trans rfl
theorem c_61_32 : (zm_cd 61)[32]? = some ((52, .ior, 1, 0, 0, 0, 0, 0, []) : zm_E) := (congrArg (fun l => l[32]?) cd_61).trans rfl
theorem c_61_33 : (zm_cd 61)[33]? = some ((53, .istore_n 2, 1, 2, 0, 0, 0, 0, []) : zm_E) := (congrArg (fun l => l[33]?) cd_61).trans rfl
theorem c_61_34 : (zm_cd 61)[34]? = some ((54, .aload_n 0, 1, 0, 0, 0, 0, 0, []) : zm_E) := (congrArg (fun l => l[34]?) cd_61).trans rfl
theorem c_61_35 : (zm_cd 61)[35]? = some ((55, .getfield 50, 3, 8, 20, 1, 0, 0, []) : zm_E) := (congrArg (fun l => l[35]?) cd_61).trans rfl
theorem c_61_36 : (zm_cd 61)[36]? = some ((58, .iconst 2, 1, 0, 0, 0, 2, 0, []) : zm_E) := (congrArg (fun l => l[36]?) cd_61).trans rfl
theorem c_61_37 : (zm_cd 61)[37]? = some ((59, .iload_n 3, 1, 3, 0, 0, 0, 0, []) : zm_E) := (congrArg (fun l => l[37]?) cd_61).trans rfl
theorem c_61_38 : (zm_cd 61)[38]? = some ((60, .iadd, 1, 0, 0, 0, 0, 0, []) : zm_E) := (congrArg (fun l => l[38]?) cd_61).trans rfl
theorem c_61_39 : (zm_cd 61)[39]? = some ((61, .aload_n 0, 1, 0, 0, 0, 0, 0, []) : zm_E) := (congrArg (fun l => l[39]?) cd_61).trans rfl
theorem c_61_40 : (zm_cd 61)[40]? = some ((62, .getfield 128, 3, 8, 19, 0, 0, 0, []) : zm_E) := (congrArg (fun l => l[40]?) cd_61).trans rfl
theorem c_61_41 : (zm_cd 61)[41]? = some ((65, .iastore, 1, 0, 0, 0, 0, 0, []) : zm_E) := (congrArg (fun l => l[41]?) cd_61).trans rfl
theorem c_61_42 : (zm_cd 61)[42]? = some ((66, .aload_n 0, 1, 0, 0, 0, 0, 0, []) : zm_E) := (congrArg (fun l => l[42]?) cd_61).trans rfl
theorem c_61_43 : (zm_cd 61)[43]? = some ((67, .getfield 50, 3, 8, 20, 1, 0, 0, []) : zm_E) := (congrArg (fun l => l[43]?) cd_61).trans rfl
theorem c_61_44 : (zm_cd 61)[44]? = some ((70, .iconst 1, 1, 0, 0, 0, 1, 0, []) : zm_E) := (congrArg (fun l => l[44]?) cd_61).trans rfl
theorem c_61_45 : (zm_cd 61)[45]? = some ((71, .dup2, 1, 0, 0, 0, 0, 0, []) : zm_E) := (congrArg (fun l => l[45]?) cd_61).trans rfl
theorem c_61_46 : (zm_cd 61)[46]? = some ((72, .iaload, 1, 0, 0, 0, 0, 0, []) : zm_E) := (congrArg (fun l => l[46]?) cd_61).trans rfl
theorem c_61_47 : (zm_cd 61)[47]? = some ((73, .aload_n 0, 1, 0, 0, 0, 0, 0, []) : zm_E) := (congrArg (fun l => l[47]?) cd_61).trans rfl
theorem c_61_48 : (zm_cd 61)[48]? = some ((74, .bipush 33, 2, 0, 0, 0, 33, 0, []) : zm_E) := (congrArg (fun l => l[48]?) cd_61).trans rfl
theorem c_61_49 : (zm_cd 61)[49]? = some ((76, .invokevirtual 134, 3, 59, 1, 1, 0, 0, [8]) : zm_E) := (congrArg (fun l => l[49]?) cd_61).trans rfl
theorem c_61_50 : (zm_cd 61)[50]? = some ((79, .ifCond .eq 9, 3, 55, 0, 0, 0, 0, []) : zm_E) := (congrArg (fun l => l[50]?) cd_61).trans rfl
theorem c_61_51 : (zm_cd 61)[51]? = some ((82, .iconst 1, 1, 0, 0, 0, 1, 0, []) : zm_E) := (congrArg (fun l => l[51]?) cd_61).trans rfl
theorem c_61_52 : (zm_cd 61)[52]? = some ((83, .iload_n 3, 1, 3, 0, 0, 0, 0, []) : zm_E) := (congrArg (fun l => l[52]?) cd_61).trans rfl
theorem c_61_53 : (zm_cd 61)[53]? = some ((84, .ishl, 1, 0, 0, 0, 0, 0, []) : zm_E) := (congrArg (fun l => l[53]?) cd_61).trans rfl
theorem c_61_54 : (zm_cd 61)[54]? = some ((85, .goto 4, 3, 56, 0, 0, 0, 0, []) : zm_E) := (congrArg (fun l => l[54]?) cd_61).trans rfl
theorem c_61_55 : (zm_cd 61)[55]? = some ((88, .iconst 0, 1, 0, 0, 0, 0, 0, []) : zm_E) := (congrArg (fun l => l[55]?) cd_61).trans rfl
theorem c_61_56 : (zm_cd 61)[56]? = some ((89, .ior, 1, 0, 0, 0, 0, 0, []) : zm_E) := (congrArg (fun l => l[56]?) cd_61).trans rfl
theorem c_61_57 : (zm_cd 61)[57]? = some ((90, .iastore, 1, 0, 0, 0, 0, 0, []) : zm_E) := (congrArg (fun l => l[57]?) cd_61).trans rfl
theorem c_61_58 : (zm_cd 61)[58]? = some ((91, .iinc 3 1, 3, 3, 0, 0, 1, 0, []) : zm_E) := (congrArg (fun l => l[58]?) cd_61).trans rfl
theorem c_61_59 : (zm_cd 61)[59]? = some ((94, .goto (-90), 3, 4, 0, 0, 0, 0, []) : zm_E) := (congrArg (fun l => l[59]?) cd_61).trans rfl
theorem c_61_60 : (zm_cd 61)[60]? = some ((97, .iconst 1, 1, 0, 0, 0, 1, 0, []) : zm_E) := (congrArg (fun l => l[60]?) cd_61).trans rfl
theorem c_61_61 : (zm_cd 61)[61]? = some ((98, .ireturn, 1, 1, 0, 0, 0, 0, []) : zm_E) := (congrArg (fun l => l[61]?) cd_61).trans rfl
theorem cd_62 : zm_cd 62 = zd_62 := rfl
theorem ml_62 : zm_ml 62 = 3 := rfl
theorem ht_62 : zm_ht 62 = [] := rfl
theorem c_62_0 : (zm_cd 62)[0]? = some ((0, .aload_n 0, 1, 0, 0, 0, 0, 0, []) : zm_E) := (congrArg (fun l => l[0]?) cd_62).trans rfl
theorem c_62_1 : (zm_cd 62)[1]? = some ((1, .iconst 0, 1, 0, 0, 0, 0, 0, []) : zm_E) := (congrArg (fun l => l[1]?) cd_62).trans rfl
theorem c_62_2 : (zm_cd 62)[2]? = some ((2, .putfield 125, 3, 8, 18, 0, 0, 0, []) : zm_E) := (congrArg (fun l => l[2]?) cd_62).trans rfl
theorem c_62_3 : (zm_cd 62)[3]? = some ((5, .aload_n 0, 1, 0, 0, 0, 0, 0, []) : zm_E) := (congrArg (fun l => l[3]?) cd_62).trans rfl
theorem c_62_4 : (zm_cd 62)[4]? = some ((6, .getfield 50, 3, 8, 20, 1, 0, 0, []) : zm_E) := (congrArg (fun l => l[4]?) cd_62).trans rfl
theorem c_62_5 : (zm_cd 62)[5]? = some ((9, .iconst 1, 1, 0, 0, 0, 1, 0, []) : zm_E) := (congrArg (fun l => l[5]?) cd_62).trans rfl
theorem c_62_6 : (zm_cd 62)[6]? = some ((10, .iconst 0, 1, 0, 0, 0, 0, 0, []) : zm_E) := (congrArg (fun l => l[6]?) cd_62).trans rfl
theorem c_62_7 : (zm_cd 62)[7]? = some ((11, .iastore, 1, 0, 0, 0, 0, 0, []) : zm_E) := (congrArg (fun l => l[7]?) cd_62).trans rfl
theorem c_62_8 : (zm_cd 62)[8]? = some ((12, .aload_n 0, 1, 0, 0, 0, 0, 0, []) : zm_E) := (congrArg (fun l => l[8]?) cd_62).trans rfl
theorem c_62_9 : (zm_cd 62)[9]? = some ((13, .bipush 77, 2, 0, 0, 0, 77, 0, []) : zm_E) := (congrArg (fun l => l[9]?) cd_62).trans rfl
theorem c_62_10 : (zm_cd 62)[10]? = some ((15, .invokevirtual 134, 3, 59, 1, 1, 0, 0, [8]) : zm_E) := (congrArg (fun l => l[10]?) cd_62).trans rfl
theorem c_62_11 : (zm_cd 62)[11]? = some ((18, .ifCond .eq 13, 3, 17, 0, 0, 0, 0, []) : zm_E) := (congrArg (fun l => l[11]?) cd_62).trans rfl
theorem c_62_12 : (zm_cd 62)[12]? = some ((21, .aload_n 0, 1, 0, 0, 0, 0, 0, []) : zm_E) := (congrArg (fun l => l[12]?) cd_62).trans rfl
theorem c_62_13 : (zm_cd 62)[13]? = some ((22, .iconst 1, 1, 0, 0, 0, 1, 0, []) : zm_E) := (congrArg (fun l => l[13]?) cd_62).trans rfl
theorem c_62_14 : (zm_cd 62)[14]? = some ((23, .bipush 7, 2, 0, 0, 0, 7, 0, []) : zm_E) := (congrArg (fun l => l[14]?) cd_62).trans rfl
theorem c_62_15 : (zm_cd 62)[15]? = some ((25, .invokevirtual 131, 3, 60, 2, 1, 0, 0, [8]) : zm_E) := (congrArg (fun l => l[15]?) cd_62).trans rfl
theorem c_62_16 : (zm_cd 62)[16]? = some ((28, .ifCond .ne 5, 3, 19, 0, 0, 0, 0, []) : zm_E) := (congrArg (fun l => l[16]?) cd_62).trans rfl
theorem c_62_17 : (zm_cd 62)[17]? = some ((31, .iconst 0, 1, 0, 0, 0, 0, 0, []) : zm_E) := (congrArg (fun l => l[17]?) cd_62).trans rfl
theorem c_62_18 : (zm_cd 62)[18]? = some ((32, .ireturn, 1, 1, 0, 0, 0, 0, []) : zm_E) := (congrArg (fun l => l[18]?) cd_62).trans rfl
theorem c_62_19 : (zm_cd 62)[19]? = some ((33, .aload_n 0, 1, 0, 0, 0, 0, 0, []) : zm_E) := (congrArg (fun l => l[19]?) cd_62).trans rfl
theorem c_62_20 : (zm_cd 62)[20]? = some ((34, .getfield 128, 3, 8, 19, 0, 0, 0, []) : zm_E) := (congrArg (fun l => l[20]?) cd_62).trans rfl
theorem c_62_21 : (zm_cd 62)[21]? = some ((37, .istore_n 1, 1, 1, 0, 0, 0, 0, []) : zm_E) := (congrArg (fun l => l[21]?) cd_62).trans rfl
theorem c_62_22 : (zm_cd 62)[22]? = some ((38, .aload_n 0, 1, 0, 0, 0, 0, 0, []) : zm_E) := (congrArg (fun l => l[22]?) cd_62).trans rfl
theorem c_62_23 : (zm_cd 62)[23]? = some ((39, .getfield 50, 3, 8, 20, 1, 0, 0, []) : zm_E) := (congrArg (fun l => l[23]?) cd_62).trans rfl
theorem c_62_24 : (zm_cd 62)[24]? = some ((42, .iconst 0, 1, 0, 0, 0, 0, 0, []) : zm_E) := (congrArg (fun l => l[24]?) cd_62).trans rfl
theorem c_62_25 : (zm_cd 62)[25]? = some ((43, .iload_n 1, 1, 1, 0, 0, 0, 0, []) : zm_E) := (congrArg (fun l => l[25]?) cd_62).trans rfl
theorem c_62_26 : (zm_cd 62)[26]? = some ((44, .iastore, 1, 0, 0, 0, 0, 0, []) : zm_E) := (congrArg (fun l => l[26]?) cd_62).trans rfl
theorem c_62_27 : (zm_cd 62)[27]? = some ((45, .iconst 0, 1, 0, 0, 0, 0, 0, []) : zm_E) := (congrArg (fun l => l[27]?) cd_62).trans rfl
theorem c_62_28 : (zm_cd 62)[28]? = some ((46, .istore_n 2, 1, 2, 0, 0, 0, 0, []) : zm_E) := (congrArg (fun l => l[28]?) cd_62).trans rfl
theorem c_62_29 : (zm_cd 62)[29]? = some ((47, .iload_n 2, 1, 2, 0, 0, 0, 0, []) : zm_E) := (congrArg (fun l => l[29]?) cd_62).trans rfl
theorem c_62_30 : (zm_cd 62)[30]? = some ((48, .iload_n 1, 1, 1, 0, 0, 0, 0, []) : zm_E) := (congrArg (fun l => l[30]?) cd_62).trans rfl
theorem c_62_31 : (zm_cd 62)[31]? = some ((49, .iload_n 1, 1, 1, 0, 0, 0, 0, []) : zm_E) := (congrArg (fun l => l[31]?) cd_62).trans rfl
theorem c_62_32 : (zm_cd 62)[32]? = some ((50, .imul, 1, 0, 0, 0, 0, 0, []) : zm_E) := (congrArg (fun l => l[32]?) cd_62).trans rfl
theorem c_62_33 : (zm_cd 62)[33]? = some ((51, .if_icmp .ge 43, 3, 59, 0, 0, 0, 0, []) : zm_E) := (congrArg (fun l => l[33]?) cd_62).trans rfl
theorem c_62_34 : (zm_cd 62)[34]? = some ((54, .aload_n 0, 1, 0, 0, 0, 0, 0, []) : zm_E) := (congrArg (fun l => l[34]?) cd_62).trans rfl
theorem c_62_35 : (zm_cd 62)[35]? = some ((55, .iconst 0, 1, 0, 0, 0, 0, 0, []) : zm_E) := (congrArg (fun l => l[35]?) cd_62).trans rfl
theorem c_62_36 : (zm_cd 62)[36]? = some ((56, .bipush 9, 2, 0, 0, 0, 9, 0, []) : zm_E) := (congrArg (fun l => l[36]?) cd_62).trans rfl
theorem c_62_37 : (zm_cd 62)[37]? = some ((58, .invokevirtual 131, 3, 60, 2, 1, 0, 0, [8]) : zm_E) := (congrArg (fun l => l[37]?) cd_62).trans rfl
theorem c_62_38 : (zm_cd 62)[38]? = some ((61, .ifCond .ne 5, 3, 41, 0, 0, 0, 0, []) : zm_E) := (congrArg (fun l => l[38]?) cd_62).trans rfl
theorem c_62_39 : (zm_cd 62)[39]? = some ((64, .iconst 0, 1, 0, 0, 0, 0, 0, []) : zm_E) := (congrArg (fun l => l[39]?) cd_62).trans rfl
theorem c_62_40 : (zm_cd 62)[40]? = some ((65, .ireturn, 1, 1, 0, 0, 0, 0, []) : zm_E) := (congrArg (fun l => l[40]?) cd_62).trans rfl
theorem c_62_41 : (zm_cd 62)[41]? = some ((66, .aload_n 0, 1, 0, 0, 0, 0, 0, []) : zm_E) := (congrArg (fun l => l[41]?) cd_62).trans rfl
theorem c_62_42 : (zm_cd 62)[42]? = some ((67, .getfield 50, 3, 8, 20, 1, 0, 0, []) : zm_E) := (congrArg (fun l => l[42]?) cd_62).trans rfl
theorem c_62_43 : (zm_cd 62)[43]? = some ((70, .bipush 9, 2, 0, 0, 0, 9, 0, []) : zm_E) := (congrArg (fun l => l[43]?) cd_62).trans rfl
theorem c_62_44 : (zm_cd 62)[44]? = some ((72, .bipush 7, 2, 0, 0, 0, 7, 0, []) : zm_E) := (congrArg (fun l => l[44]?) cd_62).trans rfl
theorem c_62_45 : (zm_cd 62)[45]? = some ((74, .iload_n 2, 1, 2, 0, 0, 0, 0, []) : zm_E) := (congrArg (fun l => l[45]?) cd_62).trans rfl
theorem c_62_46 : (zm_cd 62)[46]? = some ((75, .iload_n 1, 1, 1, 0, 0, 0, 0, []) : zm_E) := (congrArg (fun l => l[46]?) cd_62).trans rfl
theorem c_62_47 : (zm_cd 62)[47]? = some ((76, .idiv, 1, 0, 0, 0, 0, 0, []) : zm_E) := (congrArg (fun l => l[47]?) cd_62).trans rfl
theorem c_62_48 : (zm_cd 62)[48]? = some ((77, .imul, 1, 0, 0, 0, 0, 0, []) : zm_E) := (congrArg (fun l => l[48]?) cd_62).trans rfl
theorem c_62_49 : (zm_cd 62)[49]? = some ((78, .iadd, 1, 0, 0, 0, 0, 0, []) : zm_E) := (congrArg (fun l => l[49]?) cd_62).trans rfl
theorem c_62_50 : (zm_cd 62)[50]? = some ((79, .iload_n 2, 1, 2, 0, 0, 0, 0, []) : zm_E) := (congrArg (fun l => l[50]?) cd_62).trans rfl
theorem c_62_51 : (zm_cd 62)[51]? = some ((80, .iload_n 1, 1, 1, 0, 0, 0, 0, []) : zm_E) := (congrArg (fun l => l[51]?) cd_62).trans rfl
theorem c_62_52 : (zm_cd 62)[52]? = some ((81, .irem, 1, 0, 0, 0, 0, 0, []) : zm_E) := (congrArg (fun l => l[52]?) cd_62).trans rfl
theorem c_62_53 : (zm_cd 62)[53]? = some ((82, .iadd, 1, 0, 0, 0, 0, 0, []) : zm_E) := (congrArg (fun l => l[53]?) cd_62).trans rfl
theorem c_62_54 : (zm_cd 62)[54]? = some ((83, .aload_n 0, 1, 0, 0, 0, 0, 0, []) : zm_E) := (congrArg (fun l => l[54]?) cd_62).trans rfl
theorem c_62_55 : (zm_cd 62)[55]? = some ((84, .getfield 128, 3, 8, 19, 0, 0, 0, []) : zm_E) := (congrArg (fun l => l[55]?) cd_62).trans rfl
theorem c_62_56 : (zm_cd 62)[56]? = some ((87, .iastore, 1, 0, 0, 0, 0, 0, []) : zm_E) := (congrArg (fun l => l[56]?) cd_62).trans rfl
theorem c_62_57 : (zm_cd 62)[57]? = some ((88, .iinc 2 1, 3, 2, 0, 0, 1, 0, []) : zm_E) := (congrArg (fun l => l[57]?) cd_62).trans rfl
theorem c_62_58 : (zm_cd 62)[58]? = some ((91, .goto (-44), 3, 29, 0, 0, 0, 0, []) : zm_E) := (congrArg (fun l => l[58]?) cd_62).trans rfl
theorem c_62_59 : (zm_cd 62)[59]? = some ((94, .iconst 0, 1, 0, 0, 0, 0, 0, []) : zm_E) := (congrArg (fun l => l[59]?) cd_62).trans rfl
theorem c_62_60 : (zm_cd 62)[60]? = some ((95, .istore_n 2, 1, 2, 0, 0, 0, 0, []) : zm_E) := (congrArg (fun l => l[60]?) cd_62).trans rfl
theorem c_62_61 : (zm_cd 62)[61]? = some ((96, .iload_n 2, 1, 2, 0, 0, 0, 0, []) : zm_E) := (congrArg (fun l => l[61]?) cd_62).trans rfl
theorem c_62_62 : (zm_cd 62)[62]? = some ((97, .iload_n 1, 1, 1, 0, 0, 0, 0, []) : zm_E) := (congrArg (fun l => l[62]?) cd_62).trans rfl
theorem c_62_63 : (zm_cd 62)[63]? = some ((98, .if_icmp .ge 18, 3, 73, 0, 0, 0, 0, []) : zm_E) := (congrArg (fun l => l[63]?) cd_62).trans rfl
theorem c_62_64 : (zm_cd 62)[64]? = some ((101, .aload_n 0, 1, 0, 0, 0, 0, 0, []) : zm_E) := (congrArg (fun l => l[64]?) cd_62).trans rfl
theorem c_62_65 : (zm_cd 62)[65]? = some ((102, .getfield 50, 3, 8, 20, 1, 0, 0, []) : zm_E) := (congrArg (fun l => l[65]?) cd_62).trans rfl
theorem c_62_66 : (zm_cd 62)[66]? = some ((105, .iconst 2, 1, 0, 0, 0, 2, 0, []) : zm_E) := (congrArg (fun l => l[66]?) cd_62).trans rfl
theorem c_62_67 : (zm_cd 62)[67]? = some ((106, .iload_n 2, 1, 2, 0, 0, 0, 0, []) : zm_E) := (congrArg (fun l => l[67]?) cd_62).trans rfl
theorem c_62_68 : (zm_cd 62)[68]? = some ((107, .iadd, 1, 0, 0, 0, 0, 0, []) : zm_E) := (congrArg (fun l => l[68]?) cd_62).trans rfl
theorem c_62_69 : (zm_cd 62)[69]? = some ((108, .iload_n 2, 1, 2, 0, 0, 0, 0, []) : zm_E) := (congrArg (fun l => l[69]?) cd_62).trans rfl
theorem c_62_70 : (zm_cd 62)[70]? = some ((109, .iastore, 1, 0, 0, 0, 0, 0, []) : zm_E) := (congrArg (fun l => l[70]?) cd_62).trans rfl
theorem c_62_71 : (zm_cd 62)[71]? = some ((110, .iinc 2 1, 3, 2, 0, 0, 1, 0, []) : zm_E) := (congrArg (fun l => l[71]?) cd_62).trans rfl
theorem c_62_72 : (zm_cd 62)[72]? = some ((113, .goto (-17), 3, 61, 0, 0, 0, 0, []) : zm_E) := (congrArg (fun l => l[72]?) cd_62).trans rfl
theorem c_62_73 : (zm_cd 62)[73]? = some ((116, .aload_n 0, 1, 0, 0, 0, 0, 0, []) : zm_E) := (congrArg (fun l => l[73]?) cd_62).trans rfl
theorem c_62_74 : (zm_cd 62)[74]? = some ((117, .bipush 47, 2, 0, 0, 0, 47, 0, []) : zm_E) := (congrArg (fun l => l[74]?) cd_62).trans rfl
theorem c_62_75 : (zm_cd 62)[75]? = some ((119, .invokevirtual 134, 3, 59, 1, 1, 0, 0, [8]) : zm_E) := (congrArg (fun l => l[75]?) cd_62).trans rfl
theorem c_62_76 : (zm_cd 62)[76]? = some ((122, .ifCond .eq 13, 3, 83, 0, 0, 0, 0, []) : zm_E) := (congrArg (fun l => l[76]?) cd_62).trans rfl
theorem c_62_77 : (zm_cd 62)[77]? = some ((125, .aload_n 0, 1, 0, 0, 0, 0, 0, []) : zm_E) := (congrArg (fun l => l[77]?) cd_62).trans rfl
theorem c_62_78 : (zm_cd 62)[78]? = some ((126, .iload_n 1, 1, 1, 0, 0, 0, 0, []) : zm_E) := (congrArg (fun l => l[78]?) cd_62).trans rfl
theorem c_62_79 : (zm_cd 62)[79]? = some ((127, .invokevirtual 137, 3, 61, 1, 1, 0, 0, [8]) : zm_E) := (congrArg (fun l => l[79]?) cd_62).trans rfl
theorem c_62_80 : (zm_cd 62)[80]? = some ((130, .ifCond .ne 5, 3, 83, 0, 0, 0, 0, []) : zm_E) := (congrArg (fun l => l[80]?) cd_62).trans rfl
theorem c_62_81 : (zm_cd 62)[81]? = some ((133, .iconst 0, 1, 0, 0, 0, 0, 0, []) : zm_E) := (congrArg (fun l => l[81]?) cd_62).trans rfl
theorem c_62_82 : (zm_cd 62)[82]? = some ((134, .ireturn, 1, 1, 0, 0, 0, 0, []) : zm_E) := (congrArg (fun l => l[82]?) cd_62).trans rfl
theorem c_62_83 : (zm_cd 62)[83]? = some ((135, .aload_n 0, 1, 0, 0, 0, 0, 0, []) : zm_E) := (congrArg (fun l => l[83]?) cd_62).trans rfl
theorem c_62_84 : (zm_cd 62)[84]? = some ((136, .getfield 125, 3, 8, 18, 0, 0, 0, []) : zm_E) := (congrArg (fun l => l[84]?) cd_62).trans rfl
theorem c_62_85 : (zm_cd 62)[85]? = some ((139, .aload_n 0, 1, 0, 0, 0, 0, 0, []) : zm_E) := (congrArg (fun l => l[85]?) cd_62).trans rfl
theorem c_62_86 : (zm_cd 62)[86]? = some ((140, .getfield 122, 3, 8, 7, 0, 0, 0, []) : zm_E) := (congrArg (fun l => l[86]?) cd_62).trans rfl
theorem c_62_87 : (zm_cd 62)[87]? = some ((143, .if_icmp .ne 7, 3, 90, 0, 0, 0, 0, []) : zm_E) := (congrArg (fun l => l[87]?) cd_62).trans rfl
theorem c_62_88 : (zm_cd 62)[88]? = some ((146, .iconst 1, 1, 0, 0, 0, 1, 0, []) : zm_E) := (congrArg (fun l => l[88]?) cd_62).trans rfl
theorem c_62_89 : (zm_cd 62)[89]? = some ((147, .goto 4, 3, 91, 0, 0, 0, 0, []) : zm_E) := (congrArg (fun l => l[89]?) cd_62).trans rfl
theorem c_62_90 : (zm_cd 62)[90]? = some ((150, .iconst 0, 1, 0, 0, 0, 0, 0, []) : zm_E) := (congrArg (fun l => l[90]?) cd_62).trans rfl
theorem c_62_91 : (zm_cd 62)[91]? = some ((151, .ireturn, 1, 1, 0, 0, 0, 0, []) : zm_E) := (congrArg (fun l => l[91]?) cd_62).trans rfl
theorem cd_63 : zm_cd 63 = zd_63 := rfl
theorem ml_63 : zm_ml 63 = 1 := rfl
theorem ht_63 : zm_ht 63 = [] := rfl
theorem c_63_0 : (zm_cd 63)[0]? = some ((0, .aload_n 0, 1, 0, 0, 0, 0, 0, []) : zm_E) := (congrArg (fun l => l[0]?) cd_63).trans rfl
theorem c_63_1 : (zm_cd 63)[1]? = some ((1, .iconst 0, 1, 0, 0, 0, 0, 0, []) : zm_E) := (congrArg (fun l => l[1]?) cd_63).trans rfl
theorem c_63_2 : (zm_cd 63)[2]? = some ((2, .putfield 71, 3, 8, 8, 0, 0, 0, []) : zm_E) := (congrArg (fun l => l[2]?) cd_63).trans rfl
theorem c_63_3 : (zm_cd 63)[3]? = some ((5, .aload_n 0, 1, 0, 0, 0, 0, 0, []) : zm_E) := (congrArg (fun l => l[3]?) cd_63).trans rfl
theorem c_63_4 : (zm_cd 63)[4]? = some ((6, .invokevirtual 140, 3, 62, 0, 1, 0, 0, [8]) : zm_E) := (congrArg (fun l => l[4]?) cd_63).trans rfl
theorem c_63_5 : (zm_cd 63)[5]? = some ((9, .ifCond .eq 8, 3, 8, 0, 0, 0, 0, []) : zm_E) := (congrArg (fun l => l[5]?) cd_63).trans rfl
theorem c_63_6 : (zm_cd 63)[6]? = some ((12, .bipush (-9), 2, 0, 0, 0, (-9), 0, []) : zm_E) := (congrArg (fun l => l[6]?) cd_63).trans rfl
theorem c_63_7 : (zm_cd 63)[7]? = some ((14, .goto 7, 3, 10, 0, 0, 0, 0, []) : zm_E) := (congrArg (fun l => l[7]?) cd_63).trans rfl
theorem c_63_8 : (zm_cd 63)[8]? = some ((17, .aload_n 0, 1, 0, 0, 0, 0, 0, []) : zm_E) := (congrArg (fun l => l[8]?) cd_63).trans rfl
theorem c_63_9 : (zm_cd 63)[9]? = some ((18, .getfield 125, 3, 8, 18, 0, 0, 0, []) : zm_E) := (congrArg (fun l => l[9]?) cd_63).trans rfl
theorem c_63_10 : (zm_cd 63)[10]? = some ((21, .ireturn, 1, 0, 0, 0, 0, 0, []) : zm_E) := (congrArg (fun l => l[10]?) cd_63).trans rfl
theorem cd_64 : zm_cd 64 = zd_64 := rfl
theorem ml_64 : zm_ml 64 = 2 := rfl
theorem ht_64 : zm_ht 64 = [] := rfl
theorem c_64_0 : (zm_cd 64)[0]? = some ((0, .aload_n 0, 1, 0, 0, 0, 0, 0, []) : zm_E) := (congrArg (fun l => l[0]?) cd_64).trans rfl
theorem c_64_1 : (zm_cd 64)[1]? = some ((1, .iconst 0, 1, 0, 0, 0, 0, 0, []) : zm_E) := (congrArg (fun l => l[1]?) cd_64).trans rfl
theorem c_64_2 : (zm_cd 64)[2]? = some ((2, .putfield 71, 3, 8, 8, 0, 0, 0, []) : zm_E) := (congrArg (fun l => l[2]?) cd_64).trans rfl
theorem c_64_3 : (zm_cd 64)[3]? = some ((5, .aload_n 0, 1, 0, 0, 0, 0, 0, []) : zm_E) := (congrArg (fun l => l[3]?) cd_64).trans rfl
theorem c_64_4 : (zm_cd 64)[4]? = some ((6, .invokevirtual 140, 3, 62, 0, 1, 0, 0, [8]) : zm_E) := (congrArg (fun l => l[4]?) cd_64).trans rfl
theorem c_64_5 : (zm_cd 64)[5]? = some ((9, .ifCond .ne 9, 3, 10, 0, 0, 0, 0, []) : zm_E) := (congrArg (fun l => l[5]?) cd_64).trans rfl
theorem c_64_6 : (zm_cd 64)[6]? = some ((12, .aload_n 0, 1, 0, 0, 0, 0, 0, []) : zm_E) := (congrArg (fun l => l[6]?) cd_64).trans rfl
theorem c_64_7 : (zm_cd 64)[7]? = some ((13, .iconst 1, 1, 0, 0, 0, 1, 0, []) : zm_E) := (congrArg (fun l => l[7]?) cd_64).trans rfl
theorem c_64_8 : (zm_cd 64)[8]? = some ((14, .invokevirtual 119, 3, 43, 1, 1, 0, 0, [8]) : zm_E) := (congrArg (fun l => l[8]?) cd_64).trans rfl
theorem c_64_9 : (zm_cd 64)[9]? = some ((17, .ireturn, 1, 0, 0, 0, 0, 0, []) : zm_E) := (congrArg (fun l => l[9]?) cd_64).trans rfl
theorem c_64_10 : (zm_cd 64)[10]? = some ((18, .iconst 0, 1, 0, 0, 0, 0, 0, []) : zm_E) := (congrArg (fun l => l[10]?) cd_64).trans rfl
theorem c_64_11 : (zm_cd 64)[11]? = some ((19, .istore_n 1, 1, 1, 0, 0, 0, 0, []) : zm_E) := (congrArg (fun l => l[11]?) cd_64).trans rfl
theorem c_64_12 : (zm_cd 64)[12]? = some ((20, .iload_n 1, 1, 1, 0, 0, 0, 0, []) : zm_E) := (congrArg (fun l => l[12]?) cd_64).trans rfl
theorem c_64_13 : (zm_cd 64)[13]? = some ((21, .bipush 58, 2, 0, 0, 0, 58, 0, []) : zm_E) := (congrArg (fun l => l[13]?) cd_64).trans rfl
theorem c_64_14 : (zm_cd 64)[14]? = some ((23, .if_icmp .ge 21, 3, 25, 0, 0, 0, 0, []) : zm_E) := (congrArg (fun l => l[14]?) cd_64).trans rfl
theorem c_64_15 : (zm_cd 64)[15]? = some ((26, .aload_n 0, 1, 0, 0, 0, 0, 0, []) : zm_E) := (congrArg (fun l => l[15]?) cd_64).trans rfl
theorem c_64_16 : (zm_cd 64)[16]? = some ((27, .getfield 7, 3, 8, 0, 1, 0, 0, []) : zm_E) := (congrArg (fun l => l[16]?) cd_64).trans rfl
theorem c_64_17 : (zm_cd 64)[17]? = some ((30, .iload_n 1, 1, 1, 0, 0, 0, 0, []) : zm_E) := (congrArg (fun l => l[17]?) cd_64).trans rfl
theorem c_64_18 : (zm_cd 64)[18]? = some ((31, .aload_n 0, 1, 0, 0, 0, 0, 0, []) : zm_E) := (congrArg (fun l => l[18]?) cd_64).trans rfl
theorem c_64_19 : (zm_cd 64)[19]? = some ((32, .getfield 50, 3, 8, 20, 1, 0, 0, []) : zm_E) := (congrArg (fun l => l[19]?) cd_64).trans rfl
theorem c_64_20 : (zm_cd 64)[20]? = some ((35, .iload_n 1, 1, 1, 0, 0, 0, 0, []) : zm_E) := (congrArg (fun l => l[20]?) cd_64).trans rfl
theorem c_64_21 : (zm_cd 64)[21]? = some ((36, .iaload, 1, 0, 0, 0, 0, 0, []) : zm_E) := (congrArg (fun l => l[21]?) cd_64).trans rfl
theorem c_64_22 : (zm_cd 64)[22]? = some ((37, .iastore, 1, 0, 0, 0, 0, 0, []) : zm_E) := (congrArg (fun l => l[22]?) cd_64).trans rfl
theorem c_64_23 : (zm_cd 64)[23]? = some ((38, .iinc 1 1, 3, 1, 0, 0, 1, 0, []) : zm_E) := (congrArg (fun l => l[23]?) cd_64).trans rfl
theorem c_64_24 : (zm_cd 64)[24]? = some ((41, .goto (-21), 3, 12, 0, 0, 0, 0, []) : zm_E) := (congrArg (fun l => l[24]?) cd_64).trans rfl
theorem c_64_25 : (zm_cd 64)[25]? = some ((44, .aload_n 0, 1, 0, 0, 0, 0, 0, []) : zm_E) := (congrArg (fun l => l[25]?) cd_64).trans rfl
theorem c_64_26 : (zm_cd 64)[26]? = some ((45, .iconst 0, 1, 0, 0, 0, 0, 0, []) : zm_E) := (congrArg (fun l => l[26]?) cd_64).trans rfl
theorem c_64_27 : (zm_cd 64)[27]? = some ((46, .putfield 75, 3, 8, 3, 0, 0, 0, []) : zm_E) := (congrArg (fun l => l[27]?) cd_64).trans rfl
theorem c_64_28 : (zm_cd 64)[28]? = some ((49, .aload_n 0, 1, 0, 0, 0, 0, 0, []) : zm_E) := (congrArg (fun l => l[28]?) cd_64).trans rfl
theorem c_64_29 : (zm_cd 64)[29]? = some ((50, .getfield 22, 3, 8, 5, 1, 0, 0, []) : zm_E) := (congrArg (fun l => l[29]?) cd_64).trans rfl
theorem c_64_30 : (zm_cd 64)[30]? = some ((53, .iconst 0, 1, 0, 0, 0, 0, 0, []) : zm_E) := (congrArg (fun l => l[30]?) cd_64).trans rfl
theorem c_64_31 : (zm_cd 64)[31]? = some ((54, .iconst 0, 1, 0, 0, 0, 0, 0, []) : zm_E) := (congrArg (fun l => l[31]?) cd_64).trans rfl
theorem c_64_32 : (zm_cd 64)[32]? = some ((55, .bastore, 1, 0, 0, 0, 0, 0, []) : zm_E) := (congrArg (fun l => l[32]?) cd_64).trans rfl
theorem c_64_33 : (zm_cd 64)[33]? = some ((56, .aload_n 0, 1, 0, 0, 0, 0, 0, []) : zm_E) := (congrArg (fun l => l[33]?) cd_64).trans rfl
theorem c_64_34 : (zm_cd 64)[34]? = some ((57, .getfield 22, 3, 8, 5, 1, 0, 0, []) : zm_E) := (congrArg (fun l => l[34]?) cd_64).trans rfl
theorem c_64_35 : (zm_cd 64)[35]? = some ((60, .iconst 1, 1, 0, 0, 0, 1, 0, []) : zm_E) := (congrArg (fun l => l[35]?) cd_64).trans rfl
theorem c_64_36 : (zm_cd 64)[36]? = some ((61, .iconst 0, 1, 0, 0, 0, 0, 0, []) : zm_E) := (congrArg (fun l => l[36]?) cd_64).trans rfl
theorem c_64_37 : (zm_cd 64)[37]? = some ((62, .bastore, 1, 0, 0, 0, 0, 0, []) : zm_E) := (congrArg (fun l => l[37]?) cd_64).trans rfl
theorem c_64_38 : (zm_cd 64)[38]? = some ((63, .aload_n 0, 1, 0, 0, 0, 0, 0, []) : zm_E) := (congrArg (fun l => l[38]?) cd_64).trans rfl
theorem c_64_39 : (zm_cd 64)[39]? = some ((64, .invokevirtual 144, 3, 51, 0, 1, 0, 0, [8]) : zm_E) := (congrArg (fun l => l[39]?) cd_64).trans rfl
theorem c_64_40 : (zm_cd 64)[40]? = some ((67, .ireturn, 1, 0, 0, 0, 0, 0, []) : zm_E) := (congrArg (fun l => l[40]?) cd_64).trans rfl
theorem cd_65 : zm_cd 65 = zd_65 := rfl
theorem ml_65 : zm_ml 65 = 3 := rfl
theorem ht_65 : zm_ht 65 = [] := rfl
theorem c_65_0 : (zm_cd 65)[0]? = some ((0, .aload_n 0, 1, 0, 0, 0, 0, 0, []) : zm_E) := (congrArg (fun l => l[0]?) cd_65).trans rfl
theorem c_65_1 : (zm_cd 65)[1]? = some ((1, .iload_n 1, 1, 1, 0, 0, 0, 0, []) : zm_E) := (congrArg (fun l => l[1]?) cd_65).trans rfl
theorem c_65_2 : (zm_cd 65)[2]? = some ((2, .invokevirtual 97, 3, 48, 1, 1, 0, 0, [8]) : zm_E) := (congrArg (fun l => l[2]?) cd_65).trans rfl
theorem c_65_3 : (zm_cd 65)[3]? = some ((5, .ifCond .eq 38, 3, 23, 0, 0, 0, 0, []) : zm_E) := (congrArg (fun l => l[3]?) cd_65).trans rfl
theorem c_65_4 : (zm_cd 65)[4]? = some ((8, .aload_n 0, 1, 0, 0, 0, 0, 0, []) : zm_E) := (congrArg (fun l => l[4]?) cd_65).trans rfl
theorem c_65_5 : (zm_cd 65)[5]? = some ((9, .iload_n 2, 1, 2, 0, 0, 0, 0, []) : zm_E) := (congrArg (fun l => l[5]?) cd_65).trans rfl
theorem c_65_6 : (zm_cd 65)[6]? = some ((10, .invokevirtual 97, 3, 48, 1, 1, 0, 0, [8]) : zm_E) := (congrArg (fun l => l[6]?) cd_65).trans rfl
theorem c_65_7 : (zm_cd 65)[7]? = some ((13, .ifCond .eq 30, 3, 23, 0, 0, 0, 0, []) : zm_E) := (congrArg (fun l => l[7]?) cd_65).trans rfl
theorem c_65_8 : (zm_cd 65)[8]? = some ((16, .aload_n 0, 1, 0, 0, 0, 0, 0, []) : zm_E) := (congrArg (fun l => l[8]?) cd_65).trans rfl
theorem c_65_9 : (zm_cd 65)[9]? = some ((17, .iload_n 1, 1, 1, 0, 0, 0, 0, []) : zm_E) := (congrArg (fun l => l[9]?) cd_65).trans rfl
theorem c_65_10 : (zm_cd 65)[10]? = some ((18, .aload_n 0, 1, 0, 0, 0, 0, 0, []) : zm_E) := (congrArg (fun l => l[10]?) cd_65).trans rfl
theorem c_65_11 : (zm_cd 65)[11]? = some ((19, .iload_n 2, 1, 2, 0, 0, 0, 0, []) : zm_E) := (congrArg (fun l => l[11]?) cd_65).trans rfl
theorem c_65_12 : (zm_cd 65)[12]? = some ((20, .invokevirtual 90, 3, 50, 1, 1, 0, 0, [8]) : zm_E) := (congrArg (fun l => l[12]?) cd_65).trans rfl
theorem c_65_13 : (zm_cd 65)[13]? = some ((23, .invokevirtual 93, 3, 49, 2, 1, 0, 0, [8]) : zm_E) := (congrArg (fun l => l[13]?) cd_65).trans rfl
theorem c_65_14 : (zm_cd 65)[14]? = some ((26, .aload_n 0, 1, 0, 0, 0, 0, 0, []) : zm_E) := (congrArg (fun l => l[14]?) cd_65).trans rfl
theorem c_65_15 : (zm_cd 65)[15]? = some ((27, .iload_n 1, 1, 1, 0, 0, 0, 0, []) : zm_E) := (congrArg (fun l => l[15]?) cd_65).trans rfl
theorem c_65_16 : (zm_cd 65)[16]? = some ((28, .aload_n 0, 1, 0, 0, 0, 0, 0, []) : zm_E) := (congrArg (fun l => l[16]?) cd_65).trans rfl
theorem c_65_17 : (zm_cd 65)[17]? = some ((29, .iload_n 1, 1, 1, 0, 0, 0, 0, []) : zm_E) := (congrArg (fun l => l[17]?) cd_65).trans rfl
theorem c_65_18 : (zm_cd 65)[18]? = some ((30, .invokevirtual 90, 3, 50, 1, 1, 0, 0, [8]) : zm_E) := (congrArg (fun l => l[18]?) cd_65).trans rfl
theorem c_65_19 : (zm_cd 65)[19]? = some ((33, .invokevirtual 93, 3, 49, 2, 1, 0, 0, [8]) : zm_E) := (congrArg (fun l => l[19]?) cd_65).trans rfl
theorem c_65_20 : (zm_cd 65)[20]? = some ((36, .if_icmp .ge 7, 3, 23, 0, 0, 0, 0, []) : zm_E) := (congrArg (fun l => l[20]?) cd_65).trans rfl
theorem c_65_21 : (zm_cd 65)[21]? = some ((39, .iconst 1, 1, 0, 0, 0, 1, 0, []) : zm_E) := (congrArg (fun l => l[21]?) cd_65).trans rfl
theorem c_65_22 : (zm_cd 65)[22]? = some ((40, .goto 4, 3, 24, 0, 0, 0, 0, []) : zm_E) := (congrArg (fun l => l[22]?) cd_65).trans rfl
theorem c_65_23 : (zm_cd 65)[23]? = some ((43, .iconst 0, 1, 0, 0, 0, 0, 0, []) : zm_E) := (congrArg (fun l => l[23]?) cd_65).trans rfl
theorem c_65_24 : (zm_cd 65)[24]? = some ((44, .ireturn, 1, 1, 0, 0, 0, 0, []) : zm_E) := (congrArg (fun l => l[24]?) cd_65).trans rfl
theorem cd_66 : zm_cd 66 = zd_66 := rfl
theorem ml_66 : zm_ml 66 = 7 := rfl
theorem ht_66 : zm_ht 66 = [] := rfl
theorem c_66_0 : (zm_cd 66)[0]? = some ((0, .aload_n 0, 1, 0, 0, 0, 0, 0, []) : zm_E) := (congrArg (fun l => l[0]?) cd_66).trans rfl
theorem c_66_1 : (zm_cd 66)[1]? = some ((1, .iconst 0, 1, 0, 0, 0, 0, 0, []) : zm_E) := (congrArg (fun l => l[1]?) cd_66).trans rfl
theorem c_66_2 : (zm_cd 66)[2]? = some ((2, .putfield 71, 3, 8, 8, 0, 0, 0, []) : zm_E) := (congrArg (fun l => l[2]?) cd_66).trans rfl
theorem c_66_3 : (zm_cd 66)[3]? = some ((5, .aload_n 0, 1, 0, 0, 0, 0, 0, []) : zm_E) := (congrArg (fun l => l[3]?) cd_66).trans rfl
theorem c_66_4 : (zm_cd 66)[4]? = some ((6, .invokevirtual 148, 3, 55, 0, 0, 0, 0, [8]) : zm_E) := (congrArg (fun l => l[4]?) cd_66).trans rfl
theorem c_66_5 : (zm_cd 66)[5]? = some ((9, .iconst 0, 1, 0, 0, 0, 0, 0, []) : zm_E) := (congrArg (fun l => l[5]?) cd_66).trans rfl
theorem c_66_6 : (zm_cd 66)[6]? = some ((10, .istore_n 2, 1, 2, 0, 0, 0, 0, []) : zm_E) := (congrArg (fun l => l[6]?) cd_66).trans rfl
theorem c_66_7 : (zm_cd 66)[7]? = some ((11, .iconst 0, 1, 0, 0, 0, 0, 0, []) : zm_E) := (congrArg (fun l => l[7]?) cd_66).trans rfl
theorem c_66_8 : (zm_cd 66)[8]? = some ((12, .istore_n 3, 1, 3, 0, 0, 0, 0, []) : zm_E) := (congrArg (fun l => l[8]?) cd_66).trans rfl
theorem c_66_9 : (zm_cd 66)[9]? = some ((13, .iconst 0, 1, 0, 0, 0, 0, 0, []) : zm_E) := (congrArg (fun l => l[9]?) cd_66).trans rfl
theorem c_66_10 : (zm_cd 66)[10]? = some ((14, .istore 4, 2, 4, 0, 0, 0, 0, []) : zm_E) := (congrArg (fun l => l[10]?) cd_66).trans rfl
theorem c_66_11 : (zm_cd 66)[11]? = some ((16, .iconst 0, 1, 0, 0, 0, 0, 0, []) : zm_E) := (congrArg (fun l => l[11]?) cd_66).trans rfl
theorem c_66_12 : (zm_cd 66)[12]? = some ((17, .istore 5, 2, 5, 0, 0, 0, 0, []) : zm_E) := (congrArg (fun l => l[12]?) cd_66).trans rfl
theorem c_66_13 : (zm_cd 66)[13]? = some ((19, .iload 5, 2, 5, 0, 0, 0, 0, []) : zm_E) := (congrArg (fun l => l[13]?) cd_66).trans rfl
theorem c_66_14 : (zm_cd 66)[14]? = some ((21, .aload_n 0, 1, 0, 0, 0, 0, 0, []) : zm_E) := (congrArg (fun l => l[14]?) cd_66).trans rfl
theorem c_66_15 : (zm_cd 66)[15]? = some ((22, .getfield 7, 3, 8, 0, 1, 0, 0, []) : zm_E) := (congrArg (fun l => l[15]?) cd_66).trans rfl
theorem c_66_16 : (zm_cd 66)[16]? = some ((25, .iconst 0, 1, 0, 0, 0, 0, 0, []) : zm_E) := (congrArg (fun l => l[16]?) cd_66).trans rfl
theorem c_66_17 : (zm_cd 66)[17]? = some ((26, .iaload, 1, 0, 0, 0, 0, 0, []) : zm_E) := (congrArg (fun l => l[17]?) cd_66).trans rfl
theorem c_66_18 : (zm_cd 66)[18]? = some ((27, .if_icmp .ge 102, 3, 71, 0, 0, 0, 0, []) : zm_E) := (congrArg (fun l => l[18]?) cd_66).trans rfl
theorem c_66_19 : (zm_cd 66)[19]? = some ((30, .iload_n 2, 1, 2, 0, 0, 0, 0, []) : zm_E) := (congrArg (fun l => l[19]?) cd_66).trans rfl
theorem c_66_20 : (zm_cd 66)[20]? = some ((31, .aload_n 0, 1, 0, 0, 0, 0, 0, []) : zm_E) := (congrArg (fun l => l[20]?) cd_66).trans rfl
theorem c_66_21 : (zm_cd 66)[21]? = some ((32, .iload 5, 2, 5, 0, 0, 0, 0, []) : zm_E) := (congrArg (fun l => l[21]?) cd_66).trans rfl
theorem c_66_22 : (zm_cd 66)[22]? = some ((34, .invokevirtual 90, 3, 50, 1, 1, 0, 0, [8]) : zm_E) := (congrArg (fun l => l[22]?) cd_66).trans rfl
theorem c_66_23 : (zm_cd 66)[23]? = some ((37, .iload 5, 2, 5, 0, 0, 0, 0, []) : zm_E) := (congrArg (fun l => l[23]?) cd_66).trans rfl
theorem c_66_24 : (zm_cd 66)[24]? = some ((39, .if_icmp .ne 7, 3, 27, 0, 0, 0, 0, []) : zm_E) := (congrArg (fun l => l[24]?) cd_66).trans rfl
theorem c_66_25 : (zm_cd 66)[25]? = some ((42, .iconst 1, 1, 0, 0, 0, 1, 0, []) : zm_E) := (congrArg (fun l => l[25]?) cd_66).trans rfl
theorem c_66_26 : (zm_cd 66)[26]? = some ((43, .goto 4, 3, 28, 0, 0, 0, 0, []) : zm_E) := (congrArg (fun l => l[26]?) cd_66).trans rfl
theorem c_66_27 : (zm_cd 66)[27]? = some ((46, .iconst 0, 1, 0, 0, 0, 0, 0, []) : zm_E) := (congrArg (fun l => l[27]?) cd_66).trans rfl
theorem c_66_28 : (zm_cd 66)[28]? = some ((47, .iadd, 1, 0, 0, 0, 0, 0, []) : zm_E) := (congrArg (fun l => l[28]?) cd_66).trans rfl
theorem c_66_29 : (zm_cd 66)[29]? = some ((48, .istore_n 2, 1, 2, 0, 0, 0, 0, []) : zm_E) := (congrArg (fun l => l[29]?) cd_66).trans rfl
theorem c_66_30 : (zm_cd 66)[30]? = some ((49, .iload_n 3, 1, 3, 0, 0, 0, 0, []) : zm_E) := (congrArg (fun l => l[30]?) cd_66).trans rfl
theorem c_66_31 : (zm_cd 66)[31]? = some ((50, .aload_n 0, 1, 0, 0, 0, 0, 0, []) : zm_E) := (congrArg (fun l => l[31]?) cd_66).trans rfl
theorem c_66_32 : (zm_cd 66)[32]? = some ((51, .iload 5, 2, 5, 0, 0, 0, 0, []) : zm_E) := (congrArg (fun l => l[32]?) cd_66).trans rfl
theorem c_66_33 : (zm_cd 66)[33]? = some ((53, .invokevirtual 97, 3, 48, 1, 1, 0, 0, [8]) : zm_E) := (congrArg (fun l => l[33]?) cd_66).trans rfl
theorem c_66_34 : (zm_cd 66)[34]? = some ((56, .ifCond .eq 23, 3, 45, 0, 0, 0, 0, []) : zm_E) := (congrArg (fun l => l[34]?) cd_66).trans rfl
theorem c_66_35 : (zm_cd 66)[35]? = some ((59, .aload_n 0, 1, 0, 0, 0, 0, 0, []) : zm_E) := (congrArg (fun l => l[35]?) cd_66).trans rfl
theorem c_66_36 : (zm_cd 66)[36]? = some ((60, .getfield 29, 3, 8, 9, 1, 0, 0, []) : zm_E) := (congrArg (fun l => l[36]?) cd_66).trans rfl
theorem c_66_37 : (zm_cd 66)[37]? = some ((63, .iload 5, 2, 5, 0, 0, 0, 0, []) : zm_E) := (congrArg (fun l => l[37]?) cd_66).trans rfl
theorem c_66_38 : (zm_cd 66)[38]? = some ((65, .iaload, 1, 0, 0, 0, 0, 0, []) : zm_E) := (congrArg (fun l => l[38]?) cd_66).trans rfl
theorem c_66_39 : (zm_cd 66)[39]? = some ((66, .aload_n 0, 1, 0, 0, 0, 0, 0, []) : zm_E) := (congrArg (fun l => l[39]?) cd_66).trans rfl
theorem c_66_40 : (zm_cd 66)[40]? = some ((67, .iload 5, 2, 5, 0, 0, 0, 0, []) : zm_E) := (congrArg (fun l => l[40]?) cd_66).trans rfl
theorem c_66_41 : (zm_cd 66)[41]? = some ((69, .invokevirtual 90, 3, 50, 1, 1, 0, 0, [8]) : zm_E) := (congrArg (fun l => l[41]?) cd_66).trans rfl
theorem c_66_42 : (zm_cd 66)[42]? = some ((72, .if_icmp .eq 7, 3, 45, 0, 0, 0, 0, []) : zm_E) := (congrArg (fun l => l[42]?) cd_66).trans rfl
theorem c_66_43 : (zm_cd 66)[43]? = some ((75, .iconst 1, 1, 0, 0, 0, 1, 0, []) : zm_E) := (congrArg (fun l => l[43]?) cd_66).trans rfl
theorem c_66_44 : (zm_cd 66)[44]? = some ((76, .goto 4, 3, 46, 0, 0, 0, 0, []) : zm_E) := (congrArg (fun l => l[44]?) cd_66).trans rfl
theorem c_66_45 : (zm_cd 66)[45]? = some ((79, .iconst 0, 1, 0, 0, 0, 0, 0, []) : zm_E) := (congrArg (fun l => l[45]?) cd_66).trans rfl
theorem c_66_46 : (zm_cd 66)[46]? = some ((80, .iadd, 1, 0, 0, 0, 0, 0, []) : zm_E) := (congrArg (fun l => l[46]?) cd_66).trans rfl
theorem c_66_47 : (zm_cd 66)[47]? = some ((81, .istore_n 3, 1, 3, 0, 0, 0, 0, []) : zm_E) := (congrArg (fun l => l[47]?) cd_66).trans rfl
theorem c_66_48 : (zm_cd 66)[48]? = some ((82, .iconst 0, 1, 0, 0, 0, 0, 0, []) : zm_E) := (congrArg (fun l => l[48]?) cd_66).trans rfl
theorem c_66_49 : (zm_cd 66)[49]? = some ((83, .istore 6, 2, 6, 0, 0, 0, 0, []) : zm_E) := (congrArg (fun l => l[49]?) cd_66).trans rfl
theorem c_66_50 : (zm_cd 66)[50]? = some ((85, .iload 6, 2, 6, 0, 0, 0, 0, []) : zm_E) := (congrArg (fun l => l[50]?) cd_66).trans rfl
theorem c_66_51 : (zm_cd 66)[51]? = some ((87, .aload_n 0, 1, 0, 0, 0, 0, 0, []) : zm_E) := (congrArg (fun l => l[51]?) cd_66).trans rfl
theorem c_66_52 : (zm_cd 66)[52]? = some ((88, .getfield 7, 3, 8, 0, 1, 0, 0, []) : zm_E) := (congrArg (fun l => l[52]?) cd_66).trans rfl
theorem c_66_53 : (zm_cd 66)[53]? = some ((91, .iconst 0, 1, 0, 0, 0, 0, 0, []) : zm_E) := (congrArg (fun l => l[53]?) cd_66).trans rfl
theorem c_66_54 : (zm_cd 66)[54]? = some ((92, .iaload, 1, 0, 0, 0, 0, 0, []) : zm_E) := (congrArg (fun l => l[54]?) cd_66).trans rfl
theorem c_66_55 : (zm_cd 66)[55]? = some ((93, .if_icmp .ge 30, 3, 69, 0, 0, 0, 0, []) : zm_E) := (congrArg (fun l => l[55]?) cd_66).trans rfl
theorem c_66_56 : (zm_cd 66)[56]? = some ((96, .iload 4, 2, 4, 0, 0, 0, 0, []) : zm_E) := (congrArg (fun l => l[56]?) cd_66).trans rfl
theorem c_66_57 : (zm_cd 66)[57]? = some ((98, .aload_n 0, 1, 0, 0, 0, 0, 0, []) : zm_E) := (congrArg (fun l => l[57]?) cd_66).trans rfl
theorem c_66_58 : (zm_cd 66)[58]? = some ((99, .iload 5, 2, 5, 0, 0, 0, 0, []) : zm_E) := (congrArg (fun l => l[58]?) cd_66).trans rfl
theorem c_66_59 : (zm_cd 66)[59]? = some ((101, .iload 6, 2, 6, 0, 0, 0, 0, []) : zm_E) := (congrArg (fun l => l[59]?) cd_66).trans rfl
theorem c_66_60 : (zm_cd 66)[60]? = some ((103, .invokevirtual 151, 3, 65, 2, 1, 0, 0, [8]) : zm_E) := (congrArg (fun l => l[60]?) cd_66).trans rfl
theorem c_66_61 : (zm_cd 66)[61]? = some ((106, .ifCond .eq 7, 3, 64, 0, 0, 0, 0, []) : zm_E) := (congrArg (fun l => l[61]?) cd_66).trans rfl
theorem c_66_62 : (zm_cd 66)[62]? = some ((109, .iconst 1, 1, 0, 0, 0, 1, 0, []) : zm_E) := (congrArg (fun l => l[62]?) cd_66).trans rfl
theorem c_66_63 : (zm_cd 66)[63]? = some ((110, .goto 4, 3, 65, 0, 0, 0, 0, []) : zm_E) := (congrArg (fun l => l[63]?) cd_66).trans rfl
theorem c_66_64 : (zm_cd 66)[64]? = some ((113, .iconst 0, 1, 0, 0, 0, 0, 0, []) : zm_E) := (congrArg (fun l => l[64]?) cd_66).trans rfl
theorem c_66_65 : (zm_cd 66)[65]? = some ((114, .iadd, 1, 0, 0, 0, 0, 0, []) : zm_E) := (congrArg (fun l => l[65]?) cd_66).trans rfl
theorem c_66_66 : (zm_cd 66)[66]? = some ((115, .istore 4, 2, 4, 0, 0, 0, 0, []) : zm_E) := (congrArg (fun l => l[66]?) cd_66).trans rfl
theorem c_66_67 : (zm_cd 66)[67]? = some ((117, .iinc 6 1, 3, 6, 0, 0, 1, 0, []) : zm_E) := (congrArg (fun l => l[67]?) cd_66).trans rfl
theorem c_66_68 : (zm_cd 66)[68]? = some ((120, .goto (-35), 3, 50, 0, 0, 0, 0, []) : zm_E) := (congrArg (fun l => l[68]?) cd_66).trans rfl
theorem c_66_69 : (zm_cd 66)[69]? = some ((123, .iinc 5 1, 3, 5, 0, 0, 1, 0, []) : zm_E) := (congrArg (fun l => l[69]?) cd_66).trans rfl
theorem c_66_70 : (zm_cd 66)[70]? = some ((126, .goto (-107), 3, 13, 0, 0, 0, 0, []) : zm_E) := (congrArg (fun l => l[70]?) cd_66).trans rfl
theorem c_66_71 : (zm_cd 66)[71]? = some ((129, .iload_n 1, 1, 1, 0, 0, 0, 0, []) : zm_E) := (congrArg (fun l => l[71]?) cd_66).trans rfl
theorem c_66_72 : (zm_cd 66)[72]? = some ((130, .tableswitch 80 0 7 #[46, 53, 58, 60, 65, 70, 75, 77], 46, 96, 0, 0, 0, 0, [73, 78, 81, 83, 86, 89, 92, 94]) : zm_E) := (congrArg (fun l => l[72]?) cd_66).trans rfl
theorem c_66_73 : (zm_cd 66)[73]? = some ((176, .aload_n 0, 1, 0, 0, 0, 0, 0, []) : zm_E) := (congrArg (fun l => l[73]?) cd_66).trans rfl
theorem c_66_74 : (zm_cd 66)[74]? = some ((177, .getfield 7, 3, 8, 0, 1, 0, 0, []) : zm_E) := (congrArg (fun l => l[74]?) cd_66).trans rfl
theorem c_66_75 : (zm_cd 66)[75]? = some ((180, .iconst 0, 1, 0, 0, 0, 0, 0, []) : zm_E) := (congrArg (fun l => l[75]?) cd_66).trans rfl
theorem c_66_76 : (zm_cd 66)[76]? = some ((181, .iaload, 1, 0, 0, 0, 0, 0, []) : zm_E) := (congrArg (fun l => l[76]?) cd_66).trans rfl
theorem c_66_77 : (zm_cd 66)[77]? = some ((182, .ireturn, 1, 0, 0, 0, 0, 0, []) : zm_E) := (congrArg (fun l => l[77]?) cd_66).trans rfl
theorem c_66_78 : (zm_cd 66)[78]? = some ((183, .aload_n 0, 1, 0, 0, 0, 0, 0, []) : zm_E) := (congrArg (fun l => l[78]?) cd_66).trans rfl
theorem c_66_79 : (zm_cd 66)[79]? = some ((184, .invokevirtual 144, 3, 51, 0, 1, 0, 0, [8]) : zm_E) := (congrArg (fun l => l[79]?) cd_66).trans rfl
theorem c_66_80 : (zm_cd 66)[80]? = some ((187, .ireturn, 1, 0, 0, 0, 0, 0, []) : zm_E) := (congrArg (fun l => l[80]?) cd_66).trans rfl
theorem c_66_81 : (zm_cd 66)[81]? = some ((188, .iload_n 2, 1, 2, 0, 0, 0, 0, []) : zm_E) := (congrArg (fun l => l[81]?) cd_66).trans rfl
theorem c_66_82 : (zm_cd 66)[82]? = some ((189, .ireturn, 1, 0, 0, 0, 0, 0, []) : zm_E) := (congrArg (fun l => l[82]?) cd_66).trans rfl
theorem c_66_83 : (zm_cd 66)[83]? = some ((190, .aload_n 0, 1, 0, 0, 0, 0, 0, []) : zm_E) := (congrArg (fun l => l[83]?) cd_66).trans rfl
theorem c_66_84 : (zm_cd 66)[84]? = some ((191, .invokevirtual 154, 3, 52, 0, 1, 0, 0, [8]) : zm_E) := (congrArg (fun l => l[84]?) cd_66).trans rfl
theorem c_66_85 : (zm_cd 66)[85]? = some ((194, .ireturn, 1, 0, 0, 0, 0, 0, []) : zm_E) := (congrArg (fun l => l[85]?) cd_66).trans rfl
theorem c_66_86 : (zm_cd 66)[86]? = some ((195, .aload_n 0, 1, 0, 0, 0, 0, 0, []) : zm_E) := (congrArg (fun l => l[86]?) cd_66).trans rfl
theorem c_66_87 : (zm_cd 66)[87]? = some ((196, .getfield 101, 3, 8, 16, 0, 0, 0, []) : zm_E) := (congrArg (fun l => l[87]?) cd_66).trans rfl
theorem c_66_88 : (zm_cd 66)[88]? = some ((199, .ireturn, 1, 0, 0, 0, 0, 0, []) : zm_E) := (congrArg (fun l => l[88]?) cd_66).trans rfl
theorem c_66_89 : (zm_cd 66)[89]? = some ((200, .aload_n 0, 1, 0, 0, 0, 0, 0, []) : zm_E) := (congrArg (fun l => l[89]?) cd_66).trans rfl
theorem c_66_90 : (zm_cd 66)[90]? = some ((201, .getfield 104, 3, 8, 17, 0, 0, 0, []) : zm_E) := (congrArg (fun l => l[90]?) cd_66).trans rfl
theorem c_66_91 : (zm_cd 66)[91]? = some ((204, .ireturn, 1, 0, 0, 0, 0, 0, []) : zm_E) := (congrArg (fun l => l[91]?) cd_66).trans rfl
theorem c_66_92 : (zm_cd 66)[92]? = some ((205, .iload_n 3, 1, 3, 0, 0, 0, 0, []) : zm_E) := (congrArg (fun l => l[92]?) cd_66).trans rfl
theorem c_66_93 : (zm_cd 66)[93]? = some ((206, .ireturn, 1, 0, 0, 0, 0, 0, []) : zm_E) := (congrArg (fun l => l[93]?) cd_66).trans rfl
theorem c_66_94 : (zm_cd 66)[94]? = some ((207, .iload 4, 2, 4, 0, 0, 0, 0, []) : zm_E) := (congrArg (fun l => l[94]?) cd_66).trans rfl
theorem c_66_95 : (zm_cd 66)[95]? = some ((209, .ireturn, 1, 0, 0, 0, 0, 0, []) : zm_E) := (congrArg (fun l => l[95]?) cd_66).trans rfl
theorem c_66_96 : (zm_cd 66)[96]? = some ((210, .aload_n 0, 1, 0, 0, 0, 0, 0, []) : zm_E) := (congrArg (fun l => l[96]?) cd_66).trans rfl
theorem c_66_97 : (zm_cd 66)[97]? = some ((211, .iconst 1, 1, 0, 0, 0, 1, 0, []) : zm_E) := (congrArg (fun l => l[97]?) cd_66).trans rfl
theorem c_66_98 : (zm_cd 66)[98]? = some ((212, .invokevirtual 119, 3, 43, 1, 1, 0, 0, [8]) : zm_E) := (congrArg (fun l => l[98]?) cd_66).trans rfl
theorem c_66_99 : (zm_cd 66)[99]? = some ((215, .ireturn, 1, 0, 0, 0, 0, 0, []) : zm_E) := (congrArg (fun l => l[99]?) cd_66).trans rfl
theorem cd_67 : zm_cd 67 = zd_67 := rfl
theorem ml_67 : zm_ml 67 = 3 := rfl
theorem ht_67 : zm_ht 67 = [] := rfl
theorem c_67_0 : (zm_cd 67)[0]? = some ((0, .aload_n 0, 1, 0, 0, 0, 0, 0, []) : zm_E) := (congrArg (fun l => l[0]?) cd_67).trans rfl
theorem c_67_1 : (zm_cd 67)[1]? = some ((1, .iconst 0, 1, 0, 0, 0, 0, 0, []) : zm_E) := (congrArg (fun l => l[1]?) cd_67).trans rfl
theorem c_67_2 : (zm_cd 67)[2]? = some ((2, .putfield 71, 3, 8, 8, 0, 0, 0, []) : zm_E) := (congrArg (fun l => l[2]?) cd_67).trans rfl
theorem c_67_3 : (zm_cd 67)[3]? = some ((5, .aload_n 0, 1, 0, 0, 0, 0, 0, []) : zm_E) := (congrArg (fun l => l[3]?) cd_67).trans rfl
theorem c_67_4 : (zm_cd 67)[4]? = some ((6, .iload_n 1, 1, 1, 0, 0, 0, 0, []) : zm_E) := (congrArg (fun l => l[4]?) cd_67).trans rfl
theorem c_67_5 : (zm_cd 67)[5]? = some ((7, .invokevirtual 157, 3, 47, 1, 1, 0, 0, [8]) : zm_E) := (congrArg (fun l => l[5]?) cd_67).trans rfl
theorem c_67_6 : (zm_cd 67)[6]? = some ((10, .ifCond .ne 9, 3, 11, 0, 0, 0, 0, []) : zm_E) := (congrArg (fun l => l[6]?) cd_67).trans rfl
theorem c_67_7 : (zm_cd 67)[7]? = some ((13, .aload_n 0, 1, 0, 0, 0, 0, 0, []) : zm_E) := (congrArg (fun l => l[7]?) cd_67).trans rfl
theorem c_67_8 : (zm_cd 67)[8]? = some ((14, .iconst 1, 1, 0, 0, 0, 1, 0, []) : zm_E) := (congrArg (fun l => l[8]?) cd_67).trans rfl
theorem c_67_9 : (zm_cd 67)[9]? = some ((15, .invokevirtual 119, 3, 43, 1, 1, 0, 0, [8]) : zm_E) := (congrArg (fun l => l[9]?) cd_67).trans rfl
theorem c_67_10 : (zm_cd 67)[10]? = some ((18, .ireturn, 1, 0, 0, 0, 0, 0, []) : zm_E) := (congrArg (fun l => l[10]?) cd_67).trans rfl
theorem c_67_11 : (zm_cd 67)[11]? = some ((19, .aload_n 0, 1, 0, 0, 0, 0, 0, []) : zm_E) := (congrArg (fun l => l[11]?) cd_67).trans rfl
theorem c_67_12 : (zm_cd 67)[12]? = some ((20, .invokevirtual 148, 3, 55, 0, 0, 0, 0, [8]) : zm_E) := (congrArg (fun l => l[12]?) cd_67).trans rfl
theorem c_67_13 : (zm_cd 67)[13]? = some ((23, .iload_n 2, 1, 2, 0, 0, 0, 0, []) : zm_E) := (congrArg (fun l => l[13]?) cd_67).trans rfl
theorem c_67_14 : (zm_cd 67)[14]? = some ((24, .tableswitch 103 0 6 #[44, 50, 61, 75, 82, 89, 96], 44, 54, 0, 0, 0, 0, [15, 19, 26, 34, 39, 44, 49]) : zm_E) := (congrArg (fun l => l[14]?) cd_67).trans rfl
theorem c_67_15 : (zm_cd 67)[15]? = some ((68, .aload_n 0, 1, 0, 0, 0, 0, 0, []) : zm_E) := (congrArg (fun l => l[15]?) cd_67).trans rfl
theorem c_67_16 : (zm_cd 67)[16]? = some ((69, .iload_n 1, 1, 1, 0, 0, 0, 0, []) : zm_E) := (congrArg (fun l => l[16]?) cd_67).trans rfl
theorem c_67_17 : (zm_cd 67)[17]? = some ((70, .invokevirtual 90, 3, 50, 1, 1, 0, 0, [8]) : zm_E) := (congrArg (fun l => l[17]?) cd_67).trans rfl
theorem c_67_18 : (zm_cd 67)[18]? = some ((73, .ireturn, 1, 0, 0, 0, 0, 0, []) : zm_E) := (congrArg (fun l => l[18]?) cd_67).trans rfl
theorem c_67_19 : (zm_cd 67)[19]? = some ((74, .aload_n 0, 1, 0, 0, 0, 0, 0, []) : zm_E) := (congrArg (fun l => l[19]?) cd_67).trans rfl
theorem c_67_20 : (zm_cd 67)[20]? = some ((75, .iload_n 1, 1, 1, 0, 0, 0, 0, []) : zm_E) := (congrArg (fun l => l[20]?) cd_67).trans rfl
theorem c_67_21 : (zm_cd 67)[21]? = some ((76, .aload_n 0, 1, 0, 0, 0, 0, 0, []) : zm_E) := (congrArg (fun l => l[21]?) cd_67).trans rfl
theorem c_67_22 : (zm_cd 67)[22]? = some ((77, .iload_n 1, 1, 1, 0, 0, 0, 0, []) : zm_E) := (congrArg (fun l => l[22]?) cd_67).trans rfl
theorem c_67_23 : (zm_cd 67)[23]? = some ((78, .invokevirtual 90, 3, 50, 1, 1, 0, 0, [8]) : zm_E) := (congrArg (fun l => l[23]?) cd_67).trans rfl
theorem c_67_24 : (zm_cd 67)[24]? = some ((81, .invokevirtual 93, 3, 49, 2, 1, 0, 0, [8]) : zm_E) := (congrArg (fun l => l[24]?) cd_67).trans rfl
theorem c_67_25 : (zm_cd 67)[25]? = some ((84, .ireturn, 1, 0, 0, 0, 0, 0, []) : zm_E) := (congrArg (fun l => l[25]?) cd_67).trans rfl
theorem c_67_26 : (zm_cd 67)[26]? = some ((85, .aload_n 0, 1, 0, 0, 0, 0, 0, []) : zm_E) := (congrArg (fun l => l[26]?) cd_67).trans rfl
theorem c_67_27 : (zm_cd 67)[27]? = some ((86, .iload_n 1, 1, 1, 0, 0, 0, 0, []) : zm_E) := (congrArg (fun l => l[27]?) cd_67).trans rfl
theorem c_67_28 : (zm_cd 67)[28]? = some ((87, .invokevirtual 97, 3, 48, 1, 1, 0, 0, [8]) : zm_E) := (congrArg (fun l => l[28]?) cd_67).trans rfl
theorem c_67_29 : (zm_cd 67)[29]? = some ((90, .ifCond .eq 7, 3, 32, 0, 0, 0, 0, []) : zm_E) := (congrArg (fun l => l[29]?) cd_67).trans rfl
theorem c_67_30 : (zm_cd 67)[30]? = some ((93, .iconst 1, 1, 0, 0, 0, 1, 0, []) : zm_E) := (congrArg (fun l => l[30]?) cd_67).trans rfl
theorem c_67_31 : (zm_cd 67)[31]? = some ((94, .goto 4, 3, 33, 0, 0, 0, 0, []) : zm_E) := (congrArg (fun l => l[31]?) cd_67).trans rfl
theorem c_67_32 : (zm_cd 67)[32]? = some ((97, .iconst 0, 1, 0, 0, 0, 0, 0, []) : zm_E) := (congrArg (fun l => l[32]?) cd_67).trans rfl
theorem c_67_33 : (zm_cd 67)[33]? = some ((98, .ireturn, 1, 0, 0, 0, 0, 0, []) : zm_E) := (congrArg (fun l => l[33]?) cd_67).trans rfl
theorem c_67_34 : (zm_cd 67)[34]? = some ((99, .aload_n 0, 1, 0, 0, 0, 0, 0, []) : zm_E) := (congrArg (fun l => l[34]?) cd_67).trans rfl
theorem c_67_35 : (zm_cd 67)[35]? = some ((100, .getfield 29, 3, 8, 9, 1, 0, 0, []) : zm_E) := (congrArg (fun l => l[35]?) cd_67).trans rfl
theorem c_67_36 : (zm_cd 67)[36]? = some ((103, .iload_n 1, 1, 1, 0, 0, 0, 0, []) : zm_E) := (congrArg (fun l => l[36]?) cd_67).trans rfl
theorem c_67_37 : (zm_cd 67)[37]? = some ((104, .iaload, 1, 0, 0, 0, 0, 0, []) : zm_E) := (congrArg (fun l => l[37]?) cd_67).trans rfl
theorem c_67_38 : (zm_cd 67)[38]? = some ((105, .ireturn, 1, 0, 0, 0, 0, 0, []) : zm_E) := (congrArg (fun l => l[38]?) cd_67).trans rfl
theorem c_67_39 : (zm_cd 67)[39]? = some ((106, .aload_n 0, 1, 0, 0, 0, 0, 0, []) : zm_E) := (congrArg (fun l => l[39]?) cd_67).trans rfl
theorem c_67_40 : (zm_cd 67)[40]? = some ((107, .getfield 32, 3, 8, 10, 1, 0, 0, []) : zm_E) := (congrArg (fun l => l[40]?) cd_67).trans rfl
theorem c_67_41 : (zm_cd 67)[41]? = some ((110, .iload_n 1, 1, 1, 0, 0, 0, 0, []) : zm_E) := (congrArg (fun l => l[41]?) cd_67).trans rfl
theorem c_67_42 : (zm_cd 67)[42]? = some ((111, .iaload, 1, 0, 0, 0, 0, 0, []) : zm_E) := (congrArg (fun l => l[42]?) cd_67).trans rfl
theorem c_67_43 : (zm_cd 67)[43]? = some ((112, .ireturn, 1, 0, 0, 0, 0, 0, []) : zm_E) := (congrArg (fun l => l[43]?) cd_67).trans rfl
theorem c_67_44 : (zm_cd 67)[44]? = some ((113, .aload_n 0, 1, 0, 0, 0, 0, 0, []) : zm_E) := (congrArg (fun l => l[44]?) cd_67).trans rfl
theorem c_67_45 : (zm_cd 67)[45]? = some ((114, .getfield 35, 3, 8, 11, 1, 0, 0, []) : zm_E) := (congrArg (fun l => l[45]?) cd_67).trans rfl
theorem c_67_46 : (zm_cd 67)[46]? = some ((117, .iload_n 1, 1, 1, 0, 0, 0, 0, []) : zm_E) := (congrArg (fun l => l[46]?) cd_67).trans rfl
theorem c_67_47 : (zm_cd 67)[47]? = some ((118, .iaload, 1, 0, 0, 0, 0, 0, []) : zm_E) := (congrArg (fun l => l[47]?) cd_67).trans rfl
theorem c_67_48 : (zm_cd 67)[48]? = some ((119, .ireturn, 1, 0, 0, 0, 0, 0, []) : zm_E) := (congrArg (fun l => l[48]?) cd_67).trans rfl
theorem c_67_49 : (zm_cd 67)[49]? = some ((120, .aload_n 0, 1, 0, 0, 0, 0, 0, []) : zm_E) := (congrArg (fun l => l[49]?) cd_67).trans rfl
theorem c_67_50 : (zm_cd 67)[50]? = some ((121, .getfield 38, 3, 8, 12, 1, 0, 0, []) : zm_E) := (congrArg (fun l => l[50]?) cd_67).trans rfl
theorem c_67_51 : (zm_cd 67)[51]? = some ((124, .iload_n 1, 1, 1, 0, 0, 0, 0, []) : zm_E) := (congrArg (fun l => l[51]?) cd_67).trans rfl
theorem c_67_52 : (zm_cd 67)[52]? = some ((125, .iaload, 1, 0, 0, 0, 0, 0, []) : zm_E) := (congrArg (fun l => l[52]?) cd_67).trans rfl
theorem c_67_53 : (zm_cd 67)[53]? = some ((126, .ireturn, 1, 0, 0, 0, 0, 0, []) : zm_E) := (congrArg (fun l => l[53]?) cd_67).trans rfl
theorem c_67_54 : (zm_cd 67)[54]? = some ((127, .aload_n 0, 1, 0, 0, 0, 0, 0, []) : zm_E) := (congrArg (fun l => l[54]?) cd_67).trans rfl
theorem c_67_55 : (zm_cd 67)[55]? = some ((128, .iconst 2, 1, 0, 0, 0, 2, 0, []) : zm_E) := (congrArg (fun l => l[55]?) cd_67).trans rfl
theorem c_67_56 : (zm_cd 67)[56]? = some ((129, .invokevirtual 119, 3, 43, 1, 1, 0, 0, [8]) : zm_E) := (congrArg (fun l => l[56]?) cd_67).trans rfl
theorem c_67_57 : (zm_cd 67)[57]? = some ((132, .ireturn, 1, 0, 0, 0, 0, 0, []) : zm_E) := (congrArg (fun l => l[57]?) cd_67).trans rfl
theorem cd_68 : zm_cd 68 = zd_68 := rfl
theorem ml_68 : zm_ml 68 = 3 := rfl
theorem ht_68 : zm_ht 68 = [] := rfl
theorem c_68_0 : (zm_cd 68)[0]? = some ((0, .aload_n 0, 1, 0, 0, 0, 0, 0, []) : zm_E) := (congrArg (fun l => l[0]?) cd_68).trans rfl
theorem c_68_1 : (zm_cd 68)[1]? = some ((1, .iconst 0, 1, 0, 0, 0, 0, 0, []) : zm_E) := (congrArg (fun l => l[1]?) cd_68).trans rfl
theorem c_68_2 : (zm_cd 68)[2]? = some ((2, .putfield 71, 3, 8, 8, 0, 0, 0, []) : zm_E) := (congrArg (fun l => l[2]?) cd_68).trans rfl
theorem c_68_3 : (zm_cd 68)[3]? = some ((5, .aload_n 0, 1, 0, 0, 0, 0, 0, []) : zm_E) := (congrArg (fun l => l[3]?) cd_68).trans rfl
theorem c_68_4 : (zm_cd 68)[4]? = some ((6, .iload_n 1, 1, 1, 0, 0, 0, 0, []) : zm_E) := (congrArg (fun l => l[4]?) cd_68).trans rfl
theorem c_68_5 : (zm_cd 68)[5]? = some ((7, .invokevirtual 157, 3, 47, 1, 1, 0, 0, [8]) : zm_E) := (congrArg (fun l => l[5]?) cd_68).trans rfl
theorem c_68_6 : (zm_cd 68)[6]? = some ((10, .ifCond .eq 20, 3, 16, 0, 0, 0, 0, []) : zm_E) := (congrArg (fun l => l[6]?) cd_68).trans rfl
theorem c_68_7 : (zm_cd 68)[7]? = some ((13, .aload_n 0, 1, 0, 0, 0, 0, 0, []) : zm_E) := (congrArg (fun l => l[7]?) cd_68).trans rfl
theorem c_68_8 : (zm_cd 68)[8]? = some ((14, .iload_n 2, 1, 2, 0, 0, 0, 0, []) : zm_E) := (congrArg (fun l => l[8]?) cd_68).trans rfl
theorem c_68_9 : (zm_cd 68)[9]? = some ((15, .invokevirtual 157, 3, 47, 1, 1, 0, 0, [8]) : zm_E) := (congrArg (fun l => l[9]?) cd_68).trans rfl
theorem c_68_10 : (zm_cd 68)[10]? = some ((18, .ifCond .eq 12, 3, 16, 0, 0, 0, 0, []) : zm_E) := (congrArg (fun l => l[10]?) cd_68).trans rfl
theorem c_68_11 : (zm_cd 68)[11]? = some ((21, .aload_n 0, 1, 0, 0, 0, 0, 0, []) : zm_E) := (congrArg (fun l => l[11]?) cd_68).trans rfl
theorem c_68_12 : (zm_cd 68)[12]? = some ((22, .iload_n 1, 1, 1, 0, 0, 0, 0, []) : zm_E) := (congrArg (fun l => l[12]?) cd_68).trans rfl
theorem c_68_13 : (zm_cd 68)[13]? = some ((23, .iload_n 2, 1, 2, 0, 0, 0, 0, []) : zm_E) := (congrArg (fun l => l[13]?) cd_68).trans rfl
theorem c_68_14 : (zm_cd 68)[14]? = some ((24, .invokevirtual 93, 3, 49, 2, 1, 0, 0, [8]) : zm_E) := (congrArg (fun l => l[14]?) cd_68).trans rfl
theorem c_68_15 : (zm_cd 68)[15]? = some ((27, .goto 8, 3, 19, 0, 0, 0, 0, []) : zm_E) := (congrArg (fun l => l[15]?) cd_68).trans rfl
theorem c_68_16 : (zm_cd 68)[16]? = some ((30, .aload_n 0, 1, 0, 0, 0, 0, 0, []) : zm_E) := (congrArg (fun l => l[16]?) cd_68).trans rfl
theorem c_68_17 : (zm_cd 68)[17]? = some ((31, .iconst 1, 1, 0, 0, 0, 1, 0, []) : zm_E) := (congrArg (fun l => l[17]?) cd_68).trans rfl
theorem c_68_18 : (zm_cd 68)[18]? = some ((32, .invokevirtual 119, 3, 43, 1, 1, 0, 0, [8]) : zm_E) := (congrArg (fun l => l[18]?) cd_68).trans rfl
theorem c_68_19 : (zm_cd 68)[19]? = some ((35, .ireturn, 1, 0, 0, 0, 0, 0, []) : zm_E) := (congrArg (fun l => l[19]?) cd_68).trans rfl
theorem cd_69 : zm_cd 69 = zd_69 := rfl
theorem ml_69 : zm_ml 69 = 3 := rfl
theorem ht_69 : zm_ht 69 = [] := rfl
theorem c_69_0 : (zm_cd 69)[0]? = some ((0, .aload_n 0, 1, 0, 0, 0, 0, 0, []) : zm_E) := (congrArg (fun l => l[0]?) cd_69).trans rfl
theorem c_69_1 : (zm_cd 69)[1]? = some ((1, .iconst 0, 1, 0, 0, 0, 0, 0, []) : zm_E) := (congrArg (fun l => l[1]?) cd_69).trans rfl
theorem c_69_2 : (zm_cd 69)[2]? = some ((2, .putfield 71, 3, 8, 8, 0, 0, 0, []) : zm_E) := (congrArg (fun l => l[2]?) cd_69).trans rfl
theorem c_69_3 : (zm_cd 69)[3]? = some ((5, .aload_n 0, 1, 0, 0, 0, 0, 0, []) : zm_E) := (congrArg (fun l => l[3]?) cd_69).trans rfl
theorem c_69_4 : (zm_cd 69)[4]? = some ((6, .iload_n 1, 1, 1, 0, 0, 0, 0, []) : zm_E) := (congrArg (fun l => l[4]?) cd_69).trans rfl
theorem c_69_5 : (zm_cd 69)[5]? = some ((7, .invokevirtual 157, 3, 47, 1, 1, 0, 0, [8]) : zm_E) := (congrArg (fun l => l[5]?) cd_69).trans rfl
theorem c_69_6 : (zm_cd 69)[6]? = some ((10, .ifCond .ne 9, 3, 11, 0, 0, 0, 0, []) : zm_E) := (congrArg (fun l => l[6]?) cd_69).trans rfl
theorem c_69_7 : (zm_cd 69)[7]? = some ((13, .aload_n 0, 1, 0, 0, 0, 0, 0, []) : zm_E) := (congrArg (fun l => l[7]?) cd_69).trans rfl
theorem c_69_8 : (zm_cd 69)[8]? = some ((14, .iconst 1, 1, 0, 0, 0, 1, 0, []) : zm_E) := (congrArg (fun l => l[8]?) cd_69).trans rfl
theorem c_69_9 : (zm_cd 69)[9]? = some ((15, .invokevirtual 119, 3, 43, 1, 1, 0, 0, [8]) : zm_E) := (congrArg (fun l => l[9]?) cd_69).trans rfl
theorem c_69_10 : (zm_cd 69)[10]? = some ((18, .ireturn, 1, 0, 0, 0, 0, 0, []) : zm_E) := (congrArg (fun l => l[10]?) cd_69).trans rfl
theorem c_69_11 : (zm_cd 69)[11]? = some ((19, .iconst 0, 1, 0, 0, 0, 0, 0, []) : zm_E) := (congrArg (fun l => l[11]?) cd_69).trans rfl
theorem c_69_12 : (zm_cd 69)[12]? = some ((20, .istore_n 2, 1, 2, 0, 0, 0, 0, []) : zm_E) := (congrArg (fun l => l[12]?) cd_69).trans rfl
theorem c_69_13 : (zm_cd 69)[13]? = some ((21, .aload_n 0, 1, 0, 0, 0, 0, 0, []) : zm_E) := (congrArg (fun l => l[13]?) cd_69).trans rfl
theorem c_69_14 : (zm_cd 69)[14]? = some ((22, .iload_n 2, 1, 2, 0, 0, 0, 0, []) : zm_E) := (congrArg (fun l => l[14]?) cd_69).trans rfl
theorem c_69_15 : (zm_cd 69)[15]? = some ((23, .invokevirtual 90, 3, 50, 1, 1, 0, 0, [8]) : zm_E) := (congrArg (fun l => l[15]?) cd_69).trans rfl
theorem c_69_16 : (zm_cd 69)[16]? = some ((26, .iload_n 1, 1, 1, 0, 0, 0, 0, []) : zm_E) := (congrArg (fun l => l[16]?) cd_69).trans rfl
theorem c_69_17 : (zm_cd 69)[17]? = some ((27, .if_icmp .eq 9, 3, 20, 0, 0, 0, 0, []) : zm_E) := (congrArg (fun l => l[17]?) cd_69).trans rfl
theorem c_69_18 : (zm_cd 69)[18]? = some ((30, .iinc 2 1, 3, 2, 0, 0, 1, 0, []) : zm_E) := (congrArg (fun l => l[18]?) cd_69).trans rfl
theorem c_69_19 : (zm_cd 69)[19]? = some ((33, .goto (-12), 3, 13, 0, 0, 0, 0, []) : zm_E) := (congrArg (fun l => l[19]?) cd_69).trans rfl
theorem c_69_20 : (zm_cd 69)[20]? = some ((36, .iload_n 2, 1, 2, 0, 0, 0, 0, []) : zm_E) := (congrArg (fun l => l[20]?) cd_69).trans rfl
theorem c_69_21 : (zm_cd 69)[21]? = some ((37, .ireturn, 1, 0, 0, 0, 0, 0, []) : zm_E) := (congrArg (fun l => l[21]?) cd_69).trans rfl
theorem cd_70 : zm_cd 70 = zd_70 := rfl
theorem ml_70 : zm_ml 70 = 5 := rfl
theorem ht_70 : zm_ht 70 = [] := rfl
theorem c_70_0 : (zm_cd 70)[0]? = some ((0, .aload_n 0, 1, 0, 0, 0, 0, 0, []) : zm_E) := (congrArg (fun l => l[0]?) cd_70).trans rfl
theorem c_70_1 : (zm_cd 70)[1]? = some ((1, .iconst 0, 1, 0, 0, 0, 0, 0, []) : zm_E) := (congrArg (fun l => l[1]?) cd_70).trans rfl
theorem c_70_2 : (zm_cd 70)[2]? = some ((2, .putfield 71, 3, 8, 8, 0, 0, 0, []) : zm_E) := (congrArg (fun l => l[2]?) cd_70).trans rfl
theorem c_70_3 : (zm_cd 70)[3]? = some ((5, .aload_n 0, 1, 0, 0, 0, 0, 0, []) : zm_E) := (congrArg (fun l => l[3]?) cd_70).trans rfl
theorem c_70_4 : (zm_cd 70)[4]? = some ((6, .invokevirtual 148, 3, 55, 0, 0, 0, 0, [8]) : zm_E) := (congrArg (fun l => l[4]?) cd_70).trans rfl
theorem c_70_5 : (zm_cd 70)[5]? = some ((9, .iload_n 1, 1, 1, 0, 0, 0, 0, []) : zm_E) := (congrArg (fun l => l[5]?) cd_70).trans rfl
theorem c_70_6 : (zm_cd 70)[6]? = some ((10, .i2l, 1, 0, 0, 0, 0, 0, []) : zm_E) := (congrArg (fun l => l[6]?) cd_70).trans rfl
theorem c_70_7 : (zm_cd 70)[7]? = some ((11, .lconst 0, 1, 0, 0, 0, 0, 0, []) : zm_E) := (congrArg (fun l => l[7]?) cd_70).trans rfl
theorem c_70_8 : (zm_cd 70)[8]? = some ((12, .aload_n 0, 1, 0, 0, 0, 0, 0, []) : zm_E) := (congrArg (fun l => l[8]?) cd_70).trans rfl
theorem c_70_9 : (zm_cd 70)[9]? = some ((13, .getfield 101, 3, 8, 16, 0, 0, 0, []) : zm_E) := (congrArg (fun l => l[9]?) cd_70).trans rfl
theorem c_70_10 : (zm_cd 70)[10]? = some ((16, .iconst 1, 1, 0, 0, 0, 1, 0, []) : zm_E) := (congrArg (fun l => l[10]?) cd_70).trans rfl
theorem c_70_11 : (zm_cd 70)[11]? = some ((17, .isub, 1, 0, 0, 0, 0, 0, []) : zm_E) := (congrArg (fun l => l[11]?) cd_70).trans rfl
theorem c_70_12 : (zm_cd 70)[12]? = some ((18, .i2l, 1, 0, 0, 0, 0, 0, []) : zm_E) := (congrArg (fun l => l[12]?) cd_70).trans rfl
theorem c_70_13 : (zm_cd 70)[13]? = some ((19, .invokestatic 78, 3, 40, 3, 1, 0, 0, []) : zm_E) := (congrArg (fun l => l[13]?) cd_70).trans rfl
theorem c_70_14 : (zm_cd 70)[14]? = some ((22, .ifCond .ne 9, 3, 19, 0, 0, 0, 0, []) : zm_E) := (congrArg (fun l => l[14]?) cd_70).trans rfl
theorem c_70_15 : (zm_cd 70)[15]? = some ((25, .aload_n 0, 1, 0, 0, 0, 0, 0, []) : zm_E) := (congrArg (fun l => l[15]?) cd_70).trans rfl
theorem c_70_16 : (zm_cd 70)[16]? = some ((26, .iconst 1, 1, 0, 0, 0, 1, 0, []) : zm_E) := (congrArg (fun l => l[16]?) cd_70).trans rfl
theorem c_70_17 : (zm_cd 70)[17]? = some ((27, .invokevirtual 119, 3, 43, 1, 1, 0, 0, [8]) : zm_E) := (congrArg (fun l => l[17]?) cd_70).trans rfl
theorem c_70_18 : (zm_cd 70)[18]? = some ((30, .ireturn, 1, 0, 0, 0, 0, 0, []) : zm_E) := (congrArg (fun l => l[18]?) cd_70).trans rfl
theorem c_70_19 : (zm_cd 70)[19]? = some ((31, .iload_n 2, 1, 2, 0, 0, 0, 0, []) : zm_E) := (congrArg (fun l => l[19]?) cd_70).trans rfl
theorem c_70_20 : (zm_cd 70)[20]? = some ((32, .i2l, 1, 0, 0, 0, 0, 0, []) : zm_E) := (congrArg (fun l => l[20]?) cd_70).trans rfl
theorem c_70_21 : (zm_cd 70)[21]? = some ((33, .lconst 0, 1, 0, 0, 0, 0, 0, []) : zm_E) := (congrArg (fun l => l[21]?) cd_70).trans rfl
theorem c_70_22 : (zm_cd 70)[22]? = some ((34, .ldc2_w 160, 3, 0, 0, 0, 0, 3, []) : zm_E) := (congrArg (fun l => l[22]?) cd_70).trans rfl
theorem c_70_23 : (zm_cd 70)[23]? = some ((37, .invokestatic 78, 3, 40, 3, 1, 0, 0, []) : zm_E) := (congrArg (fun l => l[23]?) cd_70).trans rfl
theorem c_70_24 : (zm_cd 70)[24]? = some ((40, .ifCond .ne 9, 3, 29, 0, 0, 0, 0, []) : zm_E) := (congrArg (fun l => l[24]?) cd_70).trans rfl
theorem c_70_25 : (zm_cd 70)[25]? = some ((43, .aload_n 0, 1, 0, 0, 0, 0, 0, []) : zm_E) := (congrArg (fun l => l[25]?) cd_70).trans rfl
theorem c_70_26 : (zm_cd 70)[26]? = some ((44, .iconst 2, 1, 0, 0, 0, 2, 0, []) : zm_E) := (congrArg (fun l => l[26]?) cd_70).trans rfl
theorem c_70_27 : (zm_cd 70)[27]? = some ((45, .invokevirtual 119, 3, 43, 1, 1, 0, 0, [8]) : zm_E) := (congrArg (fun l => l[27]?) cd_70).trans rfl
theorem c_70_28 : (zm_cd 70)[28]? = some ((48, .ireturn, 1, 0, 0, 0, 0, 0, []) : zm_E) := (congrArg (fun l => l[28]?) cd_70).trans rfl
theorem c_70_29 : (zm_cd 70)[29]? = some ((49, .iconst 0, 1, 0, 0, 0, 0, 0, []) : zm_E) := (congrArg (fun l => l[29]?) cd_70).trans rfl
theorem c_70_30 : (zm_cd 70)[30]? = some ((50, .istore_n 3, 1, 3, 0, 0, 0, 0, []) : zm_E) := (congrArg (fun l => l[30]?) cd_70).trans rfl
theorem c_70_31 : (zm_cd 70)[31]? = some ((51, .iconst 0, 1, 0, 0, 0, 0, 0, []) : zm_E) := (congrArg (fun l => l[31]?) cd_70).trans rfl
theorem c_70_32 : (zm_cd 70)[32]? = some ((52, .istore 4, 2, 4, 0, 0, 0, 0, []) : zm_E) := (congrArg (fun l => l[32]?) cd_70).trans rfl
theorem c_70_33 : (zm_cd 70)[33]? = some ((54, .iload 4, 2, 4, 0, 0, 0, 0, []) : zm_E) := (congrArg (fun l => l[33]?) cd_70).trans rfl
theorem c_70_34 : (zm_cd 70)[34]? = some ((56, .aload_n 0, 1, 0, 0, 0, 0, 0, []) : zm_E) := (congrArg (fun l => l[34]?) cd_70).trans rfl
theorem c_70_35 : (zm_cd 70)[35]? = some ((57, .getfield 7, 3, 8, 0, 1, 0, 0, []) : zm_E) := (congrArg (fun l => l[35]?) cd_70).trans rfl
theorem c_70_36 : (zm_cd 70)[36]? = some ((60, .iconst 0, 1, 0, 0, 0, 0, 0, []) : zm_E) := (congrArg (fun l => l[36]?) cd_70).trans rfl
theorem c_70_37 : (zm_cd 70)[37]? = some ((61, .iaload, 1, 0, 0, 0, 0, 0, []) : zm_E) := (congrArg (fun l => l[37]?) cd_70).trans rfl
theorem c_70_38 : (zm_cd 70)[38]? = some ((62, .if_icmp .ge 56, 3, 67, 0, 0, 0, 0, []) : zm_E) := (congrArg (fun l => l[38]?) cd_70).trans rfl
theorem c_70_39 : (zm_cd 70)[39]? = some ((65, .iload_n 3, 1, 3, 0, 0, 0, 0, []) : zm_E) := (congrArg (fun l => l[39]?) cd_70).trans rfl
theorem c_70_40 : (zm_cd 70)[40]? = some ((66, .aload_n 0, 1, 0, 0, 0, 0, 0, []) : zm_E) := (congrArg (fun l => l[40]?) cd_70).trans rfl
theorem c_70_41 : (zm_cd 70)[41]? = some ((67, .getfield 44, 3, 8, 14, 1, 0, 0, []) : zm_E) := (congrArg (fun l => l[41]?) cd_70).trans rfl
theorem c_70_42 : (zm_cd 70)[42]? = some ((70, .iload_n 1, 1, 1, 0, 0, 0, 0, []) : zm_E) := (congrArg (fun l => l[42]?) cd_70).trans rfl
theorem c_70_43 : (zm_cd 70)[43]? = some ((71, .iaload, 1, 0, 0, 0, 0, 0, []) : zm_E) := (congrArg (fun l => l[43]?) cd_70).trans rfl
theorem c_70_44 : (zm_cd 70)[44]? = some ((72, .iload 4, 2, 4, 0, 0, 0, 0, []) : zm_E) := (congrArg (fun l => l[44]?) cd_70).trans rfl
theorem c_70_45 : (zm_cd 70)[45]? = some ((74, .invokestatic 82, 3, 41, 2, 1, 0, 0, []) : zm_E) := (congrArg (fun l => l[45]?) cd_70).trans rfl
theorem c_70_46 : (zm_cd 70)[46]? = some ((77, .ifCond .eq 32, 3, 62, 0, 0, 0, 0, []) : zm_E) := (congrArg (fun l => l[46]?) cd_70).trans rfl
theorem c_70_47 : (zm_cd 70)[47]? = some ((80, .aload_n 0, 1, 0, 0, 0, 0, 0, []) : zm_E) := (congrArg (fun l => l[47]?) cd_70).trans rfl
theorem c_70_48 : (zm_cd 70)[48]? = some ((81, .iload 4, 2, 4, 0, 0, 0, 0, []) : zm_E) := (congrArg (fun l => l[48]?) cd_70).trans rfl
theorem c_70_49 : (zm_cd 70)[49]? = some ((83, .aload_n 0, 1, 0, 0, 0, 0, 0, []) : zm_E) := (congrArg (fun l => l[49]?) cd_70).trans rfl
theorem c_70_50 : (zm_cd 70)[50]? = some ((84, .iload 4, 2, 4, 0, 0, 0, 0, []) : zm_E) := (congrArg (fun l => l[50]?) cd_70).trans rfl
theorem c_70_51 : (zm_cd 70)[51]? = some ((86, .invokevirtual 90, 3, 50, 1, 1, 0, 0, [8]) : zm_E) := (congrArg (fun l => l[51]?) cd_70).trans rfl
theorem c_70_52 : (zm_cd 70)[52]? = some ((89, .invokevirtual 93, 3, 49, 2, 1, 0, 0, [8]) : zm_E) := (congrArg (fun l => l[52]?) cd_70).trans rfl
theorem c_70_53 : (zm_cd 70)[53]? = some ((92, .aload_n 0, 1, 0, 0, 0, 0, 0, []) : zm_E) := (congrArg (fun l => l[53]?) cd_70).trans rfl
theorem c_70_54 : (zm_cd 70)[54]? = some ((93, .iload 4, 2, 4, 0, 0, 0, 0, []) : zm_E) := (congrArg (fun l => l[54]?) cd_70).trans rfl
theorem c_70_55 : (zm_cd 70)[55]? = some ((95, .aload_n 0, 1, 0, 0, 0, 0, 0, []) : zm_E) := (congrArg (fun l => l[55]?) cd_70).trans rfl
theorem c_70_56 : (zm_cd 70)[56]? = some ((96, .getfield 29, 3, 8, 9, 1, 0, 0, []) : zm_E) := (congrArg (fun l => l[56]?) cd_70).trans rfl
theorem c_70_57 : (zm_cd 70)[57]? = some ((99, .iload 4, 2, 4, 0, 0, 0, 0, []) : zm_E) := (congrArg (fun l => l[57]?) cd_70).trans rfl
theorem c_70_58 : (zm_cd 70)[58]? = some ((101, .iaload, 1, 0, 0, 0, 0, 0, []) : zm_E) := (congrArg (fun l => l[58]?) cd_70).trans rfl
theorem c_70_59 : (zm_cd 70)[59]? = some ((102, .invokevirtual 93, 3, 49, 2, 1, 0, 0, [8]) : zm_E) := (congrArg (fun l => l[59]?) cd_70).trans rfl
theorem c_70_60 : (zm_cd 70)[60]? = some ((105, .isub, 1, 0, 0, 0, 0, 0, []) : zm_E) := (congrArg (fun l => l[60]?) cd_70).trans rfl
theorem c_70_61 : (zm_cd 70)[61]? = some ((106, .goto 4, 3, 63, 0, 0, 0, 0, []) : zm_E) := (congrArg (fun l => l[61]?) cd_70).trans rfl
theorem c_70_62 : (zm_cd 70)[62]? = some ((109, .iconst 0, 1, 0, 0, 0, 0, 0, []) : zm_E) := (congrArg (fun l => l[62]?) cd_70).trans rfl
theorem c_70_63 : (zm_cd 70)[63]? = some ((110, .iadd, 1, 0, 0, 0, 0, 0, []) : zm_E) := (congrArg (fun l => l[63]?) cd_70).trans rfl
theorem c_70_64 : (zm_cd 70)[64]? = some ((111, .istore_n 3, 1, 3, 0, 0, 0, 0, []) : zm_E) := (congrArg (fun l => l[64]?) cd_70).trans rfl
theorem c_70_65 : (zm_cd 70)[65]? = some ((112, .iinc 4 1, 3, 4, 0, 0, 1, 0, []) : zm_E) := (congrArg (fun l => l[65]?) cd_70).trans rfl
theorem c_70_66 : (zm_cd 70)[66]? = some ((115, .goto (-61), 3, 33, 0, 0, 0, 0, []) : zm_E) := (congrArg (fun l => l[66]?) cd_70).trans rfl
theorem c_70_67 : (zm_cd 70)[67]? = some ((118, .iload_n 2, 1, 2, 0, 0, 0, 0, []) : zm_E) := (congrArg (fun l => l[67]?) cd_70).trans rfl
theorem c_70_68 : (zm_cd 70)[68]? = some ((119, .ifCond .ne 12, 3, 74, 0, 0, 0, 0, []) : zm_E) := (congrArg (fun l => l[68]?) cd_70).trans rfl
theorem c_70_69 : (zm_cd 70)[69]? = some ((122, .aload_n 0, 1, 0, 0, 0, 0, 0, []) : zm_E) := (congrArg (fun l => l[69]?) cd_70).trans rfl
theorem c_70_70 : (zm_cd 70)[70]? = some ((123, .getfield 44, 3, 8, 14, 1, 0, 0, []) : zm_E) := (congrArg (fun l => l[70]?) cd_70).trans rfl
theorem c_70_71 : (zm_cd 70)[71]? = some ((126, .iload_n 1, 1, 1, 0, 0, 0, 0, []) : zm_E) := (congrArg (fun l => l[71]?) cd_70).trans rfl
theorem c_70_72 : (zm_cd 70)[72]? = some ((127, .iaload, 1, 0, 0, 0, 0, 0, []) : zm_E) := (congrArg (fun l => l[72]?) cd_70).trans rfl
theorem c_70_73 : (zm_cd 70)[73]? = some ((128, .goto 35, 3, 92, 0, 0, 0, 0, []) : zm_E) := (congrArg (fun l => l[73]?) cd_70).trans rfl
theorem c_70_74 : (zm_cd 70)[74]? = some ((131, .iload_n 2, 1, 2, 0, 0, 0, 0, []) : zm_E) := (congrArg (fun l => l[74]?) cd_70).trans rfl
theorem c_70_75 : (zm_cd 70)[75]? = some ((132, .iconst 1, 1, 0, 0, 0, 1, 0, []) : zm_E) := (congrArg (fun l => l[75]?) cd_70).trans rfl
theorem c_70_76 : (zm_cd 70)[76]? = some ((133, .if_icmp .ne 15, 3, 83, 0, 0, 0, 0, []) : zm_E) := (congrArg (fun l => l[76]?) cd_70).trans rfl
theorem c_70_77 : (zm_cd 70)[77]? = some ((136, .aload_n 0, 1, 0, 0, 0, 0, 0, []) : zm_E) := (congrArg (fun l => l[77]?) cd_70).trans rfl
theorem c_70_78 : (zm_cd 70)[78]? = some ((137, .getfield 44, 3, 8, 14, 1, 0, 0, []) : zm_E) := (congrArg (fun l => l[78]?) cd_70).trans rfl
theorem c_70_79 : (zm_cd 70)[79]? = some ((140, .iload_n 1, 1, 1, 0, 0, 0, 0, []) : zm_E) := (congrArg (fun l => l[79]?) cd_70).trans rfl
theorem c_70_80 : (zm_cd 70)[80]? = some ((141, .iaload, 1, 0, 0, 0, 0, 0, []) : zm_E) := (congrArg (fun l => l[80]?) cd_70).trans rfl
theorem c_70_81 : (zm_cd 70)[81]? = some ((142, .invokestatic 86, 3, 42, 1, 1, 0, 0, []) : zm_E) := (congrArg (fun l => l[81]?) cd_70).trans rfl
theorem c_70_82 : (zm_cd 70)[82]? = some ((145, .goto 18, 3, 92, 0, 0, 0, 0, []) : zm_E) := (congrArg (fun l => l[82]?) cd_70).trans rfl
theorem c_70_83 : (zm_cd 70)[83]? = some ((148, .iload_n 2, 1, 2, 0, 0, 0, 0, []) : zm_E) := (congrArg (fun l => l[83]?) cd_70).trans rfl
theorem c_70_84 : (zm_cd 70)[84]? = some ((149, .iconst 2, 1, 0, 0, 0, 2, 0, []) : zm_E) := (congrArg (fun l => l[84]?) cd_70).trans rfl
theorem c_70_85 : (zm_cd 70)[85]? = some ((150, .if_icmp .ne 12, 3, 91, 0, 0, 0, 0, []) : zm_E) := (congrArg (fun l => l[85]?) cd_70).trans rfl
theorem c_70_86 : (zm_cd 70)[86]? = some ((153, .aload_n 0, 1, 0, 0, 0, 0, 0, []) : zm_E) := (congrArg (fun l => l[86]?) cd_70).trans rfl
theorem c_70_87 : (zm_cd 70)[87]? = some ((154, .getfield 47, 3, 8, 15, 1, 0, 0, []) : zm_E) := (congrArg (fun l => l[87]?) cd_70).trans rfl
theorem c_70_88 : (zm_cd 70)[88]? = some ((157, .iload_n 1, 1, 1, 0, 0, 0, 0, []) : zm_E) := (congrArg (fun l => l[88]?) cd_70).trans rfl
theorem c_70_89 : (zm_cd 70)[89]? = some ((158, .iaload, 1, 0, 0, 0, 0, 0, []) : zm_E) := (congrArg (fun l => l[89]?) cd_70).trans rfl
theorem c_70_90 : (zm_cd 70)[90]? = some ((159, .goto 4, 3, 92, 0, 0, 0, 0, []) : zm_E) := (congrArg (fun l => l[90]?) cd_70).trans rfl
theorem c_70_91 : (zm_cd 70)[91]? = some ((162, .iload_n 3, 1, 3, 0, 0, 0, 0, []) : zm_E) := (congrArg (fun l => l[91]?) cd_70).trans rfl
theorem c_70_92 : (zm_cd 70)[92]? = some ((163, .ireturn, 1, 0, 0, 0, 0, 0, []) : zm_E) := (congrArg (fun l => l[92]?) cd_70).trans rfl
theorem cd_71 : zm_cd 71 = zd_71 := rfl
theorem ml_71 : zm_ml 71 = 5 := rfl
theorem ht_71 : zm_ht 71 = [] := rfl
theorem c_71_0 : (zm_cd 71)[0]? = some ((0, .iload_n 1, 1, 1, 0, 0, 0, 0, []) : zm_E) := (congrArg (fun l => l[0]?) cd_71).trans rfl
theorem c_71_1 : (zm_cd 71)[1]? = some ((1, .iload_n 2, 1, 2, 0, 0, 0, 0, []) : zm_E) := (congrArg (fun l => l[1]?) cd_71).trans rfl
theorem c_71_2 : (zm_cd 71)[2]? = some ((2, .if_icmp .eq 11, 3, 7, 0, 0, 0, 0, []) : zm_E) := (congrArg (fun l => l[2]?) cd_71).trans rfl
theorem c_71_3 : (zm_cd 71)[3]? = some ((5, .aload_n 0, 1, 0, 0, 0, 0, 0, []) : zm_E) := (congrArg (fun l => l[3]?) cd_71).trans rfl
theorem c_71_4 : (zm_cd 71)[4]? = some ((6, .iload_n 1, 1, 1, 0, 0, 0, 0, []) : zm_E) := (congrArg (fun l => l[4]?) cd_71).trans rfl
theorem c_71_5 : (zm_cd 71)[5]? = some ((7, .invokevirtual 97, 3, 48, 1, 1, 0, 0, [8]) : zm_E) := (congrArg (fun l => l[5]?) cd_71).trans rfl
theorem c_71_6 : (zm_cd 71)[6]? = some ((10, .ifCond .ne 14, 3, 14, 0, 0, 0, 0, []) : zm_E) := (congrArg (fun l => l[6]?) cd_71).trans rfl
theorem c_71_7 : (zm_cd 71)[7]? = some ((13, .iload_n 1, 1, 1, 0, 0, 0, 0, []) : zm_E) := (congrArg (fun l => l[7]?) cd_71).trans rfl
theorem c_71_8 : (zm_cd 71)[8]? = some ((14, .iload_n 2, 1, 2, 0, 0, 0, 0, []) : zm_E) := (congrArg (fun l => l[8]?) cd_71).trans rfl
theorem c_71_9 : (zm_cd 71)[9]? = some ((15, .if_icmp .ne 7, 3, 12, 0, 0, 0, 0, []) : zm_E) := (congrArg (fun l => l[9]?) cd_71).trans rfl
theorem c_71_10 : (zm_cd 71)[10]? = some ((18, .iconst 1, 1, 0, 0, 0, 1, 0, []) : zm_E) := (congrArg (fun l => l[10]?) cd_71).trans rfl
theorem c_71_11 : (zm_cd 71)[11]? = some ((19, .goto 4, 3, 13, 0, 0, 0, 0, []) : zm_E) := (congrArg (fun l => l[11]?) cd_71).trans rfl
theorem c_71_12 : (zm_cd 71)[12]? = some ((22, .iconst 2, 1, 0, 0, 0, 2, 0, []) : zm_E) := (congrArg (fun l => l[12]?) cd_71).trans rfl
theorem c_71_13 : (zm_cd 71)[13]? = some ((23, .ireturn, 1, 0, 0, 0, 0, 0, []) : zm_E) := (congrArg (fun l => l[13]?) cd_71).trans rfl
theorem c_71_14 : (zm_cd 71)[14]? = some ((24, .aload_n 0, 1, 0, 0, 0, 0, 0, []) : zm_E) := (congrArg (fun l => l[14]?) cd_71).trans rfl
theorem c_71_15 : (zm_cd 71)[15]? = some ((25, .iload_n 2, 1, 2, 0, 0, 0, 0, []) : zm_E) := (congrArg (fun l => l[15]?) cd_71).trans rfl
theorem c_71_16 : (zm_cd 71)[16]? = some ((26, .invokevirtual 97, 3, 48, 1, 1, 0, 0, [8]) : zm_E) := (congrArg (fun l => l[16]?) cd_71).trans rfl
theorem c_71_17 : (zm_cd 71)[17]? = some ((29, .ifCond .ne 5, 3, 20, 0, 0, 0, 0, []) : zm_E) := (congrArg (fun l => l[17]?) cd_71).trans rfl
theorem c_71_18 : (zm_cd 71)[18]? = some ((32, .iconst 3, 1, 0, 0, 0, 3, 0, []) : zm_E) := (congrArg (fun l => l[18]?) cd_71).trans rfl
theorem c_71_19 : (zm_cd 71)[19]? = some ((33, .ireturn, 1, 0, 0, 0, 0, 0, []) : zm_E) := (congrArg (fun l => l[19]?) cd_71).trans rfl
theorem c_71_20 : (zm_cd 71)[20]? = some ((34, .aload_n 0, 1, 0, 0, 0, 0, 0, []) : zm_E) := (congrArg (fun l => l[20]?) cd_71).trans rfl
theorem c_71_21 : (zm_cd 71)[21]? = some ((35, .iload_n 1, 1, 1, 0, 0, 0, 0, []) : zm_E) := (congrArg (fun l => l[21]?) cd_71).trans rfl
theorem c_71_22 : (zm_cd 71)[22]? = some ((36, .aload_n 0, 1, 0, 0, 0, 0, 0, []) : zm_E) := (congrArg (fun l => l[22]?) cd_71).trans rfl
theorem c_71_23 : (zm_cd 71)[23]? = some ((37, .iload_n 2, 1, 2, 0, 0, 0, 0, []) : zm_E) := (congrArg (fun l => l[23]?) cd_71).trans rfl
theorem c_71_24 : (zm_cd 71)[24]? = some ((38, .invokevirtual 90, 3, 50, 1, 1, 0, 0, [8]) : zm_E) := (congrArg (fun l => l[24]?) cd_71).trans rfl
theorem c_71_25 : (zm_cd 71)[25]? = some ((41, .invokevirtual 93, 3, 49, 2, 1, 0, 0, [8]) : zm_E) := (congrArg (fun l => l[25]?) cd_71).trans rfl
theorem c_71_26 : (zm_cd 71)[26]? = some ((44, .aload_n 0, 1, 0, 0, 0, 0, 0, []) : zm_E) := (congrArg (fun l => l[26]?) cd_71).trans rfl
theorem c_71_27 : (zm_cd 71)[27]? = some ((45, .iload_n 1, 1, 1, 0, 0, 0, 0, []) : zm_E) := (congrArg (fun l => l[27]?) cd_71).trans rfl
theorem c_71_28 : (zm_cd 71)[28]? = some ((46, .aload_n 0, 1, 0, 0, 0, 0, 0, []) : zm_E) := (congrArg (fun l => l[28]?) cd_71).trans rfl
theorem c_71_29 : (zm_cd 71)[29]? = some ((47, .iload_n 1, 1, 1, 0, 0, 0, 0, []) : zm_E) := (congrArg (fun l => l[29]?) cd_71).trans rfl
theorem c_71_30 : (zm_cd 71)[30]? = some ((48, .invokevirtual 90, 3, 50, 1, 1, 0, 0, [8]) : zm_E) := (congrArg (fun l => l[30]?) cd_71).trans rfl
theorem c_71_31 : (zm_cd 71)[31]? = some ((51, .invokevirtual 93, 3, 49, 2, 1, 0, 0, [8]) : zm_E) := (congrArg (fun l => l[31]?) cd_71).trans rfl
theorem c_71_32 : (zm_cd 71)[32]? = some ((54, .isub, 1, 0, 0, 0, 0, 0, []) : zm_E) := (congrArg (fun l => l[32]?) cd_71).trans rfl
theorem c_71_33 : (zm_cd 71)[33]? = some ((55, .istore_n 3, 1, 3, 0, 0, 0, 0, []) : zm_E) := (congrArg (fun l => l[33]?) cd_71).trans rfl
theorem c_71_34 : (zm_cd 71)[34]? = some ((56, .aload_n 0, 1, 0, 0, 0, 0, 0, []) : zm_E) := (congrArg (fun l => l[34]?) cd_71).trans rfl
theorem c_71_35 : (zm_cd 71)[35]? = some ((57, .iload_n 2, 1, 2, 0, 0, 0, 0, []) : zm_E) := (congrArg (fun l => l[35]?) cd_71).trans rfl
theorem c_71_36 : (zm_cd 71)[36]? = some ((58, .aload_n 0, 1, 0, 0, 0, 0, 0, []) : zm_E) := (congrArg (fun l => l[36]?) cd_71).trans rfl
theorem c_71_37 : (zm_cd 71)[37]? = some ((59, .iload_n 1, 1, 1, 0, 0, 0, 0, []) : zm_E) := (congrArg (fun l => l[37]?) cd_71).trans rfl
theorem c_71_38 : (zm_cd 71)[38]? = some ((60, .invokevirtual 90, 3, 50, 1, 1, 0, 0, [8]) : zm_E) := (congrArg (fun l => l[38]?) cd_71).trans rfl
theorem c_71_39 : (zm_cd 71)[39]? = some ((63, .invokevirtual 93, 3, 49, 2, 1, 0, 0, [8]) : zm_E) := (congrArg (fun l => l[39]?) cd_71).trans rfl
theorem c_71_40 : (zm_cd 71)[40]? = some ((66, .aload_n 0, 1, 0, 0, 0, 0, 0, []) : zm_E) := (congrArg (fun l => l[40]?) cd_71).trans rfl
theorem c_71_41 : (zm_cd 71)[41]? = some ((67, .iload_n 2, 1, 2, 0, 0, 0, 0, []) : zm_E) := (congrArg (fun l => l[41]?) cd_71).trans rfl
theorem c_71_42 : (zm_cd 71)[42]? = some ((68, .aload_n 0, 1, 0, 0, 0, 0, 0, []) : zm_E) := (congrArg (fun l => l[42]?) cd_71).trans rfl
theorem c_71_43 : (zm_cd 71)[43]? = some ((69, .iload_n 2, 1, 2, 0, 0, 0, 0, []) : zm_E) := (congrArg (fun l => l[43]?) cd_71).trans rfl
theorem c_71_44 : (zm_cd 71)[44]? = some ((70, .invokevirtual 90, 3, 50, 1, 1, 0, 0, [8]) : zm_E) := (congrArg (fun l => l[44]?) cd_71).trans rfl
theorem c_71_45 : (zm_cd 71)[45]? = some ((73, .invokevirtual 93, 3, 49, 2, 1, 0, 0, [8]) : zm_E) := (congrArg (fun l => l[45]?) cd_71).trans rfl
theorem c_71_46 : (zm_cd 71)[46]? = some ((76, .isub, 1, 0, 0, 0, 0, 0, []) : zm_E) := (congrArg (fun l => l[46]?) cd_71).trans rfl
theorem c_71_47 : (zm_cd 71)[47]? = some ((77, .istore 4, 2, 4, 0, 0, 0, 0, []) : zm_E) := (congrArg (fun l => l[47]?) cd_71).trans rfl
theorem c_71_48 : (zm_cd 71)[48]? = some ((79, .iload_n 3, 1, 3, 0, 0, 0, 0, []) : zm_E) := (congrArg (fun l => l[48]?) cd_71).trans rfl
theorem c_71_49 : (zm_cd 71)[49]? = some ((80, .ifCond .le 7, 3, 52, 0, 0, 0, 0, []) : zm_E) := (congrArg (fun l => l[49]?) cd_71).trans rfl
theorem c_71_50 : (zm_cd 71)[50]? = some ((83, .iconst 4, 1, 0, 0, 0, 4, 0, []) : zm_E) := (congrArg (fun l => l[50]?) cd_71).trans rfl
theorem c_71_51 : (zm_cd 71)[51]? = some ((84, .goto 27, 3, 63, 0, 0, 0, 0, []) : zm_E) := (congrArg (fun l => l[51]?) cd_71).trans rfl
theorem c_71_52 : (zm_cd 71)[52]? = some ((87, .iload 4, 2, 4, 0, 0, 0, 0, []) : zm_E) := (congrArg (fun l => l[52]?) cd_71).trans rfl
theorem c_71_53 : (zm_cd 71)[53]? = some ((89, .ifCond .le 7, 3, 56, 0, 0, 0, 0, []) : zm_E) := (congrArg (fun l => l[53]?) cd_71).trans rfl
theorem c_71_54 : (zm_cd 71)[54]? = some ((92, .iconst 5, 1, 0, 0, 0, 5, 0, []) : zm_E) := (congrArg (fun l => l[54]?) cd_71).trans rfl
theorem c_71_55 : (zm_cd 71)[55]? = some ((93, .goto 18, 3, 63, 0, 0, 0, 0, []) : zm_E) := (congrArg (fun l => l[55]?) cd_71).trans rfl
theorem c_71_56 : (zm_cd 71)[56]? = some ((96, .iload_n 3, 1, 3, 0, 0, 0, 0, []) : zm_E) := (congrArg (fun l => l[56]?) cd_71).trans rfl
theorem c_71_57 : (zm_cd 71)[57]? = some ((97, .ifCond .ne 13, 3, 62, 0, 0, 0, 0, []) : zm_E) := (congrArg (fun l => l[57]?) cd_71).trans rfl
theorem c_71_58 : (zm_cd 71)[58]? = some ((100, .iload 4, 2, 4, 0, 0, 0, 0, []) : zm_E) := (congrArg (fun l => l[58]?) cd_71).trans rfl
theorem c_71_59 : (zm_cd 71)[59]? = some ((102, .ifCond .ne 8, 3, 62, 0, 0, 0, 0, []) : zm_E) := (congrArg (fun l => l[59]?) cd_71).trans rfl
theorem c_71_60 : (zm_cd 71)[60]? = some ((105, .bipush 6, 2, 0, 0, 0, 6, 0, []) : zm_E) := (congrArg (fun l => l[60]?) cd_71).trans rfl
theorem c_71_61 : (zm_cd 71)[61]? = some ((107, .goto 4, 3, 63, 0, 0, 0, 0, []) : zm_E) := (congrArg (fun l => l[61]?) cd_71).trans rfl
theorem c_71_62 : (zm_cd 71)[62]? = some ((110, .iconst 0, 1, 0, 0, 0, 0, 0, []) : zm_E) := (congrArg (fun l => l[62]?) cd_71).trans rfl
theorem c_71_63 : (zm_cd 71)[63]? = some ((111, .ireturn, 1, 0, 0, 0, 0, 0, []) : zm_E) := (congrArg (fun l => l[63]?) cd_71).trans rfl
theorem cd_72 : zm_cd 72 = zd_72 := rfl
theorem ml_72 : zm_ml 72 = 3 := rfl
theorem ht_72 : zm_ht 72 = [] := rfl
theorem c_72_0 : (zm_cd 72)[0]? = some ((0, .aload_n 0, 1, 0, 0, 0, 0, 0, []) : zm_E) := (congrArg (fun l => l[0]?) cd_72).trans rfl
theorem c_72_1 : (zm_cd 72)[1]? = some ((1, .iconst 0, 1, 0, 0, 0, 0, 0, []) : zm_E) := (congrArg (fun l => l[1]?) cd_72).trans rfl
theorem c_72_2 : (zm_cd 72)[2]? = some ((2, .putfield 71, 3, 8, 8, 0, 0, 0, []) : zm_E) := (congrArg (fun l => l[2]?) cd_72).trans rfl
theorem c_72_3 : (zm_cd 72)[3]? = some ((5, .aload_n 0, 1, 0, 0, 0, 0, 0, []) : zm_E) := (congrArg (fun l => l[3]?) cd_72).trans rfl
theorem c_72_4 : (zm_cd 72)[4]? = some ((6, .iload_n 1, 1, 1, 0, 0, 0, 0, []) : zm_E) := (congrArg (fun l => l[4]?) cd_72).trans rfl
theorem c_72_5 : (zm_cd 72)[5]? = some ((7, .invokevirtual 157, 3, 47, 1, 1, 0, 0, [8]) : zm_E) := (congrArg (fun l => l[5]?) cd_72).trans rfl
theorem c_72_6 : (zm_cd 72)[6]? = some ((10, .ifCond .eq 20, 3, 16, 0, 0, 0, 0, []) : zm_E) := (congrArg (fun l => l[6]?) cd_72).trans rfl
theorem c_72_7 : (zm_cd 72)[7]? = some ((13, .aload_n 0, 1, 0, 0, 0, 0, 0, []) : zm_E) := (congrArg (fun l => l[7]?) cd_72).trans rfl
theorem c_72_8 : (zm_cd 72)[8]? = some ((14, .iload_n 2, 1, 2, 0, 0, 0, 0, []) : zm_E) := (congrArg (fun l => l[8]?) cd_72).trans rfl
theorem c_72_9 : (zm_cd 72)[9]? = some ((15, .invokevirtual 157, 3, 47, 1, 1, 0, 0, [8]) : zm_E) := (congrArg (fun l => l[9]?) cd_72).trans rfl
theorem c_72_10 : (zm_cd 72)[10]? = some ((18, .ifCond .eq 12, 3, 16, 0, 0, 0, 0, []) : zm_E) := (congrArg (fun l => l[10]?) cd_72).trans rfl
theorem c_72_11 : (zm_cd 72)[11]? = some ((21, .aload_n 0, 1, 0, 0, 0, 0, 0, []) : zm_E) := (congrArg (fun l => l[11]?) cd_72).trans rfl
theorem c_72_12 : (zm_cd 72)[12]? = some ((22, .iload_n 1, 1, 1, 0, 0, 0, 0, []) : zm_E) := (congrArg (fun l => l[12]?) cd_72).trans rfl
theorem c_72_13 : (zm_cd 72)[13]? = some ((23, .iload_n 2, 1, 2, 0, 0, 0, 0, []) : zm_E) := (congrArg (fun l => l[13]?) cd_72).trans rfl
theorem c_72_14 : (zm_cd 72)[14]? = some ((24, .invokevirtual 162, 3, 71, 2, 1, 0, 0, [8]) : zm_E) := (congrArg (fun l => l[14]?) cd_72).trans rfl
theorem c_72_15 : (zm_cd 72)[15]? = some ((27, .goto 8, 3, 19, 0, 0, 0, 0, []) : zm_E) := (congrArg (fun l => l[15]?) cd_72).trans rfl
theorem c_72_16 : (zm_cd 72)[16]? = some ((30, .aload_n 0, 1, 0, 0, 0, 0, 0, []) : zm_E) := (congrArg (fun l => l[16]?) cd_72).trans rfl
theorem c_72_17 : (zm_cd 72)[17]? = some ((31, .iconst 1, 1, 0, 0, 0, 1, 0, []) : zm_E) := (congrArg (fun l => l[17]?) cd_72).trans rfl
theorem c_72_18 : (zm_cd 72)[18]? = some ((32, .invokevirtual 119, 3, 43, 1, 1, 0, 0, [8]) : zm_E) := (congrArg (fun l => l[18]?) cd_72).trans rfl
theorem c_72_19 : (zm_cd 72)[19]? = some ((35, .ireturn, 1, 0, 0, 0, 0, 0, []) : zm_E) := (congrArg (fun l => l[19]?) cd_72).trans rfl
theorem cd_73 : zm_cd 73 = zd_73 := rfl
theorem ml_73 : zm_ml 73 = 3 := rfl
theorem ht_73 : zm_ht 73 = [] := rfl
theorem c_73_0 : (zm_cd 73)[0]? = some ((0, .aload_n 0, 1, 0, 0, 0, 0, 0, []) : zm_E) := (congrArg (fun l => l[0]?) cd_73).trans rfl
theorem c_73_1 : (zm_cd 73)[1]? = some ((1, .iconst 0, 1, 0, 0, 0, 0, 0, []) : zm_E) := (congrArg (fun l => l[1]?) cd_73).trans rfl
theorem c_73_2 : (zm_cd 73)[2]? = some ((2, .putfield 71, 3, 8, 8, 0, 0, 0, []) : zm_E) := (congrArg (fun l => l[2]?) cd_73).trans rfl
theorem c_73_3 : (zm_cd 73)[3]? = some ((5, .aload_n 0, 1, 0, 0, 0, 0, 0, []) : zm_E) := (congrArg (fun l => l[3]?) cd_73).trans rfl
theorem c_73_4 : (zm_cd 73)[4]? = some ((6, .getfield 7, 3, 8, 0, 1, 0, 0, []) : zm_E) := (congrArg (fun l => l[4]?) cd_73).trans rfl
theorem c_73_5 : (zm_cd 73)[5]? = some ((9, .iconst 0, 1, 0, 0, 0, 0, 0, []) : zm_E) := (congrArg (fun l => l[5]?) cd_73).trans rfl
theorem c_73_6 : (zm_cd 73)[6]? = some ((10, .iaload, 1, 0, 0, 0, 0, 0, []) : zm_E) := (congrArg (fun l => l[6]?) cd_73).trans rfl
theorem c_73_7 : (zm_cd 73)[7]? = some ((11, .istore_n 1, 1, 1, 0, 0, 0, 0, []) : zm_E) := (congrArg (fun l => l[7]?) cd_73).trans rfl
theorem c_73_8 : (zm_cd 73)[8]? = some ((12, .iload_n 1, 1, 1, 0, 0, 0, 0, []) : zm_E) := (congrArg (fun l => l[8]?) cd_73).trans rfl
theorem c_73_9 : (zm_cd 73)[9]? = some ((13, .bipush 7, 2, 0, 0, 0, 7, 0, []) : zm_E) := (congrArg (fun l => l[9]?) cd_73).trans rfl
theorem c_73_10 : (zm_cd 73)[10]? = some ((15, .if_icmp .ne 9, 3, 15, 0, 0, 0, 0, []) : zm_E) := (congrArg (fun l => l[10]?) cd_73).trans rfl
theorem c_73_11 : (zm_cd 73)[11]? = some ((18, .aload_n 0, 1, 0, 0, 0, 0, 0, []) : zm_E) := (congrArg (fun l => l[11]?) cd_73).trans rfl
theorem c_73_12 : (zm_cd 73)[12]? = some ((19, .iconst 1, 1, 0, 0, 0, 1, 0, []) : zm_E) := (congrArg (fun l => l[12]?) cd_73).trans rfl
theorem c_73_13 : (zm_cd 73)[13]? = some ((20, .invokevirtual 119, 3, 43, 1, 1, 0, 0, [8]) : zm_E) := (congrArg (fun l => l[13]?) cd_73).trans rfl
theorem c_73_14 : (zm_cd 73)[14]? = some ((23, .ireturn, 1, 0, 0, 0, 0, 0, []) : zm_E) := (congrArg (fun l => l[14]?) cd_73).trans rfl
theorem c_73_15 : (zm_cd 73)[15]? = some ((24, .aload_n 0, 1, 0, 0, 0, 0, 0, []) : zm_E) := (congrArg (fun l => l[15]?) cd_73).trans rfl
theorem c_73_16 : (zm_cd 73)[16]? = some ((25, .invokevirtual 165, 3, 46, 0, 0, 0, 0, [8]) : zm_E) := (congrArg (fun l => l[16]?) cd_73).trans rfl
theorem c_73_17 : (zm_cd 73)[17]? = some ((28, .iconst 0, 1, 0, 0, 0, 0, 0, []) : zm_E) := (congrArg (fun l => l[17]?) cd_73).trans rfl
theorem c_73_18 : (zm_cd 73)[18]? = some ((29, .istore_n 2, 1, 2, 0, 0, 0, 0, []) : zm_E) := (congrArg (fun l => l[18]?) cd_73).trans rfl
theorem c_73_19 : (zm_cd 73)[19]? = some ((30, .iload_n 2, 1, 2, 0, 0, 0, 0, []) : zm_E) := (congrArg (fun l => l[19]?) cd_73).trans rfl
theorem c_73_20 : (zm_cd 73)[20]? = some ((31, .iload_n 1, 1, 1, 0, 0, 0, 0, []) : zm_E) := (congrArg (fun l => l[20]?) cd_73).trans rfl
theorem c_73_21 : (zm_cd 73)[21]? = some ((32, .if_icmp .ge 39, 3, 46, 0, 0, 0, 0, []) : zm_E) := (congrArg (fun l => l[21]?) cd_73).trans rfl
theorem c_73_22 : (zm_cd 73)[22]? = some ((35, .aload_n 0, 1, 0, 0, 0, 0, 0, []) : zm_E) := (congrArg (fun l => l[22]?) cd_73).trans rfl
theorem c_73_23 : (zm_cd 73)[23]? = some ((36, .getfield 7, 3, 8, 0, 1, 0, 0, []) : zm_E) := (congrArg (fun l => l[23]?) cd_73).trans rfl
theorem c_73_24 : (zm_cd 73)[24]? = some ((39, .bipush 9, 2, 0, 0, 0, 9, 0, []) : zm_E) := (congrArg (fun l => l[24]?) cd_73).trans rfl
theorem c_73_25 : (zm_cd 73)[25]? = some ((41, .bipush 7, 2, 0, 0, 0, 7, 0, []) : zm_E) := (congrArg (fun l => l[25]?) cd_73).trans rfl
theorem c_73_26 : (zm_cd 73)[26]? = some ((43, .iload_n 1, 1, 1, 0, 0, 0, 0, []) : zm_E) := (congrArg (fun l => l[26]?) cd_73).trans rfl
theorem c_73_27 : (zm_cd 73)[27]? = some ((44, .imul, 1, 0, 0, 0, 0, 0, []) : zm_E) := (congrArg (fun l => l[27]?) cd_73).trans rfl
theorem c_73_28 : (zm_cd 73)[28]? = some ((45, .iadd, 1, 0, 0, 0, 0, 0, []) : zm_E) := (congrArg (fun l => l[28]?) cd_73).trans rfl
theorem c_73_29 : (zm_cd 73)[29]? = some ((46, .iload_n 2, 1, 2, 0, 0, 0, 0, []) : zm_E) := (congrArg (fun l => l[29]?) cd_73).trans rfl
theorem c_73_30 : (zm_cd 73)[30]? = some ((47, .iadd, 1, 0, 0, 0, 0, 0, []) : zm_E) := (congrArg (fun l => l[30]?) cd_73).trans rfl
theorem c_73_31 : (zm_cd 73)[31]? = some ((48, .iconst 5, 1, 0, 0, 0, 5, 0, []) : zm_E) := (congrArg (fun l => l[31]?) cd_73).trans rfl
theorem c_73_32 : (zm_cd 73)[32]? = some ((49, .iastore, 1, 0, 0, 0, 0, 0, []) : zm_E) := (congrArg (fun l => l[32]?) cd_73).trans rfl
theorem c_73_33 : (zm_cd 73)[33]? = some ((50, .aload_n 0, 1, 0, 0, 0, 0, 0, []) : zm_E) := (congrArg (fun l => l[33]?) cd_73).trans rfl
theorem c_73_34 : (zm_cd 73)[34]? = some ((51, .getfield 7, 3, 8, 0, 1, 0, 0, []) : zm_E) := (congrArg (fun l => l[34]?) cd_73).trans rfl
theorem c_73_35 : (zm_cd 73)[35]? = some ((54, .bipush 9, 2, 0, 0, 0, 9, 0, []) : zm_E) := (congrArg (fun l => l[35]?) cd_73).trans rfl
theorem c_73_36 : (zm_cd 73)[36]? = some ((56, .bipush 7, 2, 0, 0, 0, 7, 0, []) : zm_E) := (congrArg (fun l => l[36]?) cd_73).trans rfl
theorem c_73_37 : (zm_cd 73)[37]? = some ((58, .iload_n 2, 1, 2, 0, 0, 0, 0, []) : zm_E) := (congrArg (fun l => l[37]?) cd_73).trans rfl
theorem c_73_38 : (zm_cd 73)[38]? = some ((59, .imul, 1, 0, 0, 0, 0, 0, []) : zm_E) := (congrArg (fun l => l[38]?) cd_73).trans rfl
theorem c_73_39 : (zm_cd 73)[39]? = some ((60, .iadd, 1, 0, 0, 0, 0, 0, []) : zm_E) := (congrArg (fun l => l[39]?) cd_73).trans rfl
theorem c_73_40 : (zm_cd 73)[40]? = some ((61, .iload_n 1, 1, 1, 0, 0, 0, 0, []) : zm_E) := (congrArg (fun l => l[40]?) cd_73).trans rfl
theorem c_73_41 : (zm_cd 73)[41]? = some ((62, .iadd, 1, 0, 0, 0, 0, 0, []) : zm_E) := (congrArg (fun l => l[41]?) cd_73).trans rfl
theorem c_73_42 : (zm_cd 73)[42]? = some ((63, .iconst 5, 1, 0, 0, 0, 5, 0, []) : zm_E) := (congrArg (fun l => l[42]?) cd_73).trans rfl
theorem c_73_43 : (zm_cd 73)[43]? = some ((64, .iastore, 1, 0, 0, 0, 0, 0, []) : zm_E) := (congrArg (fun l => l[43]?) cd_73).trans rfl
theorem c_73_44 : (zm_cd 73)[44]? = some ((65, .iinc 2 1, 3, 2, 0, 0, 1, 0, []) : zm_E) := (congrArg (fun l => l[44]?) cd_73).trans rfl
theorem c_73_45 : (zm_cd 73)[45]? = some ((68, .goto (-38), 3, 19, 0, 0, 0, 0, []) : zm_E) := (congrArg (fun l => l[45]?) cd_73).trans rfl
theorem c_73_46 : (zm_cd 73)[46]? = some ((71, .aload_n 0, 1, 0, 0, 0, 0, 0, []) : zm_E) := (congrArg (fun l => l[46]?) cd_73).trans rfl
theorem c_73_47 : (zm_cd 73)[47]? = some ((72, .getfield 7, 3, 8, 0, 1, 0, 0, []) : zm_E) := (congrArg (fun l => l[47]?) cd_73).trans rfl
theorem c_73_48 : (zm_cd 73)[48]? = some ((75, .bipush 9, 2, 0, 0, 0, 9, 0, []) : zm_E) := (congrArg (fun l => l[48]?) cd_73).trans rfl
theorem c_73_49 : (zm_cd 73)[49]? = some ((77, .bipush 7, 2, 0, 0, 0, 7, 0, []) : zm_E) := (congrArg (fun l => l[49]?) cd_73).trans rfl
theorem c_73_50 : (zm_cd 73)[50]? = some ((79, .iload_n 1, 1, 1, 0, 0, 0, 0, []) : zm_E) := (congrArg (fun l => l[50]?) cd_73).trans rfl
theorem c_73_51 : (zm_cd 73)[51]? = some ((80, .imul, 1, 0, 0, 0, 0, 0, []) : zm_E) := (congrArg (fun l => l[51]?) cd_73).trans rfl
theorem c_73_52 : (zm_cd 73)[52]? = some ((81, .iadd, 1, 0, 0, 0, 0, 0, []) : zm_E) := (congrArg (fun l => l[52]?) cd_73).trans rfl
theorem c_73_53 : (zm_cd 73)[53]? = some ((82, .iload_n 1, 1, 1, 0, 0, 0, 0, []) : zm_E) := (congrArg (fun l => l[53]?) cd_73).trans rfl
theorem c_73_54 : (zm_cd 73)[54]? = some ((83, .iadd, 1, 0, 0, 0, 0, 0, []) : zm_E) := (congrArg (fun l => l[54]?) cd_73).trans rfl
theorem c_73_55 : (zm_cd 73)[55]? = some ((84, .bipush 6, 2, 0, 0, 0, 6, 0, []) : zm_E) := (congrArg (fun l => l[55]?) cd_73).trans rfl
theorem c_73_56 : (zm_cd 73)[56]? = some ((86, .iastore, 1, 0, 0, 0, 0, 0, []) : zm_E) := (congrArg (fun l => l[56]?) cd_73).trans rfl
theorem c_73_57 : (zm_cd 73)[57]? = some ((87, .aload_n 0, 1, 0, 0, 0, 0, 0, []) : zm_E) := (congrArg (fun l => l[57]?) cd_73).trans rfl
theorem c_73_58 : (zm_cd 73)[58]? = some ((88, .getfield 7, 3, 8, 0, 1, 0, 0, []) : zm_E) := (congrArg (fun l => l[58]?) cd_73).trans rfl
theorem c_73_59 : (zm_cd 73)[59]? = some ((91, .iconst 2, 1, 0, 0, 0, 2, 0, []) : zm_E) := (congrArg (fun l => l[59]?) cd_73).trans rfl
theorem c_73_60 : (zm_cd 73)[60]? = some ((92, .iload_n 1, 1, 1, 0, 0, 0, 0, []) : zm_E) := (congrArg (fun l => l[60]?) cd_73).trans rfl
theorem c_73_61 : (zm_cd 73)[61]? = some ((93, .iadd, 1, 0, 0, 0, 0, 0, []) : zm_E) := (congrArg (fun l => l[61]?) cd_73).trans rfl
theorem c_73_62 : (zm_cd 73)[62]? = some ((94, .iload_n 1, 1, 1, 0, 0, 0, 0, []) : zm_E) := (congrArg (fun l => l[62]?) cd_73).trans rfl
theorem c_73_63 : (zm_cd 73)[63]? = some ((95, .iastore, 1, 0, 0, 0, 0, 0, []) : zm_E) := (congrArg (fun l => l[63]?) cd_73).trans rfl
theorem c_73_64 : (zm_cd 73)[64]? = some ((96, .aload_n 0, 1, 0, 0, 0, 0, 0, []) : zm_E) := (congrArg (fun l => l[64]?) cd_73).trans rfl
theorem c_73_65 : (zm_cd 73)[65]? = some ((97, .getfield 7, 3, 8, 0, 1, 0, 0, []) : zm_E) := (congrArg (fun l => l[65]?) cd_73).trans rfl
theorem c_73_66 : (zm_cd 73)[66]? = some ((100, .iconst 0, 1, 0, 0, 0, 0, 0, []) : zm_E) := (congrArg (fun l => l[66]?) cd_73).trans rfl
theorem c_73_67 : (zm_cd 73)[67]? = some ((101, .dup2, 1, 0, 0, 0, 0, 0, []) : zm_E) := (congrArg (fun l => l[67]?) cd_73).trans rfl
theorem c_73_68 : (zm_cd 73)[68]? = some ((102, .iaload, 1, 0, 0, 0, 0, 0, []) : zm_E) := (congrArg (fun l => l[68]?) cd_73).trans rfl
theorem c_73_69 : (zm_cd 73)[69]? = some ((103, .iconst 1, 1, 0, 0, 0, 1, 0, []) : zm_E) := (congrArg (fun l => l[69]?) cd_73).trans rfl
theorem c_73_70 : (zm_cd 73)[70]? = some ((104, .iadd, 1, 0, 0, 0, 0, 0, []) : zm_E) := (congrArg (fun l => l[70]?) cd_73).trans rfl
theorem c_73_71 : (zm_cd 73)[71]? = some ((105, .iastore, 1, 0, 0, 0, 0, 0, []) : zm_E) := (congrArg (fun l => l[71]?) cd_73).trans rfl
theorem c_73_72 : (zm_cd 73)[72]? = some ((106, .iload_n 1, 1, 1, 0, 0, 0, 0, []) : zm_E) := (congrArg (fun l => l[72]?) cd_73).trans rfl
theorem c_73_73 : (zm_cd 73)[73]? = some ((107, .ireturn, 1, 0, 0, 0, 0, 0, []) : zm_E) := (congrArg (fun l => l[73]?) cd_73).trans rfl
theorem cd_74 : zm_cd 74 = zd_74 := rfl
theorem ml_74 : zm_ml 74 = 5 := rfl
theorem ht_74 : zm_ht 74 = [] := rfl
theorem c_74_0 : (zm_cd 74)[0]? = some ((0, .aload_n 0, 1, 0, 0, 0, 0, 0, []) : zm_E) := (congrArg (fun l => l[0]?) cd_74).trans rfl
theorem c_74_1 : (zm_cd 74)[1]? = some ((1, .iload_n 1, 1, 1, 0, 0, 0, 0, []) : zm_E) := (congrArg (fun l => l[1]?) cd_74).trans rfl
theorem c_74_2 : (zm_cd 74)[2]? = some ((2, .iload_n 2, 1, 2, 0, 0, 0, 0, []) : zm_E) := (congrArg (fun l => l[2]?) cd_74).trans rfl
theorem c_74_3 : (zm_cd 74)[3]? = some ((3, .invokevirtual 93, 3, 49, 2, 1, 0, 0, [8]) : zm_E) := (congrArg (fun l => l[3]?) cd_74).trans rfl
theorem c_74_4 : (zm_cd 74)[4]? = some ((6, .istore 4, 2, 4, 0, 0, 0, 0, []) : zm_E) := (congrArg (fun l => l[4]?) cd_74).trans rfl
theorem c_74_5 : (zm_cd 74)[5]? = some ((8, .aload_n 0, 1, 0, 0, 0, 0, 0, []) : zm_E) := (congrArg (fun l => l[5]?) cd_74).trans rfl
theorem c_74_6 : (zm_cd 74)[6]? = some ((9, .getfield 7, 3, 8, 0, 1, 0, 0, []) : zm_E) := (congrArg (fun l => l[6]?) cd_74).trans rfl
theorem c_74_7 : (zm_cd 74)[7]? = some ((12, .bipush 9, 2, 0, 0, 0, 9, 0, []) : zm_E) := (congrArg (fun l => l[7]?) cd_74).trans rfl
theorem c_74_8 : (zm_cd 74)[8]? = some ((14, .bipush 7, 2, 0, 0, 0, 7, 0, []) : zm_E) := (congrArg (fun l => l[8]?) cd_74).trans rfl
theorem c_74_9 : (zm_cd 74)[9]? = some ((16, .iload_n 1, 1, 1, 0, 0, 0, 0, []) : zm_E) := (congrArg (fun l => l[9]?) cd_74).trans rfl
theorem c_74_10 : (zm_cd 74)[10]? = some ((17, .imul, 1, 0, 0, 0, 0, 0, []) : zm_E) := (congrArg (fun l => l[10]?) cd_74).trans rfl
theorem c_74_11 : (zm_cd 74)[11]? = some ((18, .iadd, 1, 0, 0, 0, 0, 0, []) : zm_E) := (congrArg (fun l => l[11]?) cd_74).trans rfl
theorem c_74_12 : (zm_cd 74)[12]? = some ((19, .iload_n 2, 1, 2, 0, 0, 0, 0, []) : zm_E) := (congrArg (fun l => l[12]?) cd_74).trans rfl
theorem c_74_13 : (zm_cd 74)[13]? = some ((20, .iadd, 1, 0, 0, 0, 0, 0, []) : zm_E) := (congrArg (fun l => l[13]?) cd_74).trans rfl
theorem c_74_14 : (zm_cd 74)[14]? = some ((21, .iload_n 3, 1, 3, 0, 0, 0, 0, []) : zm_E) := (congrArg (fun l => l[14]?) cd_74).trans rfl
theorem c_74_15 : (zm_cd 74)[15]? = some ((22, .iastore, 1, 0, 0, 0, 0, 0, []) : zm_E) := (congrArg (fun l => l[15]?) cd_74).trans rfl
theorem c_74_16 : (zm_cd 74)[16]? = some ((23, .iload 4, 2, 4, 0, 0, 0, 0, []) : zm_E) := (congrArg (fun l => l[16]?) cd_74).trans rfl
theorem c_74_17 : (zm_cd 74)[17]? = some ((25, .ireturn, 1, 0, 0, 0, 0, 0, []) : zm_E) := (congrArg (fun l => l[17]?) cd_74).trans rfl
theorem cd_75 : zm_cd 75 = zd_75 := rfl
theorem ml_75 : zm_ml 75 = 4 := rfl
theorem ht_75 : zm_ht 75 = [] := rfl
theorem c_75_0 : (zm_cd 75)[0]? = some ((0, .aload_n 0, 1, 0, 0, 0, 0, 0, []) : zm_E) := (congrArg (fun l => l[0]?) cd_75).trans rfl
theorem c_75_1 : (zm_cd 75)[1]? = some ((1, .iconst 0, 1, 0, 0, 0, 0, 0, []) : zm_E) := (congrArg (fun l => l[1]?) cd_75).trans rfl
theorem c_75_2 : (zm_cd 75)[2]? = some ((2, .putfield 71, 3, 8, 8, 0, 0, 0, []) : zm_E) := (congrArg (fun l => l[2]?) cd_75).trans rfl
theorem c_75_3 : (zm_cd 75)[3]? = some ((5, .aload_n 0, 1, 0, 0, 0, 0, 0, []) : zm_E) := (congrArg (fun l => l[3]?) cd_75).trans rfl
theorem c_75_4 : (zm_cd 75)[4]? = some ((6, .iload_n 1, 1, 1, 0, 0, 0, 0, []) : zm_E) := (congrArg (fun l => l[4]?) cd_75).trans rfl
theorem c_75_5 : (zm_cd 75)[5]? = some ((7, .invokevirtual 157, 3, 47, 1, 1, 0, 0, [8]) : zm_E) := (congrArg (fun l => l[5]?) cd_75).trans rfl
theorem c_75_6 : (zm_cd 75)[6]? = some ((10, .ifCond .eq 11, 3, 11, 0, 0, 0, 0, []) : zm_E) := (congrArg (fun l => l[6]?) cd_75).trans rfl
theorem c_75_7 : (zm_cd 75)[7]? = some ((13, .aload_n 0, 1, 0, 0, 0, 0, 0, []) : zm_E) := (congrArg (fun l => l[7]?) cd_75).trans rfl
theorem c_75_8 : (zm_cd 75)[8]? = some ((14, .iload_n 2, 1, 2, 0, 0, 0, 0, []) : zm_E) := (congrArg (fun l => l[8]?) cd_75).trans rfl
theorem c_75_9 : (zm_cd 75)[9]? = some ((15, .invokevirtual 157, 3, 47, 1, 1, 0, 0, [8]) : zm_E) := (congrArg (fun l => l[9]?) cd_75).trans rfl
theorem c_75_10 : (zm_cd 75)[10]? = some ((18, .ifCond .ne 9, 3, 15, 0, 0, 0, 0, []) : zm_E) := (congrArg (fun l => l[10]?) cd_75).trans rfl
theorem c_75_11 : (zm_cd 75)[11]? = some ((21, .aload_n 0, 1, 0, 0, 0, 0, 0, []) : zm_E) := (congrArg (fun l => l[11]?) cd_75).trans rfl
theorem c_75_12 : (zm_cd 75)[12]? = some ((22, .iconst 1, 1, 0, 0, 0, 1, 0, []) : zm_E) := (congrArg (fun l => l[12]?) cd_75).trans rfl
theorem c_75_13 : (zm_cd 75)[13]? = some ((23, .invokevirtual 119, 3, 43, 1, 1, 0, 0, [8]) : zm_E) := (congrArg (fun l => l[13]?) cd_75).trans rfl
theorem c_75_14 : (zm_cd 75)[14]? = some ((26, .ireturn, 1, 0, 0, 0, 0, 0, []) : zm_E) := (congrArg (fun l => l[14]?) cd_75).trans rfl
theorem c_75_15 : (zm_cd 75)[15]? = some ((27, .iload_n 3, 1, 3, 0, 0, 0, 0, []) : zm_E) := (congrArg (fun l => l[15]?) cd_75).trans rfl
theorem c_75_16 : (zm_cd 75)[16]? = some ((28, .i2l, 1, 0, 0, 0, 0, 0, []) : zm_E) := (congrArg (fun l => l[16]?) cd_75).trans rfl
theorem c_75_17 : (zm_cd 75)[17]? = some ((29, .lconst 0, 1, 0, 0, 0, 0, 0, []) : zm_E) := (congrArg (fun l => l[17]?) cd_75).trans rfl
theorem c_75_18 : (zm_cd 75)[18]? = some ((30, .ldc2_w 168, 3, 0, 0, 0, 0, 9, []) : zm_E) := (congrArg (fun l => l[18]?) cd_75).trans rfl
theorem c_75_19 : (zm_cd 75)[19]? = some ((33, .invokestatic 78, 3, 40, 3, 1, 0, 0, []) : zm_E) := (congrArg (fun l => l[19]?) cd_75).trans rfl
theorem c_75_20 : (zm_cd 75)[20]? = some ((36, .ifCond .ne 9, 3, 25, 0, 0, 0, 0, []) : zm_E) := (congrArg (fun l => l[20]?) cd_75).trans rfl
theorem c_75_21 : (zm_cd 75)[21]? = some ((39, .aload_n 0, 1, 0, 0, 0, 0, 0, []) : zm_E) := (congrArg (fun l => l[21]?) cd_75).trans rfl
theorem c_75_22 : (zm_cd 75)[22]? = some ((40, .iconst 2, 1, 0, 0, 0, 2, 0, []) : zm_E) := (congrArg (fun l => l[22]?) cd_75).trans rfl
theorem c_75_23 : (zm_cd 75)[23]? = some ((41, .invokevirtual 119, 3, 43, 1, 1, 0, 0, [8]) : zm_E) := (congrArg (fun l => l[23]?) cd_75).trans rfl
theorem c_75_24 : (zm_cd 75)[24]? = some ((44, .ireturn, 1, 0, 0, 0, 0, 0, []) : zm_E) := (congrArg (fun l => l[24]?) cd_75).trans rfl
theorem c_75_25 : (zm_cd 75)[25]? = some ((45, .aload_n 0, 1, 0, 0, 0, 0, 0, []) : zm_E) := (congrArg (fun l => l[25]?) cd_75).trans rfl
theorem c_75_26 : (zm_cd 75)[26]? = some ((46, .invokevirtual 165, 3, 46, 0, 0, 0, 0, [8]) : zm_E) := (congrArg (fun l => l[26]?) cd_75).trans rfl
theorem c_75_27 : (zm_cd 75)[27]? = some ((49, .aload_n 0, 1, 0, 0, 0, 0, 0, []) : zm_E) := (congrArg (fun l => l[27]?) cd_75).trans rfl
theorem c_75_28 : (zm_cd 75)[28]? = some ((50, .iload_n 1, 1, 1, 0, 0, 0, 0, []) : zm_E) := (congrArg (fun l => l[28]?) cd_75).trans rfl
theorem c_75_29 : (zm_cd 75)[29]? = some ((51, .iload_n 2, 1, 2, 0, 0, 0, 0, []) : zm_E) := (congrArg (fun l => l[29]?) cd_75).trans rfl
theorem c_75_30 : (zm_cd 75)[30]? = some ((52, .iload_n 3, 1, 3, 0, 0, 0, 0, []) : zm_E) := (congrArg (fun l => l[30]?) cd_75).trans rfl
theorem c_75_31 : (zm_cd 75)[31]? = some ((53, .invokevirtual 170, 3, 74, 3, 1, 0, 0, [8]) : zm_E) := (congrArg (fun l => l[31]?) cd_75).trans rfl
theorem c_75_32 : (zm_cd 75)[32]? = some ((56, .ireturn, 1, 0, 0, 0, 0, 0, []) : zm_E) := (congrArg (fun l => l[32]?) cd_75).trans rfl
theorem cd_76 : zm_cd 76 = zd_76 := rfl
theorem ml_76 : zm_ml 76 = 4 := rfl
theorem ht_76 : zm_ht 76 = [] := rfl
theorem c_76_0 : (zm_cd 76)[0]? = some ((0, .aload_n 0, 1, 0, 0, 0, 0, 0, []) : zm_E) := (congrArg (fun l => l[0]?) cd_76).trans rfl
theorem c_76_1 : (zm_cd 76)[1]? = some ((1, .iload_n 1, 1, 1, 0, 0, 0, 0, []) : zm_E) := (congrArg (fun l => l[1]?) cd_76).trans rfl
theorem c_76_2 : (zm_cd 76)[2]? = some ((2, .invokevirtual 90, 3, 50, 1, 1, 0, 0, [8]) : zm_E) := (congrArg (fun l => l[2]?) cd_76).trans rfl
theorem c_76_3 : (zm_cd 76)[3]? = some ((5, .istore_n 3, 1, 3, 0, 0, 0, 0, []) : zm_E) := (congrArg (fun l => l[3]?) cd_76).trans rfl
theorem c_76_4 : (zm_cd 76)[4]? = some ((6, .aload_n 0, 1, 0, 0, 0, 0, 0, []) : zm_E) := (congrArg (fun l => l[4]?) cd_76).trans rfl
theorem c_76_5 : (zm_cd 76)[5]? = some ((7, .getfield 7, 3, 8, 0, 1, 0, 0, []) : zm_E) := (congrArg (fun l => l[5]?) cd_76).trans rfl
theorem c_76_6 : (zm_cd 76)[6]? = some ((10, .iconst 2, 1, 0, 0, 0, 2, 0, []) : zm_E) := (congrArg (fun l => l[6]?) cd_76).trans rfl
theorem c_76_7 : (zm_cd 76)[7]? = some ((11, .iload_n 1, 1, 1, 0, 0, 0, 0, []) : zm_E) := (congrArg (fun l => l[7]?) cd_76).trans rfl
theorem c_76_8 : (zm_cd 76)[8]? = some ((12, .iadd, 1, 0, 0, 0, 0, 0, []) : zm_E) := (congrArg (fun l => l[8]?) cd_76).trans rfl
theorem c_76_9 : (zm_cd 76)[9]? = some ((13, .aload_n 0, 1, 0, 0, 0, 0, 0, []) : zm_E) := (congrArg (fun l => l[9]?) cd_76).trans rfl
theorem c_76_10 : (zm_cd 76)[10]? = some ((14, .iload_n 2, 1, 2, 0, 0, 0, 0, []) : zm_E) := (congrArg (fun l => l[10]?) cd_76).trans rfl
theorem c_76_11 : (zm_cd 76)[11]? = some ((15, .invokevirtual 90, 3, 50, 1, 1, 0, 0, [8]) : zm_E) := (congrArg (fun l => l[11]?) cd_76).trans rfl
theorem c_76_12 : (zm_cd 76)[12]? = some ((18, .iastore, 1, 0, 0, 0, 0, 0, []) : zm_E) := (congrArg (fun l => l[12]?) cd_76).trans rfl
theorem c_76_13 : (zm_cd 76)[13]? = some ((19, .aload_n 0, 1, 0, 0, 0, 0, 0, []) : zm_E) := (congrArg (fun l => l[13]?) cd_76).trans rfl
theorem c_76_14 : (zm_cd 76)[14]? = some ((20, .getfield 7, 3, 8, 0, 1, 0, 0, []) : zm_E) := (congrArg (fun l => l[14]?) cd_76).trans rfl
theorem c_76_15 : (zm_cd 76)[15]? = some ((23, .iconst 2, 1, 0, 0, 0, 2, 0, []) : zm_E) := (congrArg (fun l => l[15]?) cd_76).trans rfl
theorem c_76_16 : (zm_cd 76)[16]? = some ((24, .iload_n 2, 1, 2, 0, 0, 0, 0, []) : zm_E) := (congrArg (fun l => l[16]?) cd_76).trans rfl
theorem c_76_17 : (zm_cd 76)[17]? = some ((25, .iadd, 1, 0, 0, 0, 0, 0, []) : zm_E) := (congrArg (fun l => l[17]?) cd_76).trans rfl
theorem c_76_18 : (zm_cd 76)[18]? = some ((26, .iload_n 3, 1, 3, 0, 0, 0, 0, []) : zm_E) := (congrArg (fun l => l[18]?) cd_76).trans rfl
theorem c_76_19 : (zm_cd 76)[19]? = some ((27, .iastore, 1, 0, 0, 0, 0, 0, []) : zm_E) := (congrArg (fun l => l[19]?) cd_76).trans rfl
theorem c_76_20 : (zm_cd 76)[20]? = some ((28, .aload_n 0, 1, 0, 0, 0, 0, 0, []) : zm_E) := (congrArg (fun l => l[20]?) cd_76).trans rfl
theorem c_76_21 : (zm_cd 76)[21]? = some ((29, .iload_n 1, 1, 1, 0, 0, 0, 0, []) : zm_E) := (congrArg (fun l => l[21]?) cd_76).trans rfl
theorem c_76_22 : (zm_cd 76)[22]? = some ((30, .invokevirtual 90, 3, 50, 1, 1, 0, 0, [8]) : zm_E) := (congrArg (fun l => l[22]?) cd_76).trans rfl
theorem c_76_23 : (zm_cd 76)[23]? = some ((33, .ireturn, 1, 0, 0, 0, 0, 0, []) : zm_E) := (congrArg (fun l => l[23]?) cd_76).trans rfl
theorem cd_77 : zm_cd 77 = zd_77 := rfl
theorem ml_77 : zm_ml 77 = 3 := rfl
theorem ht_77 : zm_ht 77 = [] := rfl
theorem c_77_0 : (zm_cd 77)[0]? = some ((0, .aload_n 0, 1, 0, 0, 0, 0, 0, []) : zm_E) := (congrArg (fun l => l[0]?) cd_77).trans rfl
theorem c_77_1 : (zm_cd 77)[1]? = some ((1, .iconst 0, 1, 0, 0, 0, 0, 0, []) : zm_E) := (congrArg (fun l => l[1]?) cd_77).trans rfl
theorem c_77_2 : (zm_cd 77)[2]? = some ((2, .putfield 71, 3, 8, 8, 0, 0, 0, []) : zm_E) := (congrArg (fun l => l[2]?) cd_77).trans rfl
theorem c_77_3 : (zm_cd 77)[3]? = some ((5, .aload_n 0, 1, 0, 0, 0, 0, 0, []) : zm_E) := (congrArg (fun l => l[3]?) cd_77).trans rfl
theorem c_77_4 : (zm_cd 77)[4]? = some ((6, .iload_n 1, 1, 1, 0, 0, 0, 0, []) : zm_E) := (congrArg (fun l => l[4]?) cd_77).trans rfl
theorem c_77_5 : (zm_cd 77)[5]? = some ((7, .invokevirtual 157, 3, 47, 1, 1, 0, 0, [8]) : zm_E) := (congrArg (fun l => l[5]?) cd_77).trans rfl
theorem c_77_6 : (zm_cd 77)[6]? = some ((10, .ifCond .eq 11, 3, 11, 0, 0, 0, 0, []) : zm_E) := (congrArg (fun l => l[6]?) cd_77).trans rfl
theorem c_77_7 : (zm_cd 77)[7]? = some ((13, .aload_n 0, 1, 0, 0, 0, 0, 0, []) : zm_E) := (congrArg (fun l => l[7]?) cd_77).trans rfl
theorem c_77_8 : (zm_cd 77)[8]? = some ((14, .iload_n 2, 1, 2, 0, 0, 0, 0, []) : zm_E) := (congrArg (fun l => l[8]?) cd_77).trans rfl
theorem c_77_9 : (zm_cd 77)[9]? = some ((15, .invokevirtual 157, 3, 47, 1, 1, 0, 0, [8]) : zm_E) := (congrArg (fun l => l[9]?) cd_77).trans rfl
theorem c_77_10 : (zm_cd 77)[10]? = some ((18, .ifCond .ne 9, 3, 15, 0, 0, 0, 0, []) : zm_E) := (congrArg (fun l => l[10]?) cd_77).trans rfl
theorem c_77_11 : (zm_cd 77)[11]? = some ((21, .aload_n 0, 1, 0, 0, 0, 0, 0, []) : zm_E) := (congrArg (fun l => l[11]?) cd_77).trans rfl
theorem c_77_12 : (zm_cd 77)[12]? = some ((22, .iconst 1, 1, 0, 0, 0, 1, 0, []) : zm_E) := (congrArg (fun l => l[12]?) cd_77).trans rfl
theorem c_77_13 : (zm_cd 77)[13]? = some ((23, .invokevirtual 119, 3, 43, 1, 1, 0, 0, [8]) : zm_E) := (congrArg (fun l => l[13]?) cd_77).trans rfl
theorem c_77_14 : (zm_cd 77)[14]? = some ((26, .ireturn, 1, 0, 0, 0, 0, 0, []) : zm_E) := (congrArg (fun l => l[14]?) cd_77).trans rfl
theorem c_77_15 : (zm_cd 77)[15]? = some ((27, .aload_n 0, 1, 0, 0, 0, 0, 0, []) : zm_E) := (congrArg (fun l => l[15]?) cd_77).trans rfl
theorem c_77_16 : (zm_cd 77)[16]? = some ((28, .iload_n 1, 1, 1, 0, 0, 0, 0, []) : zm_E) := (congrArg (fun l => l[16]?) cd_77).trans rfl
theorem c_77_17 : (zm_cd 77)[17]? = some ((29, .iload_n 2, 1, 2, 0, 0, 0, 0, []) : zm_E) := (congrArg (fun l => l[17]?) cd_77).trans rfl
theorem c_77_18 : (zm_cd 77)[18]? = some ((30, .invokevirtual 162, 3, 71, 2, 1, 0, 0, [8]) : zm_E) := (congrArg (fun l => l[18]?) cd_77).trans rfl
theorem c_77_19 : (zm_cd 77)[19]? = some ((33, .ifCond .eq 9, 3, 24, 0, 0, 0, 0, []) : zm_E) := (congrArg (fun l => l[19]?) cd_77).trans rfl
theorem c_77_20 : (zm_cd 77)[20]? = some ((36, .aload_n 0, 1, 0, 0, 0, 0, 0, []) : zm_E) := (congrArg (fun l => l[20]?) cd_77).trans rfl
theorem c_77_21 : (zm_cd 77)[21]? = some ((37, .iconst 2, 1, 0, 0, 0, 2, 0, []) : zm_E) := (congrArg (fun l => l[21]?) cd_77).trans rfl
theorem c_77_22 : (zm_cd 77)[22]? = some ((38, .invokevirtual 119, 3, 43, 1, 1, 0, 0, [8]) : zm_E) := (congrArg (fun l => l[22]?) cd_77).trans rfl
theorem c_77_23 : (zm_cd 77)[23]? = some ((41, .ireturn, 1, 0, 0, 0, 0, 0, []) : zm_E) := (congrArg (fun l => l[23]?) cd_77).trans rfl
theorem c_77_24 : (zm_cd 77)[24]? = some ((42, .aload_n 0, 1, 0, 0, 0, 0, 0, []) : zm_E) := (congrArg (fun l => l[24]?) cd_77).trans rfl
theorem c_77_25 : (zm_cd 77)[25]? = some ((43, .invokevirtual 165, 3, 46, 0, 0, 0, 0, [8]) : zm_E) := (congrArg (fun l => l[25]?) cd_77).trans rfl
theorem c_77_26 : (zm_cd 77)[26]? = some ((46, .aload_n 0, 1, 0, 0, 0, 0, 0, []) : zm_E) := (congrArg (fun l => l[26]?) cd_77).trans rfl
theorem c_77_27 : (zm_cd 77)[27]? = some ((47, .iload_n 1, 1, 1, 0, 0, 0, 0, []) : zm_E) := (congrArg (fun l => l[27]?) cd_77).trans rfl
theorem c_77_28 : (zm_cd 77)[28]? = some ((48, .iload_n 2, 1, 2, 0, 0, 0, 0, []) : zm_E) := (congrArg (fun l => l[28]?) cd_77).trans rfl
theorem c_77_29 : (zm_cd 77)[29]? = some ((49, .invokevirtual 174, 3, 76, 2, 1, 0, 0, [8]) : zm_E) := (congrArg (fun l => l[29]?) cd_77).trans rfl
theorem c_77_30 : (zm_cd 77)[30]? = some ((52, .ireturn, 1, 0, 0, 0, 0, 0, []) : zm_E) := (congrArg (fun l => l[30]?) cd_77).trans rfl
theorem cd_78 : zm_cd 78 = zd_78 := rfl
theorem ml_78 : zm_ml 78 = 4 := rfl
theorem ht_78 : zm_ht 78 = [] := rfl
theorem c_78_0 : (zm_cd 78)[0]? = some ((0, .iconst 0, 1, 0, 0, 0, 0, 0, []) : zm_E) := (congrArg (fun l => l[0]?) cd_78).trans rfl
theorem c_78_1 : (zm_cd 78)[1]? = some ((1, .istore_n 2, 1, 2, 0, 0, 0, 0, []) : zm_E) := (congrArg (fun l => l[1]?) cd_78).trans rfl
theorem c_78_2 : (zm_cd 78)[2]? = some ((2, .iconst 0, 1, 0, 0, 0, 0, 0, []) : zm_E) := (congrArg (fun l => l[2]?) cd_78).trans rfl
theorem c_78_3 : (zm_cd 78)[3]? = some ((3, .istore_n 3, 1, 3, 0, 0, 0, 0, []) : zm_E) := (congrArg (fun l => l[3]?) cd_78).trans rfl
theorem c_78_4 : (zm_cd 78)[4]? = some ((4, .iload_n 3, 1, 3, 0, 0, 0, 0, []) : zm_E) := (congrArg (fun l => l[4]?) cd_78).trans rfl
theorem c_78_5 : (zm_cd 78)[5]? = some ((5, .aload_n 0, 1, 0, 0, 0, 0, 0, []) : zm_E) := (congrArg (fun l => l[5]?) cd_78).trans rfl
theorem c_78_6 : (zm_cd 78)[6]? = some ((6, .getfield 7, 3, 8, 0, 1, 0, 0, []) : zm_E) := (congrArg (fun l => l[6]?) cd_78).trans rfl
theorem c_78_7 : (zm_cd 78)[7]? = some ((9, .iconst 0, 1, 0, 0, 0, 0, 0, []) : zm_E) := (congrArg (fun l => l[7]?) cd_78).trans rfl
theorem c_78_8 : (zm_cd 78)[8]? = some ((10, .iaload, 1, 0, 0, 0, 0, 0, []) : zm_E) := (congrArg (fun l => l[8]?) cd_78).trans rfl
theorem c_78_9 : (zm_cd 78)[9]? = some ((11, .if_icmp .ge 53, 3, 40, 0, 0, 0, 0, []) : zm_E) := (congrArg (fun l => l[9]?) cd_78).trans rfl
theorem c_78_10 : (zm_cd 78)[10]? = some ((14, .iload_n 1, 1, 1, 0, 0, 0, 0, []) : zm_E) := (congrArg (fun l => l[10]?) cd_78).trans rfl
theorem c_78_11 : (zm_cd 78)[11]? = some ((15, .iload_n 3, 1, 3, 0, 0, 0, 0, []) : zm_E) := (congrArg (fun l => l[11]?) cd_78).trans rfl
theorem c_78_12 : (zm_cd 78)[12]? = some ((16, .invokestatic 82, 3, 41, 2, 1, 0, 0, []) : zm_E) := (congrArg (fun l => l[12]?) cd_78).trans rfl
theorem c_78_13 : (zm_cd 78)[13]? = some ((19, .ifCond .eq 39, 3, 38, 0, 0, 0, 0, []) : zm_E) := (congrArg (fun l => l[13]?) cd_78).trans rfl
theorem c_78_14 : (zm_cd 78)[14]? = some ((22, .iload_n 2, 1, 2, 0, 0, 0, 0, []) : zm_E) := (congrArg (fun l => l[14]?) cd_78).trans rfl
theorem c_78_15 : (zm_cd 78)[15]? = some ((23, .aload_n 0, 1, 0, 0, 0, 0, 0, []) : zm_E) := (congrArg (fun l => l[15]?) cd_78).trans rfl
theorem c_78_16 : (zm_cd 78)[16]? = some ((24, .iload_n 3, 1, 3, 0, 0, 0, 0, []) : zm_E) := (congrArg (fun l => l[16]?) cd_78).trans rfl
theorem c_78_17 : (zm_cd 78)[17]? = some ((25, .invokevirtual 90, 3, 50, 1, 1, 0, 0, [8]) : zm_E) := (congrArg (fun l => l[17]?) cd_78).trans rfl
theorem c_78_18 : (zm_cd 78)[18]? = some ((28, .aload_n 0, 1, 0, 0, 0, 0, 0, []) : zm_E) := (congrArg (fun l => l[18]?) cd_78).trans rfl
theorem c_78_19 : (zm_cd 78)[19]? = some ((29, .getfield 29, 3, 8, 9, 1, 0, 0, []) : zm_E) := (congrArg (fun l => l[19]?) cd_78).trans rfl
theorem c_78_20 : (zm_cd 78)[20]? = some ((32, .iload_n 3, 1, 3, 0, 0, 0, 0, []) : zm_E) := (congrArg (fun l => l[20]?) cd_78).trans rfl
theorem c_78_21 : (zm_cd 78)[21]? = some ((33, .iaload, 1, 0, 0, 0, 0, 0, []) : zm_E) := (congrArg (fun l => l[21]?) cd_78).trans rfl
theorem c_78_22 : (zm_cd 78)[22]? = some ((34, .if_icmp .eq 7, 3, 25, 0, 0, 0, 0, []) : zm_E) := (congrArg (fun l => l[22]?) cd_78).trans rfl
theorem c_78_23 : (zm_cd 78)[23]? = some ((37, .iconst 1, 1, 0, 0, 0, 1, 0, []) : zm_E) := (congrArg (fun l => l[23]?) cd_78).trans rfl
theorem c_78_24 : (zm_cd 78)[24]? = some ((38, .goto 4, 3, 26, 0, 0, 0, 0, []) : zm_E) := (congrArg (fun l => l[24]?) cd_78).trans rfl
theorem c_78_25 : (zm_cd 78)[25]? = some ((41, .iconst 0, 1, 0, 0, 0, 0, 0, []) : zm_E) := (congrArg (fun l => l[25]?) cd_78).trans rfl
theorem c_78_26 : (zm_cd 78)[26]? = some ((42, .iadd, 1, 0, 0, 0, 0, 0, []) : zm_E) := (congrArg (fun l => l[26]?) cd_78).trans rfl
theorem c_78_27 : (zm_cd 78)[27]? = some ((43, .istore_n 2, 1, 2, 0, 0, 0, 0, []) : zm_E) := (congrArg (fun l => l[27]?) cd_78).trans rfl
theorem c_78_28 : (zm_cd 78)[28]? = some ((44, .aload_n 0, 1, 0, 0, 0, 0, 0, []) : zm_E) := (congrArg (fun l => l[28]?) cd_78).trans rfl
theorem c_78_29 : (zm_cd 78)[29]? = some ((45, .getfield 7, 3, 8, 0, 1, 0, 0, []) : zm_E) := (congrArg (fun l => l[29]?) cd_78).trans rfl
theorem c_78_30 : (zm_cd 78)[30]? = some ((48, .iconst 2, 1, 0, 0, 0, 2, 0, []) : zm_E) := (congrArg (fun l => l[30]?) cd_78).trans rfl
theorem c_78_31 : (zm_cd 78)[31]? = some ((49, .iload_n 3, 1, 3, 0, 0, 0, 0, []) : zm_E) := (congrArg (fun l => l[31]?) cd_78).trans rfl
theorem c_78_32 : (zm_cd 78)[32]? = some ((50, .iadd, 1, 0, 0, 0, 0, 0, []) : zm_E) := (congrArg (fun l => l[32]?) cd_78).trans rfl
theorem c_78_33 : (zm_cd 78)[33]? = some ((51, .aload_n 0, 1, 0, 0, 0, 0, 0, []) : zm_E) := (congrArg (fun l => l[33]?) cd_78).trans rfl
theorem c_78_34 : (zm_cd 78)[34]? = some ((52, .getfield 29, 3, 8, 9, 1, 0, 0, []) : zm_E) := (congrArg (fun l => l[34]?) cd_78).trans rfl
theorem c_78_35 : (zm_cd 78)[35]? = some ((55, .iload_n 3, 1, 3, 0, 0, 0, 0, []) : zm_E) := (congrArg (fun l => l[35]?) cd_78).trans rfl
theorem c_78_36 : (zm_cd 78)[36]? = some ((56, .iaload, 1, 0, 0, 0, 0, 0, []) : zm_E) := (congrArg (fun l => l[36]?) cd_78).trans rfl
theorem c_78_37 : (zm_cd 78)[37]? = some ((57, .iastore, 1, 0, 0, 0, 0, 0, []) : zm_E) := (congrArg (fun l => l[37]?) cd_78).trans rfl
theorem c_78_38 : (zm_cd 78)[38]? = some ((58, .iinc 3 1, 3, 3, 0, 0, 1, 0, []) : zm_E) := (congrArg (fun l => l[38]?) cd_78).trans rfl
theorem c_78_39 : (zm_cd 78)[39]? = some ((61, .goto (-57), 3, 4, 0, 0, 0, 0, []) : zm_E) := (congrArg (fun l => l[39]?) cd_78).trans rfl
theorem c_78_40 : (zm_cd 78)[40]? = some ((64, .iload_n 2, 1, 2, 0, 0, 0, 0, []) : zm_E) := (congrArg (fun l => l[40]?) cd_78).trans rfl
theorem c_78_41 : (zm_cd 78)[41]? = some ((65, .ireturn, 1, 0, 0, 0, 0, 0, []) : zm_E) := (congrArg (fun l => l[41]?) cd_78).trans rfl
theorem cd_79 : zm_cd 79 = zd_79 := rfl
theorem ml_79 : zm_ml 79 = 2 := rfl
theorem ht_79 : zm_ht 79 = [] := rfl
theorem c_79_0 : (zm_cd 79)[0]? = some ((0, .aload_n 0, 1, 0, 0, 0, 0, 0, []) : zm_E) := (congrArg (fun l => l[0]?) cd_79).trans rfl
theorem c_79_1 : (zm_cd 79)[1]? = some ((1, .iconst 0, 1, 0, 0, 0, 0, 0, []) : zm_E) := (congrArg (fun l => l[1]?) cd_79).trans rfl
theorem c_79_2 : (zm_cd 79)[2]? = some ((2, .putfield 71, 3, 8, 8, 0, 0, 0, []) : zm_E) := (congrArg (fun l => l[2]?) cd_79).trans rfl
theorem c_79_3 : (zm_cd 79)[3]? = some ((5, .aload_n 0, 1, 0, 0, 0, 0, 0, []) : zm_E) := (congrArg (fun l => l[3]?) cd_79).trans rfl
theorem c_79_4 : (zm_cd 79)[4]? = some ((6, .invokevirtual 148, 3, 55, 0, 0, 0, 0, [8]) : zm_E) := (congrArg (fun l => l[4]?) cd_79).trans rfl
theorem c_79_5 : (zm_cd 79)[5]? = some ((9, .iload_n 1, 1, 1, 0, 0, 0, 0, []) : zm_E) := (congrArg (fun l => l[5]?) cd_79).trans rfl
theorem c_79_6 : (zm_cd 79)[6]? = some ((10, .i2l, 1, 0, 0, 0, 0, 0, []) : zm_E) := (congrArg (fun l => l[6]?) cd_79).trans rfl
theorem c_79_7 : (zm_cd 79)[7]? = some ((11, .lconst 0, 1, 0, 0, 0, 0, 0, []) : zm_E) := (congrArg (fun l => l[7]?) cd_79).trans rfl
theorem c_79_8 : (zm_cd 79)[8]? = some ((12, .aload_n 0, 1, 0, 0, 0, 0, 0, []) : zm_E) := (congrArg (fun l => l[8]?) cd_79).trans rfl
theorem c_79_9 : (zm_cd 79)[9]? = some ((13, .getfield 101, 3, 8, 16, 0, 0, 0, []) : zm_E) := (congrArg (fun l => l[9]?) cd_79).trans rfl
theorem c_79_10 : (zm_cd 79)[10]? = some ((16, .iconst 1, 1, 0, 0, 0, 1, 0, []) : zm_E) := (congrArg (fun l => l[10]?) cd_79).trans rfl
theorem c_79_11 : (zm_cd 79)[11]? = some ((17, .isub, 1, 0, 0, 0, 0, 0, []) : zm_E) := (congrArg (fun l => l[11]?) cd_79).trans rfl
theorem c_79_12 : (zm_cd 79)[12]? = some ((18, .i2l, 1, 0, 0, 0, 0, 0, []) : zm_E) := (congrArg (fun l => l[12]?) cd_79).trans rfl
theorem c_79_13 : (zm_cd 79)[13]? = some ((19, .invokestatic 78, 3, 40, 3, 1, 0, 0, []) : zm_E) := (congrArg (fun l => l[13]?) cd_79).trans rfl
theorem c_79_14 : (zm_cd 79)[14]? = some ((22, .ifCond .ne 9, 3, 19, 0, 0, 0, 0, []) : zm_E) := (congrArg (fun l => l[14]?) cd_79).trans rfl
theorem c_79_15 : (zm_cd 79)[15]? = some ((25, .aload_n 0, 1, 0, 0, 0, 0, 0, []) : zm_E) := (congrArg (fun l => l[15]?) cd_79).trans rfl
theorem c_79_16 : (zm_cd 79)[16]? = some ((26, .iconst 1, 1, 0, 0, 0, 1, 0, []) : zm_E) := (congrArg (fun l => l[16]?) cd_79).trans rfl
theorem c_79_17 : (zm_cd 79)[17]? = some ((27, .invokevirtual 119, 3, 43, 1, 1, 0, 0, [8]) : zm_E) := (congrArg (fun l => l[17]?) cd_79).trans rfl
theorem c_79_18 : (zm_cd 79)[18]? = some ((30, .ireturn, 1, 0, 0, 0, 0, 0, []) : zm_E) := (congrArg (fun l => l[18]?) cd_79).trans rfl
theorem c_79_19 : (zm_cd 79)[19]? = some ((31, .aload_n 0, 1, 0, 0, 0, 0, 0, []) : zm_E) := (congrArg (fun l => l[19]?) cd_79).trans rfl
theorem c_79_20 : (zm_cd 79)[20]? = some ((32, .invokevirtual 165, 3, 46, 0, 0, 0, 0, [8]) : zm_E) := (congrArg (fun l => l[20]?) cd_79).trans rfl
theorem c_79_21 : (zm_cd 79)[21]? = some ((35, .aload_n 0, 1, 0, 0, 0, 0, 0, []) : zm_E) := (congrArg (fun l => l[21]?) cd_79).trans rfl
theorem c_79_22 : (zm_cd 79)[22]? = some ((36, .aload_n 0, 1, 0, 0, 0, 0, 0, []) : zm_E) := (congrArg (fun l => l[22]?) cd_79).trans rfl
theorem c_79_23 : (zm_cd 79)[23]? = some ((37, .getfield 44, 3, 8, 14, 1, 0, 0, []) : zm_E) := (congrArg (fun l => l[23]?) cd_79).trans rfl
theorem c_79_24 : (zm_cd 79)[24]? = some ((40, .iload_n 1, 1, 1, 0, 0, 0, 0, []) : zm_E) := (congrArg (fun l => l[24]?) cd_79).trans rfl
theorem c_79_25 : (zm_cd 79)[25]? = some ((41, .iaload, 1, 0, 0, 0, 0, 0, []) : zm_E) := (congrArg (fun l => l[25]?) cd_79).trans rfl
theorem c_79_26 : (zm_cd 79)[26]? = some ((42, .invokevirtual 177, 3, 78, 1, 1, 0, 0, [8]) : zm_E) := (congrArg (fun l => l[26]?) cd_79).trans rfl
theorem c_79_27 : (zm_cd 79)[27]? = some ((45, .ireturn, 1, 0, 0, 0, 0, 0, []) : zm_E) := (congrArg (fun l => l[27]?) cd_79).trans rfl
theorem cd_80 : zm_cd 80 = zd_80 := rfl
theorem ml_80 : zm_ml 80 = 1 := rfl
theorem ht_80 : zm_ht 80 = [] := rfl
theorem c_80_0 : (zm_cd 80)[0]? = some ((0, .aload_n 0, 1, 0, 0, 0, 0, 0, []) : zm_E) := (congrArg (fun l => l[0]?) cd_80).trans rfl
theorem c_80_1 : (zm_cd 80)[1]? = some ((1, .invokevirtual 148, 3, 55, 0, 0, 0, 0, [8]) : zm_E) := (congrArg (fun l => l[1]?) cd_80).trans rfl
theorem c_80_2 : (zm_cd 80)[2]? = some ((4, .aload_n 0, 1, 0, 0, 0, 0, 0, []) : zm_E) := (congrArg (fun l => l[2]?) cd_80).trans rfl
theorem c_80_3 : (zm_cd 80)[3]? = some ((5, .iconst 1, 1, 0, 0, 0, 1, 0, []) : zm_E) := (congrArg (fun l => l[3]?) cd_80).trans rfl
theorem c_80_4 : (zm_cd 80)[4]? = some ((6, .aload_n 0, 1, 0, 0, 0, 0, 0, []) : zm_E) := (congrArg (fun l => l[4]?) cd_80).trans rfl
theorem c_80_5 : (zm_cd 80)[5]? = some ((7, .getfield 7, 3, 8, 0, 1, 0, 0, []) : zm_E) := (congrArg (fun l => l[5]?) cd_80).trans rfl
theorem c_80_6 : (zm_cd 80)[6]? = some ((10, .iconst 0, 1, 0, 0, 0, 0, 0, []) : zm_E) := (congrArg (fun l => l[6]?) cd_80).trans rfl
theorem c_80_7 : (zm_cd 80)[7]? = some ((11, .iaload, 1, 0, 0, 0, 0, 0, []) : zm_E) := (congrArg (fun l => l[7]?) cd_80).trans rfl
theorem c_80_8 : (zm_cd 80)[8]? = some ((12, .ishl, 1, 0, 0, 0, 0, 0, []) : zm_E) := (congrArg (fun l => l[8]?) cd_80).trans rfl
theorem c_80_9 : (zm_cd 80)[9]? = some ((13, .iconst 1, 1, 0, 0, 0, 1, 0, []) : zm_E) := (congrArg (fun l => l[9]?) cd_80).trans rfl
theorem c_80_10 : (zm_cd 80)[10]? = some ((14, .isub, 1, 0, 0, 0, 0, 0, []) : zm_E) := (congrArg (fun l => l[10]?) cd_80).trans rfl
theorem c_80_11 : (zm_cd 80)[11]? = some ((15, .aload_n 0, 1, 0, 0, 0, 0, 0, []) : zm_E) := (congrArg (fun l => l[11]?) cd_80).trans rfl
theorem c_80_12 : (zm_cd 80)[12]? = some ((16, .getfield 7, 3, 8, 0, 1, 0, 0, []) : zm_E) := (congrArg (fun l => l[12]?) cd_80).trans rfl
theorem c_80_13 : (zm_cd 80)[13]? = some ((19, .iconst 1, 1, 0, 0, 0, 1, 0, []) : zm_E) := (congrArg (fun l => l[13]?) cd_80).trans rfl
theorem c_80_14 : (zm_cd 80)[14]? = some ((20, .iaload, 1, 0, 0, 0, 0, 0, []) : zm_E) := (congrArg (fun l => l[14]?) cd_80).trans rfl
theorem c_80_15 : (zm_cd 80)[15]? = some ((21, .iconst (-1), 1, 0, 0, 0, (-1), 0, []) : zm_E) := (congrArg (fun l => l[15]?) cd_80).trans rfl
theorem c_80_16 : (zm_cd 80)[16]? = some ((22, .ixor, 1, 0, 0, 0, 0, 0, []) : zm_E) := (congrArg (fun l => l[16]?) cd_80).trans rfl
theorem c_80_17 : (zm_cd 80)[17]? = some ((23, .iand, 1, 0, 0, 0, 0, 0, []) : zm_E) := (congrArg (fun l => l[17]?) cd_80).trans rfl
theorem c_80_18 : (zm_cd 80)[18]? = some ((24, .invokevirtual 177, 3, 78, 1, 1, 0, 0, [8]) : zm_E) := (congrArg (fun l => l[18]?) cd_80).trans rfl
theorem c_80_19 : (zm_cd 80)[19]? = some ((27, .ireturn, 1, 0, 0, 0, 0, 0, []) : zm_E) := (congrArg (fun l => l[19]?) cd_80).trans rfl
theorem cd_81 : zm_cd 81 = zd_81 := rfl
theorem ml_81 : zm_ml 81 = 1 := rfl
theorem ht_81 : zm_ht 81 = [] := rfl
theorem c_81_0 : (zm_cd 81)[0]? = some ((0, .aload_n 0, 1, 0, 0, 0, 0, 0, []) : zm_E) := (congrArg (fun l => l[0]?) cd_81).trans rfl
theorem c_81_1 : (zm_cd 81)[1]? = some ((1, .iconst 0, 1, 0, 0, 0, 0, 0, []) : zm_E) := (congrArg (fun l => l[1]?) cd_81).trans rfl
theorem c_81_2 : (zm_cd 81)[2]? = some ((2, .putfield 71, 3, 8, 8, 0, 0, 0, []) : zm_E) := (congrArg (fun l => l[2]?) cd_81).trans rfl
theorem c_81_3 : (zm_cd 81)[3]? = some ((5, .aload_n 0, 1, 0, 0, 0, 0, 0, []) : zm_E) := (congrArg (fun l => l[3]?) cd_81).trans rfl
theorem c_81_4 : (zm_cd 81)[4]? = some ((6, .invokevirtual 165, 3, 46, 0, 0, 0, 0, [8]) : zm_E) := (congrArg (fun l => l[4]?) cd_81).trans rfl
theorem c_81_5 : (zm_cd 81)[5]? = some ((9, .aload_n 0, 1, 0, 0, 0, 0, 0, []) : zm_E) := (congrArg (fun l => l[5]?) cd_81).trans rfl
theorem c_81_6 : (zm_cd 81)[6]? = some ((10, .invokevirtual 180, 3, 80, 0, 1, 0, 0, [8]) : zm_E) := (congrArg (fun l => l[6]?) cd_81).trans rfl
theorem c_81_7 : (zm_cd 81)[7]? = some ((13, .ireturn, 1, 0, 0, 0, 0, 0, []) : zm_E) := (congrArg (fun l => l[7]?) cd_81).trans rfl
theorem cd_82 : zm_cd 82 = zd_82 := rfl
theorem ml_82 : zm_ml 82 = 2 := rfl
theorem ht_82 : zm_ht 82 = [] := rfl
theorem c_82_0 : (zm_cd 82)[0]? = some ((0, .aload_n 0, 1, 0, 0, 0, 0, 0, []) : zm_E) := (congrArg (fun l => l[0]?) cd_82).trans rfl
theorem c_82_1 : (zm_cd 82)[1]? = some ((1, .iconst 0, 1, 0, 0, 0, 0, 0, []) : zm_E) := (congrArg (fun l => l[1]?) cd_82).trans rfl
theorem c_82_2 : (zm_cd 82)[2]? = some ((2, .putfield 71, 3, 8, 8, 0, 0, 0, []) : zm_E) := (congrArg (fun l => l[2]?) cd_82).trans rfl
theorem c_82_3 : (zm_cd 82)[3]? = some ((5, .aload_n 0, 1, 0, 0, 0, 0, 0, []) : zm_E) := (congrArg (fun l => l[3]?) cd_82).trans rfl
theorem c_82_4 : (zm_cd 82)[4]? = some ((6, .iload_n 1, 1, 1, 0, 0, 0, 0, []) : zm_E) := (congrArg (fun l => l[4]?) cd_82).trans rfl
theorem c_82_5 : (zm_cd 82)[5]? = some ((7, .invokevirtual 157, 3, 47, 1, 1, 0, 0, [8]) : zm_E) := (congrArg (fun l => l[5]?) cd_82).trans rfl
theorem c_82_6 : (zm_cd 82)[6]? = some ((10, .ifCond .ne 9, 3, 11, 0, 0, 0, 0, []) : zm_E) := (congrArg (fun l => l[6]?) cd_82).trans rfl
theorem c_82_7 : (zm_cd 82)[7]? = some ((13, .aload_n 0, 1, 0, 0, 0, 0, 0, []) : zm_E) := (congrArg (fun l => l[7]?) cd_82).trans rfl
theorem c_82_8 : (zm_cd 82)[8]? = some ((14, .iconst 1, 1, 0, 0, 0, 1, 0, []) : zm_E) := (congrArg (fun l => l[8]?) cd_82).trans rfl
theorem c_82_9 : (zm_cd 82)[9]? = some ((15, .invokevirtual 119, 3, 43, 1, 1, 0, 0, [8]) : zm_E) := (congrArg (fun l => l[9]?) cd_82).trans rfl
theorem c_82_10 : (zm_cd 82)[10]? = some ((18, .ireturn, 1, 0, 0, 0, 0, 0, []) : zm_E) := (congrArg (fun l => l[10]?) cd_82).trans rfl
theorem c_82_11 : (zm_cd 82)[11]? = some ((19, .aload_n 0, 1, 0, 0, 0, 0, 0, []) : zm_E) := (congrArg (fun l => l[11]?) cd_82).trans rfl
theorem c_82_12 : (zm_cd 82)[12]? = some ((20, .iload_n 1, 1, 1, 0, 0, 0, 0, []) : zm_E) := (congrArg (fun l => l[12]?) cd_82).trans rfl
theorem c_82_13 : (zm_cd 82)[13]? = some ((21, .invokevirtual 97, 3, 48, 1, 1, 0, 0, [8]) : zm_E) := (congrArg (fun l => l[13]?) cd_82).trans rfl
theorem c_82_14 : (zm_cd 82)[14]? = some ((24, .ifCond .ne 9, 3, 19, 0, 0, 0, 0, []) : zm_E) := (congrArg (fun l => l[14]?) cd_82).trans rfl
theorem c_82_15 : (zm_cd 82)[15]? = some ((27, .aload_n 0, 1, 0, 0, 0, 0, 0, []) : zm_E) := (congrArg (fun l => l[15]?) cd_82).trans rfl
theorem c_82_16 : (zm_cd 82)[16]? = some ((28, .iconst 2, 1, 0, 0, 0, 2, 0, []) : zm_E) := (congrArg (fun l => l[16]?) cd_82).trans rfl
theorem c_82_17 : (zm_cd 82)[17]? = some ((29, .invokevirtual 119, 3, 43, 1, 1, 0, 0, [8]) : zm_E) := (congrArg (fun l => l[17]?) cd_82).trans rfl
theorem c_82_18 : (zm_cd 82)[18]? = some ((32, .ireturn, 1, 0, 0, 0, 0, 0, []) : zm_E) := (congrArg (fun l => l[18]?) cd_82).trans rfl
theorem c_82_19 : (zm_cd 82)[19]? = some ((33, .aload_n 0, 1, 0, 0, 0, 0, 0, []) : zm_E) := (congrArg (fun l => l[19]?) cd_82).trans rfl
theorem c_82_20 : (zm_cd 82)[20]? = some ((34, .invokevirtual 165, 3, 46, 0, 0, 0, 0, [8]) : zm_E) := (congrArg (fun l => l[20]?) cd_82).trans rfl
theorem c_82_21 : (zm_cd 82)[21]? = some ((37, .aload_n 0, 1, 0, 0, 0, 0, 0, []) : zm_E) := (congrArg (fun l => l[21]?) cd_82).trans rfl
theorem c_82_22 : (zm_cd 82)[22]? = some ((38, .getfield 7, 3, 8, 0, 1, 0, 0, []) : zm_E) := (congrArg (fun l => l[22]?) cd_82).trans rfl
theorem c_82_23 : (zm_cd 82)[23]? = some ((41, .iconst 1, 1, 0, 0, 0, 1, 0, []) : zm_E) := (congrArg (fun l => l[23]?) cd_82).trans rfl
theorem c_82_24 : (zm_cd 82)[24]? = some ((42, .dup2, 1, 0, 0, 0, 0, 0, []) : zm_E) := (congrArg (fun l => l[24]?) cd_82).trans rfl
theorem c_82_25 : (zm_cd 82)[25]? = some ((43, .iaload, 1, 0, 0, 0, 0, 0, []) : zm_E) := (congrArg (fun l => l[25]?) cd_82).trans rfl
theorem c_82_26 : (zm_cd 82)[26]? = some ((44, .iconst 1, 1, 0, 0, 0, 1, 0, []) : zm_E) := (congrArg (fun l => l[26]?) cd_82).trans rfl
theorem c_82_27 : (zm_cd 82)[27]? = some ((45, .iload_n 1, 1, 1, 0, 0, 0, 0, []) : zm_E) := (congrArg (fun l => l[27]?) cd_82).trans rfl
theorem c_82_28 : (zm_cd 82)[28]? = some ((46, .ishl, 1, 0, 0, 0, 0, 0, []) : zm_E) := (congrArg (fun l => l[28]?) cd_82).trans rfl
theorem c_82_29 : (zm_cd 82)[29]? = some ((47, .ior, 1, 0, 0, 0, 0, 0, []) : zm_E) := (congrArg (fun l => l[29]?) cd_82).trans rfl
theorem c_82_30 : (zm_cd 82)[30]? = some ((48, .iastore, 1, 0, 0, 0, 0, 0, []) : zm_E) := (congrArg (fun l => l[30]?) cd_82).trans rfl
theorem c_82_31 : (zm_cd 82)[31]? = some ((49, .aload_n 0, 1, 0, 0, 0, 0, 0, []) : zm_E) := (congrArg (fun l => l[31]?) cd_82).trans rfl
theorem c_82_32 : (zm_cd 82)[32]? = some ((50, .invokevirtual 144, 3, 51, 0, 1, 0, 0, [8]) : zm_E) := (congrArg (fun l => l[32]?) cd_82).trans rfl
theorem c_82_33 : (zm_cd 82)[33]? = some ((53, .ireturn, 1, 0, 0, 0, 0, 0, []) : zm_E) := (congrArg (fun l => l[33]?) cd_82).trans rfl
theorem cd_83 : zm_cd 83 = zd_83 := rfl
theorem ml_83 : zm_ml 83 = 3 := rfl
theorem ht_83 : zm_ht 83 = [] := rfl
theorem c_83_0 : (zm_cd 83)[0]? = some ((0, .iconst 0, 1, 0, 0, 0, 0, 0, []) : zm_E) := (congrArg (fun l => l[0]?) cd_83).trans rfl
theorem c_83_1 : (zm_cd 83)[1]? = some ((1, .istore_n 1, 1, 1, 0, 0, 0, 0, []) : zm_E) := (congrArg (fun l => l[1]?) cd_83).trans rfl
theorem c_83_2 : (zm_cd 83)[2]? = some ((2, .iconst 0, 1, 0, 0, 0, 0, 0, []) : zm_E) := (congrArg (fun l => l[2]?) cd_83).trans rfl
theorem c_83_3 : (zm_cd 83)[3]? = some ((3, .istore_n 2, 1, 2, 0, 0, 0, 0, []) : zm_E) := (congrArg (fun l => l[3]?) cd_83).trans rfl
theorem c_83_4 : (zm_cd 83)[4]? = some ((4, .iload_n 2, 1, 2, 0, 0, 0, 0, []) : zm_E) := (congrArg (fun l => l[4]?) cd_83).trans rfl
theorem c_83_5 : (zm_cd 83)[5]? = some ((5, .aload_n 0, 1, 0, 0, 0, 0, 0, []) : zm_E) := (congrArg (fun l => l[5]?) cd_83).trans rfl
theorem c_83_6 : (zm_cd 83)[6]? = some ((6, .getfield 7, 3, 8, 0, 1, 0, 0, []) : zm_E) := (congrArg (fun l => l[6]?) cd_83).trans rfl
theorem c_83_7 : (zm_cd 83)[7]? = some ((9, .iconst 0, 1, 0, 0, 0, 0, 0, []) : zm_E) := (congrArg (fun l => l[7]?) cd_83).trans rfl
theorem c_83_8 : (zm_cd 83)[8]? = some ((10, .iaload, 1, 0, 0, 0, 0, 0, []) : zm_E) := (congrArg (fun l => l[8]?) cd_83).trans rfl
theorem c_83_9 : (zm_cd 83)[9]? = some ((11, .if_icmp .ge 35, 3, 30, 0, 0, 0, 0, []) : zm_E) := (congrArg (fun l => l[9]?) cd_83).trans rfl
theorem c_83_10 : (zm_cd 83)[10]? = some ((14, .iload_n 1, 1, 1, 0, 0, 0, 0, []) : zm_E) := (congrArg (fun l => l[10]?) cd_83).trans rfl
theorem c_83_11 : (zm_cd 83)[11]? = some ((15, .aload_n 0, 1, 0, 0, 0, 0, 0, []) : zm_E) := (congrArg (fun l => l[11]?) cd_83).trans rfl
theorem c_83_12 : (zm_cd 83)[12]? = some ((16, .iload_n 2, 1, 2, 0, 0, 0, 0, []) : zm_E) := (congrArg (fun l => l[12]?) cd_83).trans rfl
theorem c_83_13 : (zm_cd 83)[13]? = some ((17, .invokevirtual 90, 3, 50, 1, 1, 0, 0, [8]) : zm_E) := (congrArg (fun l => l[13]?) cd_83).trans rfl
theorem c_83_14 : (zm_cd 83)[14]? = some ((20, .iload_n 2, 1, 2, 0, 0, 0, 0, []) : zm_E) := (congrArg (fun l => l[14]?) cd_83).trans rfl
theorem c_83_15 : (zm_cd 83)[15]? = some ((21, .if_icmp .eq 7, 3, 18, 0, 0, 0, 0, []) : zm_E) := (congrArg (fun l => l[15]?) cd_83).trans rfl
theorem c_83_16 : (zm_cd 83)[16]? = some ((24, .iconst 1, 1, 0, 0, 0, 1, 0, []) : zm_E) := (congrArg (fun l => l[16]?) cd_83).trans rfl
theorem c_83_17 : (zm_cd 83)[17]? = some ((25, .goto 4, 3, 19, 0, 0, 0, 0, []) : zm_E) := (congrArg (fun l => l[17]?) cd_83).trans rfl
theorem c_83_18 : (zm_cd 83)[18]? = some ((28, .iconst 0, 1, 0, 0, 0, 0, 0, []) : zm_E) := (congrArg (fun l => l[18]?) cd_83).trans rfl
theorem c_83_19 : (zm_cd 83)[19]? = some ((29, .iadd, 1, 0, 0, 0, 0, 0, []) : zm_E) := (congrArg (fun l => l[19]?) cd_83).trans rfl
theorem c_83_20 : (zm_cd 83)[20]? = some ((30, .istore_n 1, 1, 1, 0, 0, 0, 0, []) : zm_E) := (congrArg (fun l => l[20]?) cd_83).trans rfl
theorem c_83_21 : (zm_cd 83)[21]? = some ((31, .aload_n 0, 1, 0, 0, 0, 0, 0, []) : zm_E) := (congrArg (fun l => l[21]?) cd_83).trans rfl
theorem c_83_22 : (zm_cd 83)[22]? = some ((32, .getfield 7, 3, 8, 0, 1, 0, 0, []) : zm_E) := (congrArg (fun l => l[22]?) cd_83).trans rfl
theorem c_83_23 : (zm_cd 83)[23]? = some ((35, .iconst 2, 1, 0, 0, 0, 2, 0, []) : zm_E) := (congrArg (fun l => l[23]?) cd_83).trans rfl
theorem c_83_24 : (zm_cd 83)[24]? = some ((36, .iload_n 2, 1, 2, 0, 0, 0, 0, []) : zm_E) := (congrArg (fun l => l[24]?) cd_83).trans rfl
theorem c_83_25 : (zm_cd 83)[25]? = some ((37, .iadd, 1, 0, 0, 0, 0, 0, []) : zm_E) := (congrArg (fun l => l[25]?) cd_83).trans rfl
theorem c_83_26 : (zm_cd 83)[26]? = some ((38, .iload_n 2, 1, 2, 0, 0, 0, 0, []) : zm_E) := (congrArg (fun l => l[26]?) cd_83).trans rfl
theorem c_83_27 : (zm_cd 83)[27]? = some ((39, .iastore, 1, 0, 0, 0, 0, 0, []) : zm_E) := (congrArg (fun l => l[27]?) cd_83).trans rfl
theorem c_83_28 : (zm_cd 83)[28]? = some ((40, .iinc 2 1, 3, 2, 0, 0, 1, 0, []) : zm_E) := (congrArg (fun l => l[28]?) cd_83).trans rfl
theorem c_83_29 : (zm_cd 83)[29]? = some ((43, .goto (-39), 3, 4, 0, 0, 0, 0, []) : zm_E) := (congrArg (fun l => l[29]?) cd_83).trans rfl
theorem c_83_30 : (zm_cd 83)[30]? = some ((46, .aload_n 0, 1, 0, 0, 0, 0, 0, []) : zm_E) := (congrArg (fun l => l[30]?) cd_83).trans rfl
theorem c_83_31 : (zm_cd 83)[31]? = some ((47, .getfield 7, 3, 8, 0, 1, 0, 0, []) : zm_E) := (congrArg (fun l => l[31]?) cd_83).trans rfl
theorem c_83_32 : (zm_cd 83)[32]? = some ((50, .iconst 1, 1, 0, 0, 0, 1, 0, []) : zm_E) := (congrArg (fun l => l[32]?) cd_83).trans rfl
theorem c_83_33 : (zm_cd 83)[33]? = some ((51, .iconst 0, 1, 0, 0, 0, 0, 0, []) : zm_E) := (congrArg (fun l => l[33]?) cd_83).trans rfl
theorem c_83_34 : (zm_cd 83)[34]? = some ((52, .iastore, 1, 0, 0, 0, 0, 0, []) : zm_E) := (congrArg (fun l => l[34]?) cd_83).trans rfl
theorem c_83_35 : (zm_cd 83)[35]? = some ((53, .iload_n 1, 1, 1, 0, 0, 0, 0, []) : zm_E) := (congrArg (fun l => l[35]?) cd_83).trans rfl
theorem c_83_36 : (zm_cd 83)[36]? = some ((54, .ireturn, 1, 0, 0, 0, 0, 0, []) : zm_E) := (congrArg (fun l => l[36]?) cd_83).trans rfl
theorem cd_84 : zm_cd 84 = zd_84 := rfl
theorem ml_84 : zm_ml 84 = 1 := rfl
theorem ht_84 : zm_ht 84 = [] := rfl
theorem c_84_0 : (zm_cd 84)[0]? = some ((0, .aload_n 0, 1, 0, 0, 0, 0, 0, []) : zm_E) := (congrArg (fun l => l[0]?) cd_84).trans rfl
theorem c_84_1 : (zm_cd 84)[1]? = some ((1, .iconst 0, 1, 0, 0, 0, 0, 0, []) : zm_E) := (congrArg (fun l => l[1]?) cd_84).trans rfl
theorem c_84_2 : (zm_cd 84)[2]? = some ((2, .putfield 71, 3, 8, 8, 0, 0, 0, []) : zm_E) := (congrArg (fun l => l[2]?) cd_84).trans rfl
theorem c_84_3 : (zm_cd 84)[3]? = some ((5, .aload_n 0, 1, 0, 0, 0, 0, 0, []) : zm_E) := (congrArg (fun l => l[3]?) cd_84).trans rfl
theorem c_84_4 : (zm_cd 84)[4]? = some ((6, .invokevirtual 165, 3, 46, 0, 0, 0, 0, [8]) : zm_E) := (congrArg (fun l => l[4]?) cd_84).trans rfl
theorem c_84_5 : (zm_cd 84)[5]? = some ((9, .aload_n 0, 1, 0, 0, 0, 0, 0, []) : zm_E) := (congrArg (fun l => l[5]?) cd_84).trans rfl
theorem c_84_6 : (zm_cd 84)[6]? = some ((10, .invokevirtual 183, 3, 83, 0, 1, 0, 0, [8]) : zm_E) := (congrArg (fun l => l[6]?) cd_84).trans rfl
theorem c_84_7 : (zm_cd 84)[7]? = some ((13, .ireturn, 1, 0, 0, 0, 0, 0, []) : zm_E) := (congrArg (fun l => l[7]?) cd_84).trans rfl
theorem cd_85 : zm_cd 85 = zd_85 := rfl
theorem ml_85 : zm_ml 85 = 2 := rfl
theorem ht_85 : zm_ht 85 = [] := rfl
theorem c_85_0 : (zm_cd 85)[0]? = some ((0, .aload_n 0, 1, 0, 0, 0, 0, 0, []) : zm_E) := (congrArg (fun l => l[0]?) cd_85).trans rfl
theorem c_85_1 : (zm_cd 85)[1]? = some ((1, .iconst 0, 1, 0, 0, 0, 0, 0, []) : zm_E) := (congrArg (fun l => l[1]?) cd_85).trans rfl
theorem c_85_2 : (zm_cd 85)[2]? = some ((2, .putfield 71, 3, 8, 8, 0, 0, 0, []) : zm_E) := (congrArg (fun l => l[2]?) cd_85).trans rfl
theorem c_85_3 : (zm_cd 85)[3]? = some ((5, .aload_n 0, 1, 0, 0, 0, 0, 0, []) : zm_E) := (congrArg (fun l => l[3]?) cd_85).trans rfl
theorem c_85_4 : (zm_cd 85)[4]? = some ((6, .getfield 75, 3, 8, 3, 0, 0, 0, []) : zm_E) := (congrArg (fun l => l[4]?) cd_85).trans rfl
theorem c_85_5 : (zm_cd 85)[5]? = some ((9, .ifCond .ne 9, 3, 10, 0, 0, 0, 0, []) : zm_E) := (congrArg (fun l => l[5]?) cd_85).trans rfl
theorem c_85_6 : (zm_cd 85)[6]? = some ((12, .aload_n 0, 1, 0, 0, 0, 0, 0, []) : zm_E) := (congrArg (fun l => l[6]?) cd_85).trans rfl
theorem c_85_7 : (zm_cd 85)[7]? = some ((13, .iconst 1, 1, 0, 0, 0, 1, 0, []) : zm_E) := (congrArg (fun l => l[7]?) cd_85).trans rfl
theorem c_85_8 : (zm_cd 85)[8]? = some ((14, .invokevirtual 119, 3, 43, 1, 1, 0, 0, [8]) : zm_E) := (congrArg (fun l => l[8]?) cd_85).trans rfl
theorem c_85_9 : (zm_cd 85)[9]? = some ((17, .ireturn, 1, 0, 0, 0, 0, 0, []) : zm_E) := (congrArg (fun l => l[9]?) cd_85).trans rfl
theorem c_85_10 : (zm_cd 85)[10]? = some ((18, .aload_n 0, 1, 0, 0, 0, 0, 0, []) : zm_E) := (congrArg (fun l => l[10]?) cd_85).trans rfl
theorem c_85_11 : (zm_cd 85)[11]? = some ((19, .dup, 1, 0, 0, 0, 0, 0, []) : zm_E) := (congrArg (fun l => l[11]?) cd_85).trans rfl
theorem c_85_12 : (zm_cd 85)[12]? = some ((20, .getfield 75, 3, 8, 3, 0, 0, 0, []) : zm_E) := (congrArg (fun l => l[12]?) cd_85).trans rfl
theorem c_85_13 : (zm_cd 85)[13]? = some ((23, .iconst 1, 1, 0, 0, 0, 1, 0, []) : zm_E) := (congrArg (fun l => l[13]?) cd_85).trans rfl
theorem c_85_14 : (zm_cd 85)[14]? = some ((24, .isub, 1, 0, 0, 0, 0, 0, []) : zm_E) := (congrArg (fun l => l[14]?) cd_85).trans rfl
theorem c_85_15 : (zm_cd 85)[15]? = some ((25, .putfield 75, 3, 8, 3, 0, 0, 0, []) : zm_E) := (congrArg (fun l => l[15]?) cd_85).trans rfl
theorem c_85_16 : (zm_cd 85)[16]? = some ((28, .iconst 0, 1, 0, 0, 0, 0, 0, []) : zm_E) := (congrArg (fun l => l[16]?) cd_85).trans rfl
theorem c_85_17 : (zm_cd 85)[17]? = some ((29, .istore_n 1, 1, 1, 0, 0, 0, 0, []) : zm_E) := (congrArg (fun l => l[17]?) cd_85).trans rfl
theorem c_85_18 : (zm_cd 85)[18]? = some ((30, .iload_n 1, 1, 1, 0, 0, 0, 0, []) : zm_E) := (congrArg (fun l => l[18]?) cd_85).trans rfl
theorem c_85_19 : (zm_cd 85)[19]? = some ((31, .bipush 58, 2, 0, 0, 0, 58, 0, []) : zm_E) := (congrArg (fun l => l[19]?) cd_85).trans rfl
theorem c_85_20 : (zm_cd 85)[20]? = some ((33, .if_icmp .ge 29, 3, 36, 0, 0, 0, 0, []) : zm_E) := (congrArg (fun l => l[20]?) cd_85).trans rfl
theorem c_85_21 : (zm_cd 85)[21]? = some ((36, .aload_n 0, 1, 0, 0, 0, 0, 0, []) : zm_E) := (congrArg (fun l => l[21]?) cd_85).trans rfl
theorem c_85_22 : (zm_cd 85)[22]? = some ((37, .getfield 7, 3, 8, 0, 1, 0, 0, []) : zm_E) := (congrArg (fun l => l[22]?) cd_85).trans rfl
theorem c_85_23 : (zm_cd 85)[23]? = some ((40, .iload_n 1, 1, 1, 0, 0, 0, 0, []) : zm_E) := (congrArg (fun l => l[23]?) cd_85).trans rfl
theorem c_85_24 : (zm_cd 85)[24]? = some ((41, .aload_n 0, 1, 0, 0, 0, 0, 0, []) : zm_E) := (congrArg (fun l => l[24]?) cd_85).trans rfl
theorem c_85_25 : (zm_cd 85)[25]? = some ((42, .getfield 16, 3, 8, 2, 1, 0, 0, []) : zm_E) := (congrArg (fun l => l[25]?) cd_85).trans rfl
theorem c_85_26 : (zm_cd 85)[26]? = some ((45, .bipush 58, 2, 0, 0, 0, 58, 0, []) : zm_E) := (congrArg (fun l => l[26]?) cd_85).trans rfl
theorem c_85_27 : (zm_cd 85)[27]? = some ((47, .aload_n 0, 1, 0, 0, 0, 0, 0, []) : zm_E) := (congrArg (fun l => l[27]?) cd_85).trans rfl
theorem c_85_28 : (zm_cd 85)[28]? = some ((48, .getfield 75, 3, 8, 3, 0, 0, 0, []) : zm_E) := (congrArg (fun l => l[28]?) cd_85).trans rfl
theorem c_85_29 : (zm_cd 85)[29]? = some ((51, .imul, 1, 0, 0, 0, 0, 0, []) : zm_E) := (congrArg (fun l => l[29]?) cd_85).trans rfl
theorem c_85_30 : (zm_cd 85)[30]? = some ((52, .iload_n 1, 1, 1, 0, 0, 0, 0, []) : zm_E) := (congrArg (fun l => l[30]?) cd_85).trans rfl
theorem c_85_31 : (zm_cd 85)[31]? = some ((53, .iadd, 1, 0, 0, 0, 0, 0, []) : zm_E) := (congrArg (fun l => l[31]?) cd_85).trans rfl
theorem c_85_32 : (zm_cd 85)[32]? = some ((54, .iaload, 1, 0, 0, 0, 0, 0, []) : zm_E) := (congrArg (fun l => l[32]?) cd_85).trans rfl
theorem c_85_33 : (zm_cd 85)[33]? = some ((55, .iastore, 1, 0, 0, 0, 0, 0, []) : zm_E) := (congrArg (fun l => l[33]?) cd_85).trans rfl
theorem c_85_34 : (zm_cd 85)[34]? = some ((56, .iinc 1 1, 3, 1, 0, 0, 1, 0, []) : zm_E) := (congrArg (fun l => l[34]?) cd_85).trans rfl
theorem c_85_35 : (zm_cd 85)[35]? = some ((59, .goto (-29), 3, 18, 0, 0, 0, 0, []) : zm_E) := (congrArg (fun l => l[35]?) cd_85).trans rfl
theorem c_85_36 : (zm_cd 85)[36]? = some ((62, .aload_n 0, 1, 0, 0, 0, 0, 0, []) : zm_E) := (congrArg (fun l => l[36]?) cd_85).trans rfl
theorem c_85_37 : (zm_cd 85)[37]? = some ((63, .getfield 75, 3, 8, 3, 0, 0, 0, []) : zm_E) := (congrArg (fun l => l[37]?) cd_85).trans rfl
theorem c_85_38 : (zm_cd 85)[38]? = some ((66, .ireturn, 1, 0, 0, 0, 0, 0, []) : zm_E) := (congrArg (fun l => l[38]?) cd_85).trans rfl
theorem cd_86 : zm_cd 86 = zd_86 := rfl
theorem ml_86 : zm_ml 86 = 6 := rfl
theorem ht_86 : zm_ht 86 = [] := rfl
theorem c_86_0 : (zm_cd 86)[0]? = some ((0, .aload_n 0, 1, 0, 0, 0, 0, 0, []) : zm_E) := (congrArg (fun l => l[0]?) cd_86).trans rfl
theorem c_86_1 : (zm_cd 86)[1]? = some ((1, .getfield 53, 3, 8, 21, 1, 0, 0, []) : zm_E) := (congrArg (fun l => l[1]?) cd_86).trans rfl
theorem c_86_2 : (zm_cd 86)[2]? = some ((4, .iconst 0, 1, 0, 0, 0, 0, 0, []) : zm_E) := (congrArg (fun l => l[2]?) cd_86).trans rfl
theorem c_86_3 : (zm_cd 86)[3]? = some ((5, .iconst 1, 1, 0, 0, 0, 1, 0, []) : zm_E) := (congrArg (fun l => l[3]?) cd_86).trans rfl
theorem c_86_4 : (zm_cd 86)[4]? = some ((6, .iastore, 1, 0, 0, 0, 0, 0, []) : zm_E) := (congrArg (fun l => l[4]?) cd_86).trans rfl
theorem c_86_5 : (zm_cd 86)[5]? = some ((7, .iconst 1, 1, 0, 0, 0, 1, 0, []) : zm_E) := (congrArg (fun l => l[5]?) cd_86).trans rfl
theorem c_86_6 : (zm_cd 86)[6]? = some ((8, .istore 4, 2, 4, 0, 0, 0, 0, []) : zm_E) := (congrArg (fun l => l[6]?) cd_86).trans rfl
theorem c_86_7 : (zm_cd 86)[7]? = some ((10, .iload 4, 2, 4, 0, 0, 0, 0, []) : zm_E) := (congrArg (fun l => l[7]?) cd_86).trans rfl
theorem c_86_8 : (zm_cd 86)[8]? = some ((12, .sipush 128, 3, 0, 0, 0, 128, 0, []) : zm_E) := (congrArg (fun l => l[8]?) cd_86).trans rfl
theorem c_86_9 : (zm_cd 86)[9]? = some ((15, .if_icmp .ge 17, 3, 17, 0, 0, 0, 0, []) : zm_E) := (congrArg (fun l => l[9]?) cd_86).trans rfl
theorem c_86_10 : (zm_cd 86)[10]? = some ((18, .aload_n 0, 1, 0, 0, 0, 0, 0, []) : zm_E) := (congrArg (fun l => l[10]?) cd_86).trans rfl
theorem c_86_11 : (zm_cd 86)[11]? = some ((19, .getfield 53, 3, 8, 21, 1, 0, 0, []) : zm_E) := (congrArg (fun l => l[11]?) cd_86).trans rfl
theorem c_86_12 : (zm_cd 86)[12]? = some ((22, .iload 4, 2, 4, 0, 0, 0, 0, []) : zm_E) := (congrArg (fun l => l[12]?) cd_86).trans rfl
theorem c_86_13 : (zm_cd 86)[13]? = some ((24, .iconst 0, 1, 0, 0, 0, 0, 0, []) : zm_E) := (congrArg (fun l => l[13]?) cd_86).trans rfl
theorem c_86_14 : (zm_cd 86)[14]? = some ((25, .iastore, 1, 0, 0, 0, 0, 0, []) : zm_E) := (congrArg (fun l => l[14]?) cd_86).trans rfl
theorem c_86_15 : (zm_cd 86)[15]? = some ((26, .iinc 4 1, 3, 4, 0, 0, 1, 0, []) : zm_E) := (congrArg (fun l => l[15]?) cd_86).trans rfl
theorem c_86_16 : (zm_cd 86)[16]? = some ((29, .goto (-19), 3, 7, 0, 0, 0, 0, []) : zm_E) := (congrArg (fun l => l[16]?) cd_86).trans rfl
theorem c_86_17 : (zm_cd 86)[17]? = some ((32, .iconst 0, 1, 0, 0, 0, 0, 0, []) : zm_E) := (congrArg (fun l => l[17]?) cd_86).trans rfl
theorem c_86_18 : (zm_cd 86)[18]? = some ((33, .istore 4, 2, 4, 0, 0, 0, 0, []) : zm_E) := (congrArg (fun l => l[18]?) cd_86).trans rfl
theorem c_86_19 : (zm_cd 86)[19]? = some ((35, .iconst 0, 1, 0, 0, 0, 0, 0, []) : zm_E) := (congrArg (fun l => l[19]?) cd_86).trans rfl
theorem c_86_20 : (zm_cd 86)[20]? = some ((36, .istore 5, 2, 5, 0, 0, 0, 0, []) : zm_E) := (congrArg (fun l => l[20]?) cd_86).trans rfl
theorem c_86_21 : (zm_cd 86)[21]? = some ((38, .iload 5, 2, 5, 0, 0, 0, 0, []) : zm_E) := (congrArg (fun l => l[21]?) cd_86).trans rfl
theorem c_86_22 : (zm_cd 86)[22]? = some ((40, .aload_n 0, 1, 0, 0, 0, 0, 0, []) : zm_E) := (congrArg (fun l => l[22]?) cd_86).trans rfl
theorem c_86_23 : (zm_cd 86)[23]? = some ((41, .getfield 7, 3, 8, 0, 1, 0, 0, []) : zm_E) := (congrArg (fun l => l[23]?) cd_86).trans rfl
theorem c_86_24 : (zm_cd 86)[24]? = some ((44, .iconst 0, 1, 0, 0, 0, 0, 0, []) : zm_E) := (congrArg (fun l => l[24]?) cd_86).trans rfl
theorem c_86_25 : (zm_cd 86)[25]? = some ((45, .iaload, 1, 0, 0, 0, 0, 0, []) : zm_E) := (congrArg (fun l => l[25]?) cd_86).trans rfl
theorem c_86_26 : (zm_cd 86)[26]? = some ((46, .if_icmp .ge 31, 3, 40, 0, 0, 0, 0, []) : zm_E) := (congrArg (fun l => l[26]?) cd_86).trans rfl
theorem c_86_27 : (zm_cd 86)[27]? = some ((49, .iload_n 1, 1, 1, 0, 0, 0, 0, []) : zm_E) := (congrArg (fun l => l[27]?) cd_86).trans rfl
theorem c_86_28 : (zm_cd 86)[28]? = some ((50, .iload 5, 2, 5, 0, 0, 0, 0, []) : zm_E) := (congrArg (fun l => l[28]?) cd_86).trans rfl
theorem c_86_29 : (zm_cd 86)[29]? = some ((52, .invokestatic 82, 3, 41, 2, 1, 0, 0, []) : zm_E) := (congrArg (fun l => l[29]?) cd_86).trans rfl
theorem c_86_30 : (zm_cd 86)[30]? = some ((55, .ifCond .eq 16, 3, 38, 0, 0, 0, 0, []) : zm_E) := (congrArg (fun l => l[30]?) cd_86).trans rfl
theorem c_86_31 : (zm_cd 86)[31]? = some ((58, .aload_n 0, 1, 0, 0, 0, 0, 0, []) : zm_E) := (congrArg (fun l => l[31]?) cd_86).trans rfl
theorem c_86_32 : (zm_cd 86)[32]? = some ((59, .iload 5, 2, 5, 0, 0, 0, 0, []) : zm_E) := (congrArg (fun l => l[32]?) cd_86).trans rfl
theorem c_86_33 : (zm_cd 86)[33]? = some ((61, .iload_n 2, 1, 2, 0, 0, 0, 0, []) : zm_E) := (congrArg (fun l => l[33]?) cd_86).trans rfl
theorem c_86_34 : (zm_cd 86)[34]? = some ((62, .iload_n 3, 1, 3, 0, 0, 0, 0, []) : zm_E) := (congrArg (fun l => l[34]?) cd_86).trans rfl
theorem c_86_35 : (zm_cd 86)[35]? = some ((63, .iload 4, 2, 4, 0, 0, 0, 0, []) : zm_E) := (congrArg (fun l => l[35]?) cd_86).trans rfl
theorem c_86_36 : (zm_cd 86)[36]? = some ((65, .invokevirtual 186, 3, 87, 4, 0, 0, 0, [8]) : zm_E) := (congrArg (fun l => l[36]?) cd_86).trans rfl
theorem c_86_37 : (zm_cd 86)[37]? = some ((68, .iinc 4 1, 3, 4, 0, 0, 1, 0, []) : zm_E) := (congrArg (fun l => l[37]?) cd_86).trans rfl
theorem c_86_38 : (zm_cd 86)[38]? = some ((71, .iinc 5 1, 3, 5, 0, 0, 1, 0, []) : zm_E) := (congrArg (fun l => l[38]?) cd_86).trans rfl
theorem c_86_39 : (zm_cd 86)[39]? = some ((74, .goto (-36), 3, 21, 0, 0, 0, 0, []) : zm_E) := (congrArg (fun l => l[39]?) cd_86).trans rfl
theorem c_86_40 : (zm_cd 86)[40]? = some ((77, .aload_n 0, 1, 0, 0, 0, 0, 0, []) : zm_E) := (congrArg (fun l => l[40]?) cd_86).trans rfl
theorem c_86_41 : (zm_cd 86)[41]? = some ((78, .getfield 53, 3, 8, 21, 1, 0, 0, []) : zm_E) := (congrArg (fun l => l[41]?) cd_86).trans rfl
theorem c_86_42 : (zm_cd 86)[42]? = some ((81, .iload_n 2, 1, 2, 0, 0, 0, 0, []) : zm_E) := (congrArg (fun l => l[42]?) cd_86).trans rfl
theorem c_86_43 : (zm_cd 86)[43]? = some ((82, .iaload, 1, 0, 0, 0, 0, 0, []) : zm_E) := (congrArg (fun l => l[43]?) cd_86).trans rfl
theorem c_86_44 : (zm_cd 86)[44]? = some ((83, .ireturn, 1, 0, 0, 0, 0, 0, []) : zm_E) := (congrArg (fun l => l[44]?) cd_86).trans rfl
theorem cd_87 : zm_cd 87 = zd_87 := rfl
theorem ml_87 : zm_ml 87 = 9 := rfl
theorem ht_87 : zm_ht 87 = [] := rfl
theorem c_87_0 : (zm_cd 87)[0]? = some ((0, .bipush 127, 2, 0, 0, 0, 127, 0, []) : zm_E) := (congrArg (fun l => l[0]?) cd_87).trans rfl
theorem c_87_1 : (zm_cd 87)[1]? = some ((2, .istore 5, 2, 5, 0, 0, 0, 0, []) : zm_E) := (congrArg (fun l => l[1]?) cd_87).trans rfl
theorem c_87_2 : (zm_cd 87)[2]? = some ((4, .iload 5, 2, 5, 0, 0, 0, 0, []) : zm_E) := (congrArg (fun l => l[2]?) cd_87).trans rfl
theorem c_87_3 : (zm_cd 87)[3]? = some ((6, .ifCond .lt 170, 3, 93, 0, 0, 0, 0, []) : zm_E) := (congrArg (fun l => l[3]?) cd_87).trans rfl
theorem c_87_4 : (zm_cd 87)[4]? = some ((9, .iload 5, 2, 5, 0, 0, 0, 0, []) : zm_E) := (congrArg (fun l => l[4]?) cd_87).trans rfl
theorem c_87_5 : (zm_cd 87)[5]? = some ((11, .iload_n 2, 1, 2, 0, 0, 0, 0, []) : zm_E) := (congrArg (fun l => l[5]?) cd_87).trans rfl
theorem c_87_6 : (zm_cd 87)[6]? = some ((12, .iconst (-1), 1, 0, 0, 0, (-1), 0, []) : zm_E) := (congrArg (fun l => l[6]?) cd_87).trans rfl
theorem c_87_7 : (zm_cd 87)[7]? = some ((13, .ixor, 1, 0, 0, 0, 0, 0, []) : zm_E) := (congrArg (fun l => l[7]?) cd_87).trans rfl
theorem c_87_8 : (zm_cd 87)[8]? = some ((14, .iand, 1, 0, 0, 0, 0, 0, []) : zm_E) := (congrArg (fun l => l[8]?) cd_87).trans rfl
theorem c_87_9 : (zm_cd 87)[9]? = some ((15, .ifCond .ne 155, 3, 91, 0, 0, 0, 0, []) : zm_E) := (congrArg (fun l => l[9]?) cd_87).trans rfl
theorem c_87_10 : (zm_cd 87)[10]? = some ((18, .iload 5, 2, 5, 0, 0, 0, 0, []) : zm_E) := (congrArg (fun l => l[10]?) cd_87).trans rfl
theorem c_87_11 : (zm_cd 87)[11]? = some ((20, .invokestatic 86, 3, 42, 1, 1, 0, 0, []) : zm_E) := (congrArg (fun l => l[11]?) cd_87).trans rfl
theorem c_87_12 : (zm_cd 87)[12]? = some ((23, .iload 4, 2, 4, 0, 0, 0, 0, []) : zm_E) := (congrArg (fun l => l[12]?) cd_87).trans rfl
theorem c_87_13 : (zm_cd 87)[13]? = some ((25, .if_icmp .ne 145, 3, 91, 0, 0, 0, 0, []) : zm_E) := (congrArg (fun l => l[13]?) cd_87).trans rfl
theorem c_87_14 : (zm_cd 87)[14]? = some ((28, .aload_n 0, 1, 0, 0, 0, 0, 0, []) : zm_E) := (congrArg (fun l => l[14]?) cd_87).trans rfl
theorem c_87_15 : (zm_cd 87)[15]? = some ((29, .getfield 53, 3, 8, 21, 1, 0, 0, []) : zm_E) := (congrArg (fun l => l[15]?) cd_87).trans rfl
theorem c_87_16 : (zm_cd 87)[16]? = some ((32, .iload 5, 2, 5, 0, 0, 0, 0, []) : zm_E) := (congrArg (fun l => l[16]?) cd_87).trans rfl
theorem c_87_17 : (zm_cd 87)[17]? = some ((34, .iaload, 1, 0, 0, 0, 0, 0, []) : zm_E) := (congrArg (fun l => l[17]?) cd_87).trans rfl
theorem c_87_18 : (zm_cd 87)[18]? = some ((35, .ifCond .le 135, 3, 91, 0, 0, 0, 0, []) : zm_E) := (congrArg (fun l => l[18]?) cd_87).trans rfl
theorem c_87_19 : (zm_cd 87)[19]? = some ((38, .iconst 0, 1, 0, 0, 0, 0, 0, []) : zm_E) := (congrArg (fun l => l[19]?) cd_87).trans rfl
theorem c_87_20 : (zm_cd 87)[20]? = some ((39, .istore 6, 2, 6, 0, 0, 0, 0, []) : zm_E) := (congrArg (fun l => l[20]?) cd_87).trans rfl
theorem c_87_21 : (zm_cd 87)[21]? = some ((41, .iload 6, 2, 6, 0, 0, 0, 0, []) : zm_E) := (congrArg (fun l => l[21]?) cd_87).trans rfl
theorem c_87_22 : (zm_cd 87)[22]? = some ((43, .aload_n 0, 1, 0, 0, 0, 0, 0, []) : zm_E) := (congrArg (fun l => l[22]?) cd_87).trans rfl
theorem c_87_23 : (zm_cd 87)[23]? = some ((44, .getfield 7, 3, 8, 0, 1, 0, 0, []) : zm_E) := (congrArg (fun l => l[23]?) cd_87).trans rfl
theorem c_87_24 : (zm_cd 87)[24]? = some ((47, .iconst 0, 1, 0, 0, 0, 0, 0, []) : zm_E) := (congrArg (fun l => l[24]?) cd_87).trans rfl
theorem c_87_25 : (zm_cd 87)[25]? = some ((48, .iaload, 1, 0, 0, 0, 0, 0, []) : zm_E) := (congrArg (fun l => l[25]?) cd_87).trans rfl
theorem c_87_26 : (zm_cd 87)[26]? = some ((49, .if_icmp .ge 121, 3, 91, 0, 0, 0, 0, []) : zm_E) := (congrArg (fun l => l[26]?) cd_87).trans rfl
theorem c_87_27 : (zm_cd 87)[27]? = some ((52, .aload_n 0, 1, 0, 0, 0, 0, 0, []) : zm_E) := (congrArg (fun l => l[27]?) cd_87).trans rfl
theorem c_87_28 : (zm_cd 87)[28]? = some ((53, .iload_n 1, 1, 1, 0, 0, 0, 0, []) : zm_E) := (congrArg (fun l => l[28]?) cd_87).trans rfl
theorem c_87_29 : (zm_cd 87)[29]? = some ((54, .iload 6, 2, 6, 0, 0, 0, 0, []) : zm_E) := (congrArg (fun l => l[29]?) cd_87).trans rfl
theorem c_87_30 : (zm_cd 87)[30]? = some ((56, .invokevirtual 93, 3, 49, 2, 1, 0, 0, [8]) : zm_E) := (congrArg (fun l => l[30]?) cd_87).trans rfl
theorem c_87_31 : (zm_cd 87)[31]? = some ((59, .aload_n 0, 1, 0, 0, 0, 0, 0, []) : zm_E) := (congrArg (fun l => l[31]?) cd_87).trans rfl
theorem c_87_32 : (zm_cd 87)[32]? = some ((60, .iload_n 1, 1, 1, 0, 0, 0, 0, []) : zm_E) := (congrArg (fun l => l[32]?) cd_87).trans rfl
theorem c_87_33 : (zm_cd 87)[33]? = some ((61, .aload_n 0, 1, 0, 0, 0, 0, 0, []) : zm_E) := (congrArg (fun l => l[33]?) cd_87).trans rfl
theorem c_87_34 : (zm_cd 87)[34]? = some ((62, .iload_n 1, 1, 1, 0, 0, 0, 0, []) : zm_E) := (congrArg (fun l => l[34]?) cd_87).trans rfl
theorem c_87_35 : (zm_cd 87)[35]? = some ((63, .invokevirtual 90, 3, 50, 1, 1, 0, 0, [8]) : zm_E) := (congrArg (fun l => l[35]?) cd_87).trans rfl
theorem c_87_36 : (zm_cd 87)[36]? = some ((66, .invokevirtual 93, 3, 49, 2, 1, 0, 0, [8]) : zm_E) := (congrArg (fun l => l[36]?) cd_87).trans rfl
theorem c_87_37 : (zm_cd 87)[37]? = some ((69, .isub, 1, 0, 0, 0, 0, 0, []) : zm_E) := (congrArg (fun l => l[37]?) cd_87).trans rfl
theorem c_87_38 : (zm_cd 87)[38]? = some ((70, .istore 7, 2, 7, 0, 0, 0, 0, []) : zm_E) := (congrArg (fun l => l[38]?) cd_87).trans rfl
theorem c_87_39 : (zm_cd 87)[39]? = some ((72, .iload_n 3, 1, 3, 0, 0, 0, 0, []) : zm_E) := (congrArg (fun l => l[39]?) cd_87).trans rfl
theorem c_87_40 : (zm_cd 87)[40]? = some ((73, .ifCond .ne 16, 3, 47, 0, 0, 0, 0, []) : zm_E) := (congrArg (fun l => l[40]?) cd_87).trans rfl
theorem c_87_41 : (zm_cd 87)[41]? = some ((76, .iload 7, 2, 7, 0, 0, 0, 0, []) : zm_E) := (congrArg (fun l => l[41]?) cd_87).trans rfl
theorem c_87_42 : (zm_cd 87)[42]? = some ((78, .ifCond .gt 7, 3, 45, 0, 0, 0, 0, []) : zm_E) := (congrArg (fun l => l[42]?) cd_87).trans rfl
theorem c_87_43 : (zm_cd 87)[43]? = some ((81, .iconst 1, 1, 0, 0, 0, 1, 0, []) : zm_E) := (congrArg (fun l => l[43]?) cd_87).trans rfl
theorem c_87_44 : (zm_cd 87)[44]? = some ((82, .goto 35, 3, 61, 0, 0, 0, 0, []) : zm_E) := (congrArg (fun l => l[44]?) cd_87).trans rfl
theorem c_87_45 : (zm_cd 87)[45]? = some ((85, .iconst 0, 1, 0, 0, 0, 0, 0, []) : zm_E) := (congrArg (fun l => l[45]?) cd_87).trans rfl
theorem c_87_46 : (zm_cd 87)[46]? = some ((86, .goto 31, 3, 61, 0, 0, 0, 0, []) : zm_E) := (congrArg (fun l => l[46]?) cd_87).trans rfl
theorem c_87_47 : (zm_cd 87)[47]? = some ((89, .iload_n 3, 1, 3, 0, 0, 0, 0, []) : zm_E) := (congrArg (fun l => l[47]?) cd_87).trans rfl
theorem c_87_48 : (zm_cd 87)[48]? = some ((90, .iconst 1, 1, 0, 0, 0, 1, 0, []) : zm_E) := (congrArg (fun l => l[48]?) cd_87).trans rfl
theorem c_87_49 : (zm_cd 87)[49]? = some ((91, .if_icmp .ne 16, 3, 56, 0, 0, 0, 0, []) : zm_E) := (congrArg (fun l => l[49]?) cd_87).trans rfl
theorem c_87_50 : (zm_cd 87)[50]? = some ((94, .iload 7, 2, 7, 0, 0, 0, 0, []) : zm_E) := (congrArg (fun l => l[50]?) cd_87).trans rfl
theorem c_87_51 : (zm_cd 87)[51]? = some ((96, .ifCond .ne 7, 3, 54, 0, 0, 0, 0, []) : zm_E) := (congrArg (fun l => l[51]?) cd_87).trans rfl
theorem c_87_52 : (zm_cd 87)[52]? = some ((99, .iconst 1, 1, 0, 0, 0, 1, 0, []) : zm_E) := (congrArg (fun l => l[52]?) cd_87).trans rfl
theorem c_87_53 : (zm_cd 87)[53]? = some ((100, .goto 17, 3, 61, 0, 0, 0, 0, []) : zm_E) := (congrArg (fun l => l[53]?) cd_87).trans rfl
theorem c_87_54 : (zm_cd 87)[54]? = some ((103, .iconst 0, 1, 0, 0, 0, 0, 0, []) : zm_E) := (congrArg (fun l => l[54]?) cd_87).trans rfl
theorem c_87_55 : (zm_cd 87)[55]? = some ((104, .goto 13, 3, 61, 0, 0, 0, 0, []) : zm_E) := (congrArg (fun l => l[55]?) cd_87).trans rfl
theorem c_87_56 : (zm_cd 87)[56]? = some ((107, .iload 7, 2, 7, 0, 0, 0, 0, []) : zm_E) := (congrArg (fun l => l[56]?) cd_87).trans rfl
theorem c_87_57 : (zm_cd 87)[57]? = some ((109, .ifCond .ge 7, 3, 60, 0, 0, 0, 0, []) : zm_E) := (congrArg (fun l => l[57]?) cd_87).trans rfl
theorem c_87_58 : (zm_cd 87)[58]? = some ((112, .iconst 1, 1, 0, 0, 0, 1, 0, []) : zm_E) := (congrArg (fun l => l[58]?) cd_87).trans rfl
theorem c_87_59 : (zm_cd 87)[59]? = some ((113, .goto 4, 3, 61, 0, 0, 0, 0, []) : zm_E) := (congrArg (fun l => l[59]?) cd_87).trans rfl
theorem c_87_60 : (zm_cd 87)[60]? = some ((116, .iconst 0, 1, 0, 0, 0, 0, 0, []) : zm_E) := (congrArg (fun l => l[60]?) cd_87).trans rfl
theorem c_87_61 : (zm_cd 87)[61]? = some ((117, .istore 8, 2, 8, 0, 0, 0, 0, []) : zm_E) := (congrArg (fun l => l[61]?) cd_87).trans rfl
theorem c_87_62 : (zm_cd 87)[62]? = some ((119, .aload_n 0, 1, 0, 0, 0, 0, 0, []) : zm_E) := (congrArg (fun l => l[62]?) cd_87).trans rfl
theorem c_87_63 : (zm_cd 87)[63]? = some ((120, .getfield 53, 3, 8, 21, 1, 0, 0, []) : zm_E) := (congrArg (fun l => l[63]?) cd_87).trans rfl
theorem c_87_64 : (zm_cd 87)[64]? = some ((123, .iload 5, 2, 5, 0, 0, 0, 0, []) : zm_E) := (congrArg (fun l => l[64]?) cd_87).trans rfl
theorem c_87_65 : (zm_cd 87)[65]? = some ((125, .iconst 1, 1, 0, 0, 0, 1, 0, []) : zm_E) := (congrArg (fun l => l[65]?) cd_87).trans rfl
theorem c_87_66 : (zm_cd 87)[66]? = some ((126, .iload 6, 2, 6, 0, 0, 0, 0, []) : zm_E) := (congrArg (fun l => l[66]?) cd_87).trans rfl
theorem c_87_67 : (zm_cd 87)[67]? = some ((128, .ishl, 1, 0, 0, 0, 0, 0, []) : zm_E) := (congrArg (fun l => l[67]?) cd_87).trans rfl
theorem c_87_68 : (zm_cd 87)[68]? = some ((129, .ior, 1, 0, 0, 0, 0, 0, []) : zm_E) := (congrArg (fun l => l[68]?) cd_87).trans rfl
theorem c_87_69 : (zm_cd 87)[69]? = some ((130, .dup2, 1, 0, 0, 0, 0, 0, []) : zm_E) := (congrArg (fun l => l[69]?) cd_87).trans rfl
theorem c_87_70 : (zm_cd 87)[70]? = some ((131, .iaload, 1, 0, 0, 0, 0, 0, []) : zm_E) := (congrArg (fun l => l[70]?) cd_87).trans rfl
theorem c_87_71 : (zm_cd 87)[71]? = some ((132, .iload 8, 2, 8, 0, 0, 0, 0, []) : zm_E) := (congrArg (fun l => l[71]?) cd_87).trans rfl
theorem c_87_72 : (zm_cd 87)[72]? = some ((134, .ifCond .eq 27, 3, 86, 0, 0, 0, 0, []) : zm_E) := (congrArg (fun l => l[72]?) cd_87).trans rfl
theorem c_87_73 : (zm_cd 87)[73]? = some ((137, .iload_n 2, 1, 2, 0, 0, 0, 0, []) : zm_E) := (congrArg (fun l => l[73]?) cd_87).trans rfl
theorem c_87_74 : (zm_cd 87)[74]? = some ((138, .iload 5, 2, 5, 0, 0, 0, 0, []) : zm_E) := (congrArg (fun l => l[74]?) cd_87).trans rfl
theorem c_87_75 : (zm_cd 87)[75]? = some ((140, .iconst (-1), 1, 0, 0, 0, (-1), 0, []) : zm_E) := (congrArg (fun l => l[75]?) cd_87).trans rfl
theorem c_87_76 : (zm_cd 87)[76]? = some ((141, .ixor, 1, 0, 0, 0, 0, 0, []) : zm_E) := (congrArg (fun l => l[76]?) cd_87).trans rfl
theorem c_87_77 : (zm_cd 87)[77]? = some ((142, .iand, 1, 0, 0, 0, 0, 0, []) : zm_E) := (congrArg (fun l => l[77]?) cd_87).trans rfl
theorem c_87_78 : (zm_cd 87)[78]? = some ((143, .iload 6, 2, 6, 0, 0, 0, 0, []) : zm_E) := (congrArg (fun l => l[78]?) cd_87).trans rfl
theorem c_87_79 : (zm_cd 87)[79]? = some ((145, .invokestatic 82, 3, 41, 2, 1, 0, 0, []) : zm_E) := (congrArg (fun l => l[79]?) cd_87).trans rfl
theorem c_87_80 : (zm_cd 87)[80]? = some ((148, .ifCond .eq 13, 3, 86, 0, 0, 0, 0, []) : zm_E) := (congrArg (fun l => l[80]?) cd_87).trans rfl
theorem c_87_81 : (zm_cd 87)[81]? = some ((151, .aload_n 0, 1, 0, 0, 0, 0, 0, []) : zm_E) := (congrArg (fun l => l[81]?) cd_87).trans rfl
theorem c_87_82 : (zm_cd 87)[82]? = some ((152, .getfield 53, 3, 8, 21, 1, 0, 0, []) : zm_E) := (congrArg (fun l => l[82]?) cd_87).trans rfl
theorem c_87_83 : (zm_cd 87)[83]? = some ((155, .iload 5, 2, 5, 0, 0, 0, 0, []) : zm_E) := (congrArg (fun l => l[83]?) cd_87).trans rfl
theorem c_87_84 : (zm_cd 87)[84]? = some ((157, .iaload, 1, 0, 0, 0, 0, 0, []) : zm_E) := (congrArg (fun l => l[84]?) cd_87).trans rfl
theorem c_87_85 : (zm_cd 87)[85]? = some ((158, .goto 4, 3, 87, 0, 0, 0, 0, []) : zm_E) := (congrArg (fun l => l[85]?) cd_87).trans rfl
theorem c_87_86 : (zm_cd 87)[86]? = some ((161, .iconst 0, 1, 0, 0, 0, 0, 0, []) : zm_E) := (congrArg (fun l => l[86]?) cd_87).trans rfl
theorem c_87_87 : (zm_cd 87)[87]? = some ((162, .iadd, 1, 0, 0, 0, 0, 0, []) : zm_E) := (congrArg (fun l => l[87]?) cd_87).trans rfl
theorem c_87_88 : (zm_cd 87)[88]? = some ((163, .iastore, 1, 0, 0, 0, 0, 0, []) : zm_E) := (congrArg (fun l => l[88]?) cd_87).trans rfl
theorem c_87_89 : (zm_cd 87)[89]? = some ((164, .iinc 6 1, 3, 6, 0, 0, 1, 0, []) : zm_E) := (congrArg (fun l => l[89]?) cd_87).trans rfl
theorem c_87_90 : (zm_cd 87)[90]? = some ((167, .goto (-126), 3, 21, 0, 0, 0, 0, []) : zm_E) := (congrArg (fun l => l[90]?) cd_87).trans rfl
theorem c_87_91 : (zm_cd 87)[91]? = some ((170, .iinc 5 (-1), 3, 5, 0, 0, (-1), 0, []) : zm_E) := (congrArg (fun l => l[91]?) cd_87).trans rfl
theorem c_87_92 : (zm_cd 87)[92]? = some ((173, .goto (-169), 3, 2, 0, 0, 0, 0, []) : zm_E) := (congrArg (fun l => l[92]?) cd_87).trans rfl
theorem c_87_93 : (zm_cd 87)[93]? = some ((176, .return_, 1, 0, 0, 0, 0, 0, []) : zm_E) := (congrArg (fun l => l[93]?) cd_87).trans rfl
theorem cd_88 : zm_cd 88 = zd_88 := rfl
theorem ml_88 : zm_ml 88 = 3 := rfl
theorem ht_88 : zm_ht 88 = [] := rfl
theorem c_88_0 : (zm_cd 88)[0]? = some ((0, .iload_n 2, 1, 2, 0, 0, 0, 0, []) : zm_E) := (congrArg (fun l => l[0]?) cd_88).trans rfl
theorem c_88_1 : (zm_cd 88)[1]? = some ((1, .ifCond .eq 21, 3, 12, 0, 0, 0, 0, []) : zm_E) := (congrArg (fun l => l[1]?) cd_88).trans rfl
theorem c_88_2 : (zm_cd 88)[2]? = some ((4, .aload_n 0, 1, 0, 0, 0, 0, 0, []) : zm_E) := (congrArg (fun l => l[2]?) cd_88).trans rfl
theorem c_88_3 : (zm_cd 88)[3]? = some ((5, .iload_n 1, 1, 1, 0, 0, 0, 0, []) : zm_E) := (congrArg (fun l => l[3]?) cd_88).trans rfl
theorem c_88_4 : (zm_cd 88)[4]? = some ((6, .iload_n 1, 1, 1, 0, 0, 0, 0, []) : zm_E) := (congrArg (fun l => l[4]?) cd_88).trans rfl
theorem c_88_5 : (zm_cd 88)[5]? = some ((7, .iconst 2, 1, 0, 0, 0, 2, 0, []) : zm_E) := (congrArg (fun l => l[5]?) cd_88).trans rfl
theorem c_88_6 : (zm_cd 88)[6]? = some ((8, .invokevirtual 190, 3, 86, 3, 1, 0, 0, [8]) : zm_E) := (congrArg (fun l => l[6]?) cd_88).trans rfl
theorem c_88_7 : (zm_cd 88)[7]? = some ((11, .ifCond .le 7, 3, 10, 0, 0, 0, 0, []) : zm_E) := (congrArg (fun l => l[7]?) cd_88).trans rfl
theorem c_88_8 : (zm_cd 88)[8]? = some ((14, .iconst 1, 1, 0, 0, 0, 1, 0, []) : zm_E) := (congrArg (fun l => l[8]?) cd_88).trans rfl
theorem c_88_9 : (zm_cd 88)[9]? = some ((15, .goto 29, 3, 26, 0, 0, 0, 0, []) : zm_E) := (congrArg (fun l => l[9]?) cd_88).trans rfl
theorem c_88_10 : (zm_cd 88)[10]? = some ((18, .iconst 0, 1, 0, 0, 0, 0, 0, []) : zm_E) := (congrArg (fun l => l[10]?) cd_88).trans rfl
theorem c_88_11 : (zm_cd 88)[11]? = some ((19, .goto 25, 3, 26, 0, 0, 0, 0, []) : zm_E) := (congrArg (fun l => l[11]?) cd_88).trans rfl
theorem c_88_12 : (zm_cd 88)[12]? = some ((22, .aload_n 0, 1, 0, 0, 0, 0, 0, []) : zm_E) := (congrArg (fun l => l[12]?) cd_88).trans rfl
theorem c_88_13 : (zm_cd 88)[13]? = some ((23, .iload_n 1, 1, 1, 0, 0, 0, 0, []) : zm_E) := (congrArg (fun l => l[13]?) cd_88).trans rfl
theorem c_88_14 : (zm_cd 88)[14]? = some ((24, .iload_n 1, 1, 1, 0, 0, 0, 0, []) : zm_E) := (congrArg (fun l => l[14]?) cd_88).trans rfl
theorem c_88_15 : (zm_cd 88)[15]? = some ((25, .iconst 0, 1, 0, 0, 0, 0, 0, []) : zm_E) := (congrArg (fun l => l[15]?) cd_88).trans rfl
theorem c_88_16 : (zm_cd 88)[16]? = some ((26, .invokevirtual 190, 3, 86, 3, 1, 0, 0, [8]) : zm_E) := (congrArg (fun l => l[16]?) cd_88).trans rfl
theorem c_88_17 : (zm_cd 88)[17]? = some ((29, .aload_n 0, 1, 0, 0, 0, 0, 0, []) : zm_E) := (congrArg (fun l => l[17]?) cd_88).trans rfl
theorem c_88_18 : (zm_cd 88)[18]? = some ((30, .iload_n 1, 1, 1, 0, 0, 0, 0, []) : zm_E) := (congrArg (fun l => l[18]?) cd_88).trans rfl
theorem c_88_19 : (zm_cd 88)[19]? = some ((31, .iload_n 1, 1, 1, 0, 0, 0, 0, []) : zm_E) := (congrArg (fun l => l[19]?) cd_88).trans rfl
theorem c_88_20 : (zm_cd 88)[20]? = some ((32, .iconst 1, 1, 0, 0, 0, 1, 0, []) : zm_E) := (congrArg (fun l => l[20]?) cd_88).trans rfl
theorem c_88_21 : (zm_cd 88)[21]? = some ((33, .invokevirtual 190, 3, 86, 3, 1, 0, 0, [8]) : zm_E) := (congrArg (fun l => l[21]?) cd_88).trans rfl
theorem c_88_22 : (zm_cd 88)[22]? = some ((36, .if_icmp .le 7, 3, 25, 0, 0, 0, 0, []) : zm_E) := (congrArg (fun l => l[22]?) cd_88).trans rfl
theorem c_88_23 : (zm_cd 88)[23]? = some ((39, .iconst 1, 1, 0, 0, 0, 1, 0, []) : zm_E) := (congrArg (fun l => l[23]?) cd_88).trans rfl
theorem c_88_24 : (zm_cd 88)[24]? = some ((40, .goto 4, 3, 26, 0, 0, 0, 0, []) : zm_E) := (congrArg (fun l => l[24]?) cd_88).trans rfl
theorem c_88_25 : (zm_cd 88)[25]? = some ((43, .iconst 0, 1, 0, 0, 0, 0, 0, []) : zm_E) := (congrArg (fun l => l[25]?) cd_88).trans rfl
theorem c_88_26 : (zm_cd 88)[26]? = some ((44, .ireturn, 1, 1, 0, 0, 0, 0, []) : zm_E) := (congrArg (fun l => l[26]?) cd_88).trans rfl
