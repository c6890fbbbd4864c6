/-! the instructions, by program, part 0 -/
theorem cd_1 : zm_cd 1 = zd_1 := rfl
theorem ml_1 : zm_ml 1 = 2 := rfl
theorem ht_1 : zm_ht 1 = [] := rfl
theorem c_1_0 : (zm_cd 1)[0]? = some ((0, .iload_n 1, 1, 1, 0, 0, 0, 0, []) : zm_E) := (congrArg (fun l => l[0]?) cd_1).trans rfl
theorem c_1_1 : (zm_cd 1)[1]? = some ((1, .ifCond .lt 10, 3, 5, 0, 0, 0, 0, []) : zm_E) := (congrArg (fun l => l[1]?) cd_1).trans rfl
theorem c_1_2 : (zm_cd 1)[2]? = some ((4, .iload_n 1, 1, 1, 0, 0, 0, 0, []) : zm_E) := (congrArg (fun l => l[2]?) cd_1).trans rfl
theorem c_1_3 : (zm_cd 1)[3]? = some ((5, .sipush 255, 3, 0, 0, 0, 255, 0, []) : zm_E) := (congrArg (fun l => l[3]?) cd_1).trans rfl
theorem c_1_4 : (zm_cd 1)[4]? = some ((8, .if_icmp .le 13, 3, 10, 0, 0, 0, 0, []) : zm_E) := (congrArg (fun l => l[4]?) cd_1).trans rfl
theorem c_1_5 : (zm_cd 1)[5]? = some ((11, .new 74, 3, 0, 0, 1, 0, 0, [76, 78, 0, 0]) : zm_E) := (congrArg (fun l => l[5]?) cd_1).trans rfl
theorem c_1_6 : (zm_cd 1)[6]? = some ((14, .dup, 1, 0, 0, 0, 0, 0, []) : zm_E) := (congrArg (fun l => l[6]?) cd_1).trans rfl
theorem c_1_7 : (zm_cd 1)[7]? = some ((15, .ldc 76, 2, 0, 0, 1, 0, 0, []) : zm_E) := (congrArg (fun l => l[7]?) cd_1).trans rfl
theorem c_1_8 : (zm_cd 1)[8]? = some ((17, .invokespecial 78, 3, 1002, 1, 0, 0, 0, []) : zm_E) := (congrArg (fun l => l[8]?) cd_1).trans rfl
theorem c_1_9 : (zm_cd 1)[9]? = some ((20, .athrow, 1, 0, 0, 0, 0, 0, []) : zm_E) := (congrArg (fun l => l[9]?) cd_1).trans rfl
theorem c_1_10 : (zm_cd 1)[10]? = some ((21, .aload_n 0, 1, 0, 0, 0, 0, 0, []) : zm_E) := (congrArg (fun l => l[10]?) cd_1).trans rfl
theorem c_1_11 : (zm_cd 1)[11]? = some ((22, .getfield 10, 3, 7, 0, 1, 0, 0, []) : zm_E) := (congrArg (fun l => l[11]?) cd_1).trans rfl
theorem c_1_12 : (zm_cd 1)[12]? = some ((25, .invokevirtual 81, 3, 167, 0, 1, 0, 0, [5]) : zm_E) := (congrArg (fun l => l[12]?) cd_1).trans rfl
theorem c_1_13 : (zm_cd 1)[13]? = some ((28, .ifCond .eq 13, 3, 19, 0, 0, 0, 0, []) : zm_E) := (congrArg (fun l => l[13]?) cd_1).trans rfl
theorem c_1_14 : (zm_cd 1)[14]? = some ((31, .new 85, 3, 1, 0, 1, 0, 0, [87, 89, 0, 1]) : zm_E) := (congrArg (fun l => l[14]?) cd_1).trans rfl
theorem c_1_15 : (zm_cd 1)[15]? = some ((34, .dup, 1, 0, 0, 0, 0, 0, []) : zm_E) := (congrArg (fun l => l[15]?) cd_1).trans rfl
theorem c_1_16 : (zm_cd 1)[16]? = some ((35, .ldc 87, 2, 0, 0, 1, 0, 0, []) : zm_E) := (congrArg (fun l => l[16]?) cd_1).trans rfl
theorem c_1_17 : (zm_cd 1)[17]? = some ((37, .invokespecial 89, 3, 1002, 1, 0, 0, 0, []) : zm_E) := (congrArg (fun l => l[17]?) cd_1).trans rfl
theorem c_1_18 : (zm_cd 1)[18]? = some ((40, .athrow, 1, 0, 0, 0, 0, 0, []) : zm_E) := (congrArg (fun l => l[18]?) cd_1).trans rfl
theorem c_1_19 : (zm_cd 1)[19]? = some ((41, .aload_n 0, 1, 0, 0, 0, 0, 0, []) : zm_E) := (congrArg (fun l => l[19]?) cd_1).trans rfl
theorem c_1_20 : (zm_cd 1)[20]? = some ((42, .getfield 10, 3, 7, 0, 1, 0, 0, []) : zm_E) := (congrArg (fun l => l[20]?) cd_1).trans rfl
theorem c_1_21 : (zm_cd 1)[21]? = some ((45, .iload_n 1, 1, 1, 0, 0, 0, 0, []) : zm_E) := (congrArg (fun l => l[21]?) cd_1).trans rfl
theorem c_1_22 : (zm_cd 1)[22]? = some ((46, .invokevirtual 90, 3, 168, 1, 0, 0, 0, [5]) : zm_E) := (congrArg (fun l => l[22]?) cd_1).trans rfl
theorem c_1_23 : (zm_cd 1)[23]? = some ((49, .aload_n 0, 1, 0, 0, 0, 0, 0, []) : zm_E) := (congrArg (fun l => l[23]?) cd_1).trans rfl
theorem c_1_24 : (zm_cd 1)[24]? = some ((50, .getfield 10, 3, 7, 0, 1, 0, 0, []) : zm_E) := (congrArg (fun l => l[24]?) cd_1).trans rfl
theorem c_1_25 : (zm_cd 1)[25]? = some ((53, .getfield 94, 3, 5, 1, 0, 0, 0, []) : zm_E) := (congrArg (fun l => l[25]?) cd_1).trans rfl
theorem c_1_26 : (zm_cd 1)[26]? = some ((56, .ireturn, 1, 0, 0, 0, 0, 0, []) : zm_E) := (congrArg (fun l => l[26]?) cd_1).trans rfl
theorem cd_2 : zm_cd 2 = zd_2 := rfl
theorem ml_2 : zm_ml 2 = 2 := rfl
theorem ht_2 : zm_ht 2 = [] := rfl
theorem c_2_0 : (zm_cd 2)[0]? = some ((0, .aload_n 0, 1, 0, 0, 0, 0, 0, []) : zm_E) := (congrArg (fun l => l[0]?) cd_2).trans rfl
theorem c_2_1 : (zm_cd 2)[1]? = some ((1, .getfield 10, 3, 7, 0, 1, 0, 0, []) : zm_E) := (congrArg (fun l => l[1]?) cd_2).trans rfl
theorem c_2_2 : (zm_cd 2)[2]? = some ((4, .getfield 94, 3, 5, 1, 0, 0, 0, []) : zm_E) := (congrArg (fun l => l[2]?) cd_2).trans rfl
theorem c_2_3 : (zm_cd 2)[3]? = some ((7, .istore_n 1, 1, 1, 0, 0, 0, 0, []) : zm_E) := (congrArg (fun l => l[3]?) cd_2).trans rfl
theorem c_2_4 : (zm_cd 2)[4]? = some ((8, .aload_n 0, 1, 0, 0, 0, 0, 0, []) : zm_E) := (congrArg (fun l => l[4]?) cd_2).trans rfl
theorem c_2_5 : (zm_cd 2)[5]? = some ((9, .getfield 10, 3, 7, 0, 1, 0, 0, []) : zm_E) := (congrArg (fun l => l[5]?) cd_2).trans rfl
theorem c_2_6 : (zm_cd 2)[6]? = some ((12, .iconst 0, 1, 0, 0, 0, 0, 0, []) : zm_E) := (congrArg (fun l => l[6]?) cd_2).trans rfl
theorem c_2_7 : (zm_cd 2)[7]? = some ((13, .putfield 94, 3, 5, 1, 0, 0, 0, []) : zm_E) := (congrArg (fun l => l[7]?) cd_2).trans rfl
theorem c_2_8 : (zm_cd 2)[8]? = some ((16, .iload_n 1, 1, 1, 0, 0, 0, 0, []) : zm_E) := (congrArg (fun l => l[8]?) cd_2).trans rfl
theorem c_2_9 : (zm_cd 2)[9]? = some ((17, .ireturn, 1, 0, 0, 0, 0, 0, []) : zm_E) := (congrArg (fun l => l[9]?) cd_2).trans rfl
theorem cd_3 : zm_cd 3 = zd_3 := rfl
theorem ml_3 : zm_ml 3 = 1 := rfl
theorem ht_3 : zm_ht 3 = [] := rfl
theorem c_3_0 : (zm_cd 3)[0]? = some ((0, .aload_n 0, 1, 0, 0, 0, 0, 0, []) : zm_E) := (congrArg (fun l => l[0]?) cd_3).trans rfl
theorem c_3_1 : (zm_cd 3)[1]? = some ((1, .getfield 10, 3, 7, 0, 1, 0, 0, []) : zm_E) := (congrArg (fun l => l[1]?) cd_3).trans rfl
theorem c_3_2 : (zm_cd 3)[2]? = some ((4, .aload_n 0, 1, 0, 0, 0, 0, 0, []) : zm_E) := (congrArg (fun l => l[2]?) cd_3).trans rfl
theorem c_3_3 : (zm_cd 3)[3]? = some ((5, .getfield 40, 3, 7, 5, 1, 0, 0, []) : zm_E) := (congrArg (fun l => l[3]?) cd_3).trans rfl
theorem c_3_4 : (zm_cd 3)[4]? = some ((8, .invokevirtual 98, 3, 171, 1, 1, 0, 0, [5]) : zm_E) := (congrArg (fun l => l[4]?) cd_3).trans rfl
theorem c_3_5 : (zm_cd 3)[5]? = some ((11, .ireturn, 1, 0, 0, 0, 0, 0, []) : zm_E) := (congrArg (fun l => l[5]?) cd_3).trans rfl
theorem cd_4 : zm_cd 4 = zd_4 := rfl
theorem ml_4 : zm_ml 4 = 1 := rfl
theorem ht_4 : zm_ht 4 = [] := rfl
theorem c_4_0 : (zm_cd 4)[0]? = some ((0, .aload_n 0, 1, 0, 0, 0, 0, 0, []) : zm_E) := (congrArg (fun l => l[0]?) cd_4).trans rfl
theorem c_4_1 : (zm_cd 4)[1]? = some ((1, .getfield 10, 3, 7, 0, 1, 0, 0, []) : zm_E) := (congrArg (fun l => l[1]?) cd_4).trans rfl
theorem c_4_2 : (zm_cd 4)[2]? = some ((4, .aload_n 0, 1, 0, 0, 0, 0, 0, []) : zm_E) := (congrArg (fun l => l[2]?) cd_4).trans rfl
theorem c_4_3 : (zm_cd 4)[3]? = some ((5, .getfield 40, 3, 7, 5, 1, 0, 0, []) : zm_E) := (congrArg (fun l => l[3]?) cd_4).trans rfl
theorem c_4_4 : (zm_cd 4)[4]? = some ((8, .invokevirtual 98, 3, 171, 1, 1, 0, 0, [5]) : zm_E) := (congrArg (fun l => l[4]?) cd_4).trans rfl
theorem c_4_5 : (zm_cd 4)[5]? = some ((11, .bipush (-9), 2, 0, 0, 0, (-9), 0, []) : zm_E) := (congrArg (fun l => l[5]?) cd_4).trans rfl
theorem c_4_6 : (zm_cd 4)[6]? = some ((13, .if_icmp .eq 13, 3, 12, 0, 0, 0, 0, []) : zm_E) := (congrArg (fun l => l[6]?) cd_4).trans rfl
theorem c_4_7 : (zm_cd 4)[7]? = some ((16, .new 85, 3, 1, 0, 1, 0, 0, [102, 89, 0, 2]) : zm_E) := (congrArg (fun l => l[7]?) cd_4).trans rfl
theorem c_4_8 : (zm_cd 4)[8]? = some ((19, .dup, 1, 0, 0, 0, 0, 0, []) : zm_E) := (congrArg (fun l => l[8]?) cd_4).trans rfl
theorem c_4_9 : (zm_cd 4)[9]? = some ((20, .ldc 102, 2, 0, 0, 1, 0, 0, []) : zm_E) := (congrArg (fun l => l[9]?) cd_4).trans rfl
theorem c_4_10 : (zm_cd 4)[10]? = some ((22, .invokespecial 89, 3, 1002, 1, 0, 0, 0, []) : zm_E) := (congrArg (fun l => l[10]?) cd_4).trans rfl
theorem c_4_11 : (zm_cd 4)[11]? = some ((25, .athrow, 1, 0, 0, 0, 0, 0, []) : zm_E) := (congrArg (fun l => l[11]?) cd_4).trans rfl
theorem c_4_12 : (zm_cd 4)[12]? = some ((26, .aload_n 0, 1, 0, 0, 0, 0, 0, []) : zm_E) := (congrArg (fun l => l[12]?) cd_4).trans rfl
theorem c_4_13 : (zm_cd 4)[13]? = some ((27, .getfield 19, 3, 7, 1, 1, 0, 0, []) : zm_E) := (congrArg (fun l => l[13]?) cd_4).trans rfl
theorem c_4_14 : (zm_cd 4)[14]? = some ((30, .aload_n 0, 1, 0, 0, 0, 0, 0, []) : zm_E) := (congrArg (fun l => l[14]?) cd_4).trans rfl
theorem c_4_15 : (zm_cd 4)[15]? = some ((31, .getfield 40, 3, 7, 5, 1, 0, 0, []) : zm_E) := (congrArg (fun l => l[15]?) cd_4).trans rfl
theorem c_4_16 : (zm_cd 4)[16]? = some ((34, .invokevirtual 104, 3, 115, 1, 0, 0, 0, [1]) : zm_E) := (congrArg (fun l => l[16]?) cd_4).trans rfl
theorem c_4_17 : (zm_cd 4)[17]? = some ((37, .aload_n 0, 1, 0, 0, 0, 0, 0, []) : zm_E) := (congrArg (fun l => l[17]?) cd_4).trans rfl
theorem c_4_18 : (zm_cd 4)[18]? = some ((38, .getfield 26, 3, 7, 2, 1, 0, 0, []) : zm_E) := (congrArg (fun l => l[18]?) cd_4).trans rfl
theorem c_4_19 : (zm_cd 4)[19]? = some ((41, .invokevirtual 108, 3, 111, 0, 0, 0, 0, [0]) : zm_E) := (congrArg (fun l => l[19]?) cd_4).trans rfl
theorem c_4_20 : (zm_cd 4)[20]? = some ((44, .aload_n 0, 1, 0, 0, 0, 0, 0, []) : zm_E) := (congrArg (fun l => l[20]?) cd_4).trans rfl
theorem c_4_21 : (zm_cd 4)[21]? = some ((45, .getfield 33, 3, 7, 3, 1, 0, 0, []) : zm_E) := (congrArg (fun l => l[21]?) cd_4).trans rfl
theorem c_4_22 : (zm_cd 4)[22]? = some ((48, .iconst 0, 1, 0, 0, 0, 0, 0, []) : zm_E) := (congrArg (fun l => l[22]?) cd_4).trans rfl
theorem c_4_23 : (zm_cd 4)[23]? = some ((49, .putfield 111, 3, 9, 1, 2, 0, 0, []) : zm_E) := (congrArg (fun l => l[23]?) cd_4).trans rfl
theorem c_4_24 : (zm_cd 4)[24]? = some ((52, .aload_n 0, 1, 0, 0, 0, 0, 0, []) : zm_E) := (congrArg (fun l => l[24]?) cd_4).trans rfl
theorem c_4_25 : (zm_cd 4)[25]? = some ((53, .getfield 37, 3, 7, 4, 1, 0, 0, []) : zm_E) := (congrArg (fun l => l[25]?) cd_4).trans rfl
theorem c_4_26 : (zm_cd 4)[26]? = some ((56, .iconst 0, 1, 0, 0, 0, 0, 0, []) : zm_E) := (congrArg (fun l => l[26]?) cd_4).trans rfl
theorem c_4_27 : (zm_cd 4)[27]? = some ((57, .putfield 111, 3, 9, 1, 2, 0, 0, []) : zm_E) := (congrArg (fun l => l[27]?) cd_4).trans rfl
theorem c_4_28 : (zm_cd 4)[28]? = some ((60, .aload_n 0, 1, 0, 0, 0, 0, 0, []) : zm_E) := (congrArg (fun l => l[28]?) cd_4).trans rfl
theorem c_4_29 : (zm_cd 4)[29]? = some ((61, .getfield 19, 3, 7, 1, 1, 0, 0, []) : zm_E) := (congrArg (fun l => l[29]?) cd_4).trans rfl
theorem c_4_30 : (zm_cd 4)[30]? = some ((64, .invokevirtual 114, 3, 120, 0, 1, 0, 0, [1]) : zm_E) := (congrArg (fun l => l[30]?) cd_4).trans rfl
theorem c_4_31 : (zm_cd 4)[31]? = some ((67, .ireturn, 1, 0, 0, 0, 0, 0, []) : zm_E) := (congrArg (fun l => l[31]?) cd_4).trans rfl
theorem cd_5 : zm_cd 5 = zd_5 := rfl
theorem ml_5 : zm_ml 5 = 2 := rfl
theorem ht_5 : zm_ht 5 = [] := rfl
theorem c_5_0 : (zm_cd 5)[0]? = some ((0, .iload_n 1, 1, 1, 0, 0, 0, 0, []) : zm_E) := (congrArg (fun l => l[0]?) cd_5).trans rfl
theorem c_5_1 : (zm_cd 5)[1]? = some ((1, .tableswitch 115 0 7 #[47, 55, 63, 71, 79, 87, 95, 107], 47, 36, 0, 0, 0, 0, [2, 6, 10, 14, 18, 22, 26, 32]) : zm_E) := (congrArg (fun l => l[1]?) cd_5).trans rfl
theorem c_5_2 : (zm_cd 5)[2]? = some ((48, .aload_n 0, 1, 0, 0, 0, 0, 0, []) : zm_E) := (congrArg (fun l => l[2]?) cd_5).trans rfl
theorem c_5_3 : (zm_cd 5)[3]? = some ((49, .getfield 19, 3, 7, 1, 1, 0, 0, []) : zm_E) := (congrArg (fun l => l[3]?) cd_5).trans rfl
theorem c_5_4 : (zm_cd 5)[4]? = some ((52, .getfield 118, 3, 1, 0, 0, 0, 0, []) : zm_E) := (congrArg (fun l => l[4]?) cd_5).trans rfl
theorem c_5_5 : (zm_cd 5)[5]? = some ((55, .ireturn, 1, 0, 0, 0, 0, 0, []) : zm_E) := (congrArg (fun l => l[5]?) cd_5).trans rfl
theorem c_5_6 : (zm_cd 5)[6]? = some ((56, .aload_n 0, 1, 0, 0, 0, 0, 0, []) : zm_E) := (congrArg (fun l => l[6]?) cd_5).trans rfl
theorem c_5_7 : (zm_cd 5)[7]? = some ((57, .getfield 19, 3, 7, 1, 1, 0, 0, []) : zm_E) := (congrArg (fun l => l[7]?) cd_5).trans rfl
theorem c_5_8 : (zm_cd 5)[8]? = some ((60, .invokevirtual 114, 3, 120, 0, 1, 0, 0, [1]) : zm_E) := (congrArg (fun l => l[8]?) cd_5).trans rfl
theorem c_5_9 : (zm_cd 5)[9]? = some ((63, .ireturn, 1, 0, 0, 0, 0, 0, []) : zm_E) := (congrArg (fun l => l[9]?) cd_5).trans rfl
theorem c_5_10 : (zm_cd 5)[10]? = some ((64, .aload_n 0, 1, 0, 0, 0, 0, 0, []) : zm_E) := (congrArg (fun l => l[10]?) cd_5).trans rfl
theorem c_5_11 : (zm_cd 5)[11]? = some ((65, .getfield 19, 3, 7, 1, 1, 0, 0, []) : zm_E) := (congrArg (fun l => l[11]?) cd_5).trans rfl
theorem c_5_12 : (zm_cd 5)[12]? = some ((68, .invokevirtual 121, 3, 127, 0, 1, 0, 0, [1]) : zm_E) := (congrArg (fun l => l[12]?) cd_5).trans rfl
theorem c_5_13 : (zm_cd 5)[13]? = some ((71, .ireturn, 1, 0, 0, 0, 0, 0, []) : zm_E) := (congrArg (fun l => l[13]?) cd_5).trans rfl
theorem c_5_14 : (zm_cd 5)[14]? = some ((72, .aload_n 0, 1, 0, 0, 0, 0, 0, []) : zm_E) := (congrArg (fun l => l[14]?) cd_5).trans rfl
theorem c_5_15 : (zm_cd 5)[15]? = some ((73, .getfield 19, 3, 7, 1, 1, 0, 0, []) : zm_E) := (congrArg (fun l => l[15]?) cd_5).trans rfl
theorem c_5_16 : (zm_cd 5)[16]? = some ((76, .invokevirtual 124, 3, 128, 0, 1, 0, 0, [1]) : zm_E) := (congrArg (fun l => l[16]?) cd_5).trans rfl
theorem c_5_17 : (zm_cd 5)[17]? = some ((79, .ireturn, 1, 0, 0, 0, 0, 0, []) : zm_E) := (congrArg (fun l => l[17]?) cd_5).trans rfl
theorem c_5_18 : (zm_cd 5)[18]? = some ((80, .aload_n 0, 1, 0, 0, 0, 0, 0, []) : zm_E) := (congrArg (fun l => l[18]?) cd_5).trans rfl
theorem c_5_19 : (zm_cd 5)[19]? = some ((81, .invokevirtual 127, 3, 30, 0, 2, 0, 0, [7]) : zm_E) := (congrArg (fun l => l[19]?) cd_5).trans rfl
theorem c_5_20 : (zm_cd 5)[20]? = some ((84, .getfield 131, 3, 6, 0, 0, 0, 0, []) : zm_E) := (congrArg (fun l => l[20]?) cd_5).trans rfl
theorem c_5_21 : (zm_cd 5)[21]? = some ((87, .ireturn, 1, 0, 0, 0, 0, 0, []) : zm_E) := (congrArg (fun l => l[21]?) cd_5).trans rfl
theorem c_5_22 : (zm_cd 5)[22]? = some ((88, .aload_n 0, 1, 0, 0, 0, 0, 0, []) : zm_E) := (congrArg (fun l => l[22]?) cd_5).trans rfl
theorem c_5_23 : (zm_cd 5)[23]? = some ((89, .invokevirtual 127, 3, 30, 0, 2, 0, 0, [7]) : zm_E) := (congrArg (fun l => l[23]?) cd_5).trans rfl
theorem c_5_24 : (zm_cd 5)[24]? = some ((92, .getfield 134, 3, 6, 1, 0, 0, 0, []) : zm_E) := (congrArg (fun l => l[24]?) cd_5).trans rfl
theorem c_5_25 : (zm_cd 5)[25]? = some ((95, .ireturn, 1, 0, 0, 0, 0, 0, []) : zm_E) := (congrArg (fun l => l[25]?) cd_5).trans rfl
theorem c_5_26 : (zm_cd 5)[26]? = some ((96, .aload_n 0, 1, 0, 0, 0, 0, 0, []) : zm_E) := (congrArg (fun l => l[26]?) cd_5).trans rfl
theorem c_5_27 : (zm_cd 5)[27]? = some ((97, .invokevirtual 127, 3, 30, 0, 2, 0, 0, [7]) : zm_E) := (congrArg (fun l => l[27]?) cd_5).trans rfl
theorem c_5_28 : (zm_cd 5)[28]? = some ((100, .aload_n 0, 1, 0, 0, 0, 0, 0, []) : zm_E) := (congrArg (fun l => l[28]?) cd_5).trans rfl
theorem c_5_29 : (zm_cd 5)[29]? = some ((101, .getfield 19, 3, 7, 1, 1, 0, 0, []) : zm_E) := (congrArg (fun l => l[29]?) cd_5).trans rfl
theorem c_5_30 : (zm_cd 5)[30]? = some ((104, .invokevirtual 137, 3, 177, 1, 1, 0, 0, [6]) : zm_E) := (congrArg (fun l => l[30]?) cd_5).trans rfl
theorem c_5_31 : (zm_cd 5)[31]? = some ((107, .ireturn, 1, 0, 0, 0, 0, 0, []) : zm_E) := (congrArg (fun l => l[31]?) cd_5).trans rfl
theorem c_5_32 : (zm_cd 5)[32]? = some ((108, .aload_n 0, 1, 0, 0, 0, 0, 0, []) : zm_E) := (congrArg (fun l => l[32]?) cd_5).trans rfl
theorem c_5_33 : (zm_cd 5)[33]? = some ((109, .getfield 19, 3, 7, 1, 1, 0, 0, []) : zm_E) := (congrArg (fun l => l[33]?) cd_5).trans rfl
theorem c_5_34 : (zm_cd 5)[34]? = some ((112, .invokevirtual 140, 3, 129, 0, 1, 0, 0, [1]) : zm_E) := (congrArg (fun l => l[34]?) cd_5).trans rfl
theorem c_5_35 : (zm_cd 5)[35]? = some ((115, .ireturn, 1, 0, 0, 0, 0, 0, []) : zm_E) := (congrArg (fun l => l[35]?) cd_5).trans rfl
theorem c_5_36 : (zm_cd 5)[36]? = some ((116, .new 74, 3, 0, 0, 1, 0, 0, [143, 78, 0, 3]) : zm_E) := (congrArg (fun l => l[36]?) cd_5).trans rfl
theorem c_5_37 : (zm_cd 5)[37]? = some ((119, .dup, 1, 0, 0, 0, 0, 0, []) : zm_E) := (congrArg (fun l => l[37]?) cd_5).trans rfl
theorem c_5_38 : (zm_cd 5)[38]? = some ((120, .ldc 143, 2, 0, 0, 1, 0, 0, []) : zm_E) := (congrArg (fun l => l[38]?) cd_5).trans rfl
theorem c_5_39 : (zm_cd 5)[39]? = some ((122, .invokespecial 78, 3, 1002, 1, 0, 0, 0, []) : zm_E) := (congrArg (fun l => l[39]?) cd_5).trans rfl
theorem c_5_40 : (zm_cd 5)[40]? = some ((125, .athrow, 1, 0, 0, 0, 0, 0, []) : zm_E) := (congrArg (fun l => l[40]?) cd_5).trans rfl
theorem cd_6 : zm_cd 6 = zd_6 := rfl
theorem ml_6 : zm_ml 6 = 3 := rfl
theorem ht_6 : zm_ht 6 = [] := rfl
theorem c_6_0 : (zm_cd 6)[0]? = some ((0, .aload_n 0, 1, 0, 0, 0, 0, 0, []) : zm_E) := (congrArg (fun l => l[0]?) cd_6).trans rfl
theorem c_6_1 : (zm_cd 6)[1]? = some ((1, .iload_n 1, 1, 1, 0, 0, 0, 0, []) : zm_E) := (congrArg (fun l => l[1]?) cd_6).trans rfl
theorem c_6_2 : (zm_cd 6)[2]? = some ((2, .invokevirtual 145, 3, 31, 1, 0, 0, 0, [7]) : zm_E) := (congrArg (fun l => l[2]?) cd_6).trans rfl
theorem c_6_3 : (zm_cd 6)[3]? = some ((5, .iload_n 2, 1, 2, 0, 0, 0, 0, []) : zm_E) := (congrArg (fun l => l[3]?) cd_6).trans rfl
theorem c_6_4 : (zm_cd 6)[4]? = some ((6, .tableswitch 128 0 6 #[42, 54, 63, 80, 92, 104, 116], 42, 49, 0, 0, 0, 0, [5, 11, 16, 25, 31, 37, 43]) : zm_E) := (congrArg (fun l => l[4]?) cd_6).trans rfl
theorem c_6_5 : (zm_cd 6)[5]? = some ((48, .aload_n 0, 1, 0, 0, 0, 0, 0, []) : zm_E) := (congrArg (fun l => l[5]?) cd_6).trans rfl
theorem c_6_6 : (zm_cd 6)[6]? = some ((49, .getfield 19, 3, 7, 1, 1, 0, 0, []) : zm_E) := (congrArg (fun l => l[6]?) cd_6).trans rfl
theorem c_6_7 : (zm_cd 6)[7]? = some ((52, .getfield 148, 3, 1, 3, 1, 0, 0, []) : zm_E) := (congrArg (fun l => l[7]?) cd_6).trans rfl
theorem c_6_8 : (zm_cd 6)[8]? = some ((55, .iload_n 1, 1, 1, 0, 0, 0, 0, []) : zm_E) := (congrArg (fun l => l[8]?) cd_6).trans rfl
theorem c_6_9 : (zm_cd 6)[9]? = some ((56, .invokestatic 152, 3, 209, 2, 1, 0, 0, []) : zm_E) := (congrArg (fun l => l[9]?) cd_6).trans rfl
theorem c_6_10 : (zm_cd 6)[10]? = some ((59, .ireturn, 1, 0, 0, 0, 0, 0, []) : zm_E) := (congrArg (fun l => l[10]?) cd_6).trans rfl
theorem c_6_11 : (zm_cd 6)[11]? = some ((60, .aload_n 0, 1, 0, 0, 0, 0, 0, []) : zm_E) := (congrArg (fun l => l[11]?) cd_6).trans rfl
theorem c_6_12 : (zm_cd 6)[12]? = some ((61, .getfield 19, 3, 7, 1, 1, 0, 0, []) : zm_E) := (congrArg (fun l => l[12]?) cd_6).trans rfl
theorem c_6_13 : (zm_cd 6)[13]? = some ((64, .iload_n 1, 1, 1, 0, 0, 0, 0, []) : zm_E) := (congrArg (fun l => l[13]?) cd_6).trans rfl
theorem c_6_14 : (zm_cd 6)[14]? = some ((65, .invokevirtual 156, 3, 122, 1, 1, 0, 0, [1]) : zm_E) := (congrArg (fun l => l[14]?) cd_6).trans rfl
theorem c_6_15 : (zm_cd 6)[15]? = some ((68, .ireturn, 1, 0, 0, 0, 0, 0, []) : zm_E) := (congrArg (fun l => l[15]?) cd_6).trans rfl
theorem c_6_16 : (zm_cd 6)[16]? = some ((69, .aload_n 0, 1, 0, 0, 0, 0, 0, []) : zm_E) := (congrArg (fun l => l[16]?) cd_6).trans rfl
theorem c_6_17 : (zm_cd 6)[17]? = some ((70, .getfield 19, 3, 7, 1, 1, 0, 0, []) : zm_E) := (congrArg (fun l => l[17]?) cd_6).trans rfl
theorem c_6_18 : (zm_cd 6)[18]? = some ((73, .iload_n 1, 1, 1, 0, 0, 0, 0, []) : zm_E) := (congrArg (fun l => l[18]?) cd_6).trans rfl
theorem c_6_19 : (zm_cd 6)[19]? = some ((74, .invokevirtual 160, 3, 119, 1, 1, 0, 0, [1]) : zm_E) := (congrArg (fun l => l[19]?) cd_6).trans rfl
theorem c_6_20 : (zm_cd 6)[20]? = some ((77, .ifCond .eq 7, 3, 23, 0, 0, 0, 0, []) : zm_E) := (congrArg (fun l => l[20]?) cd_6).trans rfl
theorem c_6_21 : (zm_cd 6)[21]? = some ((80, .iconst 1, 1, 0, 0, 0, 1, 0, []) : zm_E) := (congrArg (fun l => l[21]?) cd_6).trans rfl
theorem c_6_22 : (zm_cd 6)[22]? = some ((81, .goto 4, 3, 24, 0, 0, 0, 0, []) : zm_E) := (congrArg (fun l => l[22]?) cd_6).trans rfl
theorem c_6_23 : (zm_cd 6)[23]? = some ((84, .iconst 0, 1, 0, 0, 0, 0, 0, []) : zm_E) := (congrArg (fun l => l[23]?) cd_6).trans rfl
theorem c_6_24 : (zm_cd 6)[24]? = some ((85, .ireturn, 1, 0, 0, 0, 0, 0, []) : zm_E) := (congrArg (fun l => l[24]?) cd_6).trans rfl
theorem c_6_25 : (zm_cd 6)[25]? = some ((86, .aload_n 0, 1, 0, 0, 0, 0, 0, []) : zm_E) := (congrArg (fun l => l[25]?) cd_6).trans rfl
theorem c_6_26 : (zm_cd 6)[26]? = some ((87, .invokevirtual 127, 3, 30, 0, 2, 0, 0, [7]) : zm_E) := (congrArg (fun l => l[26]?) cd_6).trans rfl
theorem c_6_27 : (zm_cd 6)[27]? = some ((90, .getfield 164, 3, 6, 2, 1, 0, 0, []) : zm_E) := (congrArg (fun l => l[27]?) cd_6).trans rfl
theorem c_6_28 : (zm_cd 6)[28]? = some ((93, .iload_n 1, 1, 1, 0, 0, 0, 0, []) : zm_E) := (congrArg (fun l => l[28]?) cd_6).trans rfl
theorem c_6_29 : (zm_cd 6)[29]? = some ((94, .invokestatic 152, 3, 209, 2, 1, 0, 0, []) : zm_E) := (congrArg (fun l => l[29]?) cd_6).trans rfl
theorem c_6_30 : (zm_cd 6)[30]? = some ((97, .ireturn, 1, 0, 0, 0, 0, 0, []) : zm_E) := (congrArg (fun l => l[30]?) cd_6).trans rfl
theorem c_6_31 : (zm_cd 6)[31]? = some ((98, .aload_n 0, 1, 0, 0, 0, 0, 0, []) : zm_E) := (congrArg (fun l => l[31]?) cd_6).trans rfl
theorem c_6_32 : (zm_cd 6)[32]? = some ((99, .invokevirtual 127, 3, 30, 0, 2, 0, 0, [7]) : zm_E) := (congrArg (fun l => l[32]?) cd_6).trans rfl
theorem c_6_33 : (zm_cd 6)[33]? = some ((102, .getfield 167, 3, 6, 3, 1, 0, 0, []) : zm_E) := (congrArg (fun l => l[33]?) cd_6).trans rfl
theorem c_6_34 : (zm_cd 6)[34]? = some ((105, .iload_n 1, 1, 1, 0, 0, 0, 0, []) : zm_E) := (congrArg (fun l => l[34]?) cd_6).trans rfl
theorem c_6_35 : (zm_cd 6)[35]? = some ((106, .invokestatic 152, 3, 209, 2, 1, 0, 0, []) : zm_E) := (congrArg (fun l => l[35]?) cd_6).trans rfl
theorem c_6_36 : (zm_cd 6)[36]? = some ((109, .ireturn, 1, 0, 0, 0, 0, 0, []) : zm_E) := (congrArg (fun l => l[36]?) cd_6).trans rfl
theorem c_6_37 : (zm_cd 6)[37]? = some ((110, .aload_n 0, 1, 0, 0, 0, 0, 0, []) : zm_E) := (congrArg (fun l => l[37]?) cd_6).trans rfl
theorem c_6_38 : (zm_cd 6)[38]? = some ((111, .invokevirtual 127, 3, 30, 0, 2, 0, 0, [7]) : zm_E) := (congrArg (fun l => l[38]?) cd_6).trans rfl
theorem c_6_39 : (zm_cd 6)[39]? = some ((114, .getfield 170, 3, 6, 4, 1, 0, 0, []) : zm_E) := (congrArg (fun l => l[39]?) cd_6).trans rfl
theorem c_6_40 : (zm_cd 6)[40]? = some ((117, .iload_n 1, 1, 1, 0, 0, 0, 0, []) : zm_E) := (congrArg (fun l => l[40]?) cd_6).trans rfl
theorem c_6_41 : (zm_cd 6)[41]? = some ((118, .invokestatic 152, 3, 209, 2, 1, 0, 0, []) : zm_E) := (congrArg (fun l => l[41]?) cd_6).trans rfl
theorem c_6_42 : (zm_cd 6)[42]? = some ((121, .ireturn, 1, 0, 0, 0, 0, 0, []) : zm_E) := (congrArg (fun l => l[42]?) cd_6).trans rfl
theorem c_6_43 : (zm_cd 6)[43]? = some ((122, .aload_n 0, 1, 0, 0, 0, 0, 0, []) : zm_E) := (congrArg (fun l => l[43]?) cd_6).trans rfl
theorem c_6_44 : (zm_cd 6)[44]? = some ((123, .invokevirtual 127, 3, 30, 0, 2, 0, 0, [7]) : zm_E) := (congrArg (fun l => l[44]?) cd_6).trans rfl
theorem c_6_45 : (zm_cd 6)[45]? = some ((126, .getfield 173, 3, 6, 5, 1, 0, 0, []) : zm_E) := (congrArg (fun l => l[45]?) cd_6).trans rfl
theorem c_6_46 : (zm_cd 6)[46]? = some ((129, .iload_n 1, 1, 1, 0, 0, 0, 0, []) : zm_E) := (congrArg (fun l => l[46]?) cd_6).trans rfl
theorem c_6_47 : (zm_cd 6)[47]? = some ((130, .invokestatic 152, 3, 209, 2, 1, 0, 0, []) : zm_E) := (congrArg (fun l => l[47]?) cd_6).trans rfl
theorem c_6_48 : (zm_cd 6)[48]? = some ((133, .ireturn, 1, 0, 0, 0, 0, 0, []) : zm_E) := (congrArg (fun l => l[48]?) cd_6).trans rfl
theorem c_6_49 : (zm_cd 6)[49]? = some ((134, .new 74, 3, 0, 0, 1, 0, 0, [176, 78, 0, 5]) : zm_E) := (congrArg (fun l => l[49]?) cd_6).trans rfl
theorem c_6_50 : (zm_cd 6)[50]? = some ((137, .dup, 1, 0, 0, 0, 0, 0, []) : zm_E) := (congrArg (fun l => l[50]?) cd_6).trans rfl
theorem c_6_51 : (zm_cd 6)[51]? = some ((138, .ldc 176, 2, 0, 0, 1, 0, 0, []) : zm_E) := (congrArg (fun l => l[51]?) cd_6).trans rfl
theorem c_6_52 : (zm_cd 6)[52]? = some ((140, .invokespecial 78, 3, 1002, 1, 0, 0, 0, []) : zm_E) := (congrArg (fun l => l[52]?) cd_6).trans rfl
theorem c_6_53 : (zm_cd 6)[53]? = some ((143, .athrow, 1, 0, 0, 0, 0, 0, []) : zm_E) := (congrArg (fun l => l[53]?) cd_6).trans rfl
theorem cd_7 : zm_cd 7 = zd_7 := rfl
theorem ml_7 : zm_ml 7 = 3 := rfl
theorem ht_7 : zm_ht 7 = [] := rfl
theorem c_7_0 : (zm_cd 7)[0]? = some ((0, .aload_n 0, 1, 0, 0, 0, 0, 0, []) : zm_E) := (congrArg (fun l => l[0]?) cd_7).trans rfl
theorem c_7_1 : (zm_cd 7)[1]? = some ((1, .iload_n 1, 1, 1, 0, 0, 0, 0, []) : zm_E) := (congrArg (fun l => l[1]?) cd_7).trans rfl
theorem c_7_2 : (zm_cd 7)[2]? = some ((2, .invokevirtual 145, 3, 31, 1, 0, 0, 0, [7]) : zm_E) := (congrArg (fun l => l[2]?) cd_7).trans rfl
theorem c_7_3 : (zm_cd 7)[3]? = some ((5, .aload_n 0, 1, 0, 0, 0, 0, 0, []) : zm_E) := (congrArg (fun l => l[3]?) cd_7).trans rfl
theorem c_7_4 : (zm_cd 7)[4]? = some ((6, .iload_n 2, 1, 2, 0, 0, 0, 0, []) : zm_E) := (congrArg (fun l => l[4]?) cd_7).trans rfl
theorem c_7_5 : (zm_cd 7)[5]? = some ((7, .invokevirtual 178, 3, 32, 1, 0, 0, 0, [7]) : zm_E) := (congrArg (fun l => l[5]?) cd_7).trans rfl
theorem c_7_6 : (zm_cd 7)[6]? = some ((10, .aload_n 0, 1, 0, 0, 0, 0, 0, []) : zm_E) := (congrArg (fun l => l[6]?) cd_7).trans rfl
theorem c_7_7 : (zm_cd 7)[7]? = some ((11, .getfield 19, 3, 7, 1, 1, 0, 0, []) : zm_E) := (congrArg (fun l => l[7]?) cd_7).trans rfl
theorem c_7_8 : (zm_cd 7)[8]? = some ((14, .iload_n 1, 1, 1, 0, 0, 0, 0, []) : zm_E) := (congrArg (fun l => l[8]?) cd_7).trans rfl
theorem c_7_9 : (zm_cd 7)[9]? = some ((15, .iload_n 2, 1, 2, 0, 0, 0, 0, []) : zm_E) := (congrArg (fun l => l[9]?) cd_7).trans rfl
theorem c_7_10 : (zm_cd 7)[10]? = some ((16, .invokevirtual 181, 3, 121, 2, 1, 0, 0, [1]) : zm_E) := (congrArg (fun l => l[10]?) cd_7).trans rfl
theorem c_7_11 : (zm_cd 7)[11]? = some ((19, .ireturn, 1, 0, 0, 0, 0, 0, []) : zm_E) := (congrArg (fun l => l[11]?) cd_7).trans rfl
theorem cd_8 : zm_cd 8 = zd_8 := rfl
theorem ml_8 : zm_ml 8 = 2 := rfl
theorem ht_8 : zm_ht 8 = [] := rfl
theorem c_8_0 : (zm_cd 8)[0]? = some ((0, .aload_n 0, 1, 0, 0, 0, 0, 0, []) : zm_E) := (congrArg (fun l => l[0]?) cd_8).trans rfl
theorem c_8_1 : (zm_cd 8)[1]? = some ((1, .iload_n 1, 1, 1, 0, 0, 0, 0, []) : zm_E) := (congrArg (fun l => l[1]?) cd_8).trans rfl
theorem c_8_2 : (zm_cd 8)[2]? = some ((2, .invokevirtual 178, 3, 32, 1, 0, 0, 0, [7]) : zm_E) := (congrArg (fun l => l[2]?) cd_8).trans rfl
theorem c_8_3 : (zm_cd 8)[3]? = some ((5, .aload_n 0, 1, 0, 0, 0, 0, 0, []) : zm_E) := (congrArg (fun l => l[3]?) cd_8).trans rfl
theorem c_8_4 : (zm_cd 8)[4]? = some ((6, .getfield 19, 3, 7, 1, 1, 0, 0, []) : zm_E) := (congrArg (fun l => l[4]?) cd_8).trans rfl
theorem c_8_5 : (zm_cd 8)[5]? = some ((9, .iload_n 1, 1, 1, 0, 0, 0, 0, []) : zm_E) := (congrArg (fun l => l[5]?) cd_8).trans rfl
theorem c_8_6 : (zm_cd 8)[6]? = some ((10, .invokevirtual 185, 3, 125, 1, 1, 0, 0, [1]) : zm_E) := (congrArg (fun l => l[6]?) cd_8).trans rfl
theorem c_8_7 : (zm_cd 8)[7]? = some ((13, .ireturn, 1, 0, 0, 0, 0, 0, []) : zm_E) := (congrArg (fun l => l[7]?) cd_8).trans rfl
theorem cd_9 : zm_cd 9 = zd_9 := rfl
theorem ml_9 : zm_ml 9 = 4 := rfl
theorem ht_9 : zm_ht 9 = [] := rfl
theorem c_9_0 : (zm_cd 9)[0]? = some ((0, .aload_n 0, 1, 0, 0, 0, 0, 0, []) : zm_E) := (congrArg (fun l => l[0]?) cd_9).trans rfl
theorem c_9_1 : (zm_cd 9)[1]? = some ((1, .invokevirtual 127, 3, 30, 0, 2, 0, 0, [7]) : zm_E) := (congrArg (fun l => l[1]?) cd_9).trans rfl
theorem c_9_2 : (zm_cd 9)[2]? = some ((4, .astore_n 3, 1, 3, 0, 0, 0, 0, []) : zm_E) := (congrArg (fun l => l[2]?) cd_9).trans rfl
theorem c_9_3 : (zm_cd 9)[3]? = some ((5, .aload_n 3, 1, 3, 0, 0, 0, 0, []) : zm_E) := (congrArg (fun l => l[3]?) cd_9).trans rfl
theorem c_9_4 : (zm_cd 9)[4]? = some ((6, .iload_n 1, 1, 1, 0, 0, 0, 0, []) : zm_E) := (congrArg (fun l => l[4]?) cd_9).trans rfl
theorem c_9_5 : (zm_cd 9)[5]? = some ((7, .invokestatic 188, 3, 34, 2, 0, 0, 0, []) : zm_E) := (congrArg (fun l => l[5]?) cd_9).trans rfl
theorem c_9_6 : (zm_cd 9)[6]? = some ((10, .iload_n 2, 1, 2, 0, 0, 0, 0, []) : zm_E) := (congrArg (fun l => l[6]?) cd_9).trans rfl
theorem c_9_7 : (zm_cd 9)[7]? = some ((11, .tableswitch 69 0 3 #[29, 38, 50, 59], 29, 30, 0, 0, 0, 0, [8, 13, 19, 24]) : zm_E) := (congrArg (fun l => l[7]?) cd_9).trans rfl
theorem c_9_8 : (zm_cd 9)[8]? = some ((40, .aload_n 3, 1, 3, 0, 0, 0, 0, []) : zm_E) := (congrArg (fun l => l[8]?) cd_9).trans rfl
theorem c_9_9 : (zm_cd 9)[9]? = some ((41, .getfield 192, 3, 6, 6, 1, 0, 0, []) : zm_E) := (congrArg (fun l => l[9]?) cd_9).trans rfl
theorem c_9_10 : (zm_cd 9)[10]? = some ((44, .iload_n 1, 1, 1, 0, 0, 0, 0, []) : zm_E) := (congrArg (fun l => l[10]?) cd_9).trans rfl
theorem c_9_11 : (zm_cd 9)[11]? = some ((45, .invokestatic 152, 3, 209, 2, 1, 0, 0, []) : zm_E) := (congrArg (fun l => l[11]?) cd_9).trans rfl
theorem c_9_12 : (zm_cd 9)[12]? = some ((48, .ireturn, 1, 0, 0, 0, 0, 0, []) : zm_E) := (congrArg (fun l => l[12]?) cd_9).trans rfl
theorem c_9_13 : (zm_cd 9)[13]? = some ((49, .aload_n 3, 1, 3, 0, 0, 0, 0, []) : zm_E) := (congrArg (fun l => l[13]?) cd_9).trans rfl
theorem c_9_14 : (zm_cd 9)[14]? = some ((50, .getfield 192, 3, 6, 6, 1, 0, 0, []) : zm_E) := (congrArg (fun l => l[14]?) cd_9).trans rfl
theorem c_9_15 : (zm_cd 9)[15]? = some ((53, .iload_n 1, 1, 1, 0, 0, 0, 0, []) : zm_E) := (congrArg (fun l => l[15]?) cd_9).trans rfl
theorem c_9_16 : (zm_cd 9)[16]? = some ((54, .invokestatic 152, 3, 209, 2, 1, 0, 0, []) : zm_E) := (congrArg (fun l => l[16]?) cd_9).trans rfl
theorem c_9_17 : (zm_cd 9)[17]? = some ((57, .invokestatic 195, 3, 207, 1, 1, 0, 0, []) : zm_E) := (congrArg (fun l => l[17]?) cd_9).trans rfl
theorem c_9_18 : (zm_cd 9)[18]? = some ((60, .ireturn, 1, 0, 0, 0, 0, 0, []) : zm_E) := (congrArg (fun l => l[18]?) cd_9).trans rfl
theorem c_9_19 : (zm_cd 9)[19]? = some ((61, .aload_n 3, 1, 3, 0, 0, 0, 0, []) : zm_E) := (congrArg (fun l => l[19]?) cd_9).trans rfl
theorem c_9_20 : (zm_cd 9)[20]? = some ((62, .getfield 200, 3, 6, 7, 1, 0, 0, []) : zm_E) := (congrArg (fun l => l[20]?) cd_9).trans rfl
theorem c_9_21 : (zm_cd 9)[21]? = some ((65, .iload_n 1, 1, 1, 0, 0, 0, 0, []) : zm_E) := (congrArg (fun l => l[21]?) cd_9).trans rfl
theorem c_9_22 : (zm_cd 9)[22]? = some ((66, .invokestatic 152, 3, 209, 2, 1, 0, 0, []) : zm_E) := (congrArg (fun l => l[22]?) cd_9).trans rfl
theorem c_9_23 : (zm_cd 9)[23]? = some ((69, .ireturn, 1, 0, 0, 0, 0, 0, []) : zm_E) := (congrArg (fun l => l[23]?) cd_9).trans rfl
theorem c_9_24 : (zm_cd 9)[24]? = some ((70, .aload_n 3, 1, 3, 0, 0, 0, 0, []) : zm_E) := (congrArg (fun l => l[24]?) cd_9).trans rfl
theorem c_9_25 : (zm_cd 9)[25]? = some ((71, .aload_n 0, 1, 0, 0, 0, 0, 0, []) : zm_E) := (congrArg (fun l => l[25]?) cd_9).trans rfl
theorem c_9_26 : (zm_cd 9)[26]? = some ((72, .getfield 19, 3, 7, 1, 1, 0, 0, []) : zm_E) := (congrArg (fun l => l[26]?) cd_9).trans rfl
theorem c_9_27 : (zm_cd 9)[27]? = some ((75, .iload_n 1, 1, 1, 0, 0, 0, 0, []) : zm_E) := (congrArg (fun l => l[27]?) cd_9).trans rfl
theorem c_9_28 : (zm_cd 9)[28]? = some ((76, .invokevirtual 203, 3, 178, 2, 1, 0, 0, [6]) : zm_E) := (congrArg (fun l => l[28]?) cd_9).trans rfl
theorem c_9_29 : (zm_cd 9)[29]? = some ((79, .ireturn, 1, 0, 0, 0, 0, 0, []) : zm_E) := (congrArg (fun l => l[29]?) cd_9).trans rfl
theorem c_9_30 : (zm_cd 9)[30]? = some ((80, .new 74, 3, 0, 0, 1, 0, 0, [207, 78, 0, 8]) : zm_E) := (congrArg (fun l => l[30]?) cd_9).trans rfl
theorem c_9_31 : (zm_cd 9)[31]? = some ((83, .dup, 1, 0, 0, 0, 0, 0, []) : zm_E) := (congrArg (fun l => l[31]?) cd_9).trans rfl
theorem c_9_32 : (zm_cd 9)[32]? = some ((84, .ldc 207, 2, 0, 0, 1, 0, 0, []) : zm_E) := (congrArg (fun l => l[32]?) cd_9).trans rfl
theorem c_9_33 : (zm_cd 9)[33]? = some ((86, .invokespecial 78, 3, 1002, 1, 0, 0, 0, []) : zm_E) := (congrArg (fun l => l[33]?) cd_9).trans rfl
theorem c_9_34 : (zm_cd 9)[34]? = some ((89, .athrow, 1, 0, 0, 0, 0, 0, []) : zm_E) := (congrArg (fun l => l[34]?) cd_9).trans rfl
theorem cd_10 : zm_cd 10 = zd_10 := rfl
theorem ml_10 : zm_ml 10 = 3 := rfl
theorem ht_10 : zm_ht 10 = [] := rfl
theorem c_10_0 : (zm_cd 10)[0]? = some ((0, .aload_n 0, 1, 0, 0, 0, 0, 0, []) : zm_E) := (congrArg (fun l => l[0]?) cd_10).trans rfl
theorem c_10_1 : (zm_cd 10)[1]? = some ((1, .iload_n 1, 1, 1, 0, 0, 0, 0, []) : zm_E) := (congrArg (fun l => l[1]?) cd_10).trans rfl
theorem c_10_2 : (zm_cd 10)[2]? = some ((2, .invokevirtual 145, 3, 31, 1, 0, 0, 0, [7]) : zm_E) := (congrArg (fun l => l[2]?) cd_10).trans rfl
theorem c_10_3 : (zm_cd 10)[3]? = some ((5, .aload_n 0, 1, 0, 0, 0, 0, 0, []) : zm_E) := (congrArg (fun l => l[3]?) cd_10).trans rfl
theorem c_10_4 : (zm_cd 10)[4]? = some ((6, .iload_n 2, 1, 2, 0, 0, 0, 0, []) : zm_E) := (congrArg (fun l => l[4]?) cd_10).trans rfl
theorem c_10_5 : (zm_cd 10)[5]? = some ((7, .invokevirtual 145, 3, 31, 1, 0, 0, 0, [7]) : zm_E) := (congrArg (fun l => l[5]?) cd_10).trans rfl
theorem c_10_6 : (zm_cd 10)[6]? = some ((10, .aload_n 0, 1, 0, 0, 0, 0, 0, []) : zm_E) := (congrArg (fun l => l[6]?) cd_10).trans rfl
theorem c_10_7 : (zm_cd 10)[7]? = some ((11, .getfield 19, 3, 7, 1, 1, 0, 0, []) : zm_E) := (congrArg (fun l => l[7]?) cd_10).trans rfl
theorem c_10_8 : (zm_cd 10)[8]? = some ((14, .iload_n 1, 1, 1, 0, 0, 0, 0, []) : zm_E) := (congrArg (fun l => l[8]?) cd_10).trans rfl
theorem c_10_9 : (zm_cd 10)[9]? = some ((15, .iload_n 2, 1, 2, 0, 0, 0, 0, []) : zm_E) := (congrArg (fun l => l[9]?) cd_10).trans rfl
theorem c_10_10 : (zm_cd 10)[10]? = some ((16, .invokevirtual 209, 3, 130, 2, 1, 0, 0, [1]) : zm_E) := (congrArg (fun l => l[10]?) cd_10).trans rfl
theorem c_10_11 : (zm_cd 10)[11]? = some ((19, .ireturn, 1, 0, 0, 0, 0, 0, []) : zm_E) := (congrArg (fun l => l[11]?) cd_10).trans rfl
theorem cd_11 : zm_cd 11 = zd_11 := rfl
theorem ml_11 : zm_ml 11 = 1 := rfl
theorem ht_11 : zm_ht 11 = [] := rfl
theorem c_11_0 : (zm_cd 11)[0]? = some ((0, .aload_n 0, 1, 0, 0, 0, 0, 0, []) : zm_E) := (congrArg (fun l => l[0]?) cd_11).trans rfl
theorem c_11_1 : (zm_cd 11)[1]? = some ((1, .getfield 19, 3, 7, 1, 1, 0, 0, []) : zm_E) := (congrArg (fun l => l[1]?) cd_11).trans rfl
theorem c_11_2 : (zm_cd 11)[2]? = some ((4, .getfield 118, 3, 1, 0, 0, 0, 0, []) : zm_E) := (congrArg (fun l => l[2]?) cd_11).trans rfl
theorem c_11_3 : (zm_cd 11)[3]? = some ((7, .bipush 7, 2, 0, 0, 0, 7, 0, []) : zm_E) := (congrArg (fun l => l[3]?) cd_11).trans rfl
theorem c_11_4 : (zm_cd 11)[4]? = some ((9, .if_icmp .lt 13, 3, 10, 0, 0, 0, 0, []) : zm_E) := (congrArg (fun l => l[4]?) cd_11).trans rfl
theorem c_11_5 : (zm_cd 11)[5]? = some ((12, .new 85, 3, 1, 0, 1, 0, 0, [212, 89, 0, 9]) : zm_E) := (congrArg (fun l => l[5]?) cd_11).trans rfl
theorem c_11_6 : (zm_cd 11)[6]? = some ((15, .dup, 1, 0, 0, 0, 0, 0, []) : zm_E) := (congrArg (fun l => l[6]?) cd_11).trans rfl
theorem c_11_7 : (zm_cd 11)[7]? = some ((16, .ldc 212, 2, 0, 0, 1, 0, 0, []) : zm_E) := (congrArg (fun l => l[7]?) cd_11).trans rfl
theorem c_11_8 : (zm_cd 11)[8]? = some ((18, .invokespecial 89, 3, 1002, 1, 0, 0, 0, []) : zm_E) := (congrArg (fun l => l[8]?) cd_11).trans rfl
theorem c_11_9 : (zm_cd 11)[9]? = some ((21, .athrow, 1, 0, 0, 0, 0, 0, []) : zm_E) := (congrArg (fun l => l[9]?) cd_11).trans rfl
theorem c_11_10 : (zm_cd 11)[10]? = some ((22, .aload_n 0, 1, 0, 0, 0, 0, 0, []) : zm_E) := (congrArg (fun l => l[10]?) cd_11).trans rfl
theorem c_11_11 : (zm_cd 11)[11]? = some ((23, .getfield 26, 3, 7, 2, 1, 0, 0, []) : zm_E) := (congrArg (fun l => l[11]?) cd_11).trans rfl
theorem c_11_12 : (zm_cd 11)[12]? = some ((26, .aload_n 0, 1, 0, 0, 0, 0, 0, []) : zm_E) := (congrArg (fun l => l[12]?) cd_11).trans rfl
theorem c_11_13 : (zm_cd 11)[13]? = some ((27, .getfield 19, 3, 7, 1, 1, 0, 0, []) : zm_E) := (congrArg (fun l => l[13]?) cd_11).trans rfl
theorem c_11_14 : (zm_cd 11)[14]? = some ((30, .invokevirtual 214, 3, 112, 1, 0, 0, 0, [0]) : zm_E) := (congrArg (fun l => l[14]?) cd_11).trans rfl
theorem c_11_15 : (zm_cd 11)[15]? = some ((33, .aload_n 0, 1, 0, 0, 0, 0, 0, []) : zm_E) := (congrArg (fun l => l[15]?) cd_11).trans rfl
theorem c_11_16 : (zm_cd 11)[16]? = some ((34, .getfield 19, 3, 7, 1, 1, 0, 0, []) : zm_E) := (congrArg (fun l => l[16]?) cd_11).trans rfl
theorem c_11_17 : (zm_cd 11)[17]? = some ((37, .invokevirtual 217, 3, 136, 0, 1, 0, 0, [1]) : zm_E) := (congrArg (fun l => l[17]?) cd_11).trans rfl
theorem c_11_18 : (zm_cd 11)[18]? = some ((40, .ireturn, 1, 0, 0, 0, 0, 0, []) : zm_E) := (congrArg (fun l => l[18]?) cd_11).trans rfl
theorem cd_12 : zm_cd 12 = zd_12 := rfl
theorem ml_12 : zm_ml 12 = 5 := rfl
theorem ht_12 : zm_ht 12 = [] := rfl
theorem c_12_0 : (zm_cd 12)[0]? = some ((0, .aload_n 0, 1, 0, 0, 0, 0, 0, []) : zm_E) := (congrArg (fun l => l[0]?) cd_12).trans rfl
theorem c_12_1 : (zm_cd 12)[1]? = some ((1, .iload_n 1, 1, 1, 0, 0, 0, 0, []) : zm_E) := (congrArg (fun l => l[1]?) cd_12).trans rfl
theorem c_12_2 : (zm_cd 12)[2]? = some ((2, .invokevirtual 145, 3, 31, 1, 0, 0, 0, [7]) : zm_E) := (congrArg (fun l => l[2]?) cd_12).trans rfl
theorem c_12_3 : (zm_cd 12)[3]? = some ((5, .aload_n 0, 1, 0, 0, 0, 0, 0, []) : zm_E) := (congrArg (fun l => l[3]?) cd_12).trans rfl
theorem c_12_4 : (zm_cd 12)[4]? = some ((6, .iload_n 2, 1, 2, 0, 0, 0, 0, []) : zm_E) := (congrArg (fun l => l[4]?) cd_12).trans rfl
theorem c_12_5 : (zm_cd 12)[5]? = some ((7, .invokevirtual 178, 3, 32, 1, 0, 0, 0, [7]) : zm_E) := (congrArg (fun l => l[5]?) cd_12).trans rfl
theorem c_12_6 : (zm_cd 12)[6]? = some ((10, .iload_n 3, 1, 3, 0, 0, 0, 0, []) : zm_E) := (congrArg (fun l => l[6]?) cd_12).trans rfl
theorem c_12_7 : (zm_cd 12)[7]? = some ((11, .ifCond .lt 9, 3, 11, 0, 0, 0, 0, []) : zm_E) := (congrArg (fun l => l[7]?) cd_12).trans rfl
theorem c_12_8 : (zm_cd 12)[8]? = some ((14, .iload_n 3, 1, 3, 0, 0, 0, 0, []) : zm_E) := (congrArg (fun l => l[8]?) cd_12).trans rfl
theorem c_12_9 : (zm_cd 12)[9]? = some ((15, .bipush 9, 2, 0, 0, 0, 9, 0, []) : zm_E) := (congrArg (fun l => l[9]?) cd_12).trans rfl
theorem c_12_10 : (zm_cd 12)[10]? = some ((17, .if_icmp .le 13, 3, 16, 0, 0, 0, 0, []) : zm_E) := (congrArg (fun l => l[10]?) cd_12).trans rfl
theorem c_12_11 : (zm_cd 12)[11]? = some ((20, .new 74, 3, 0, 0, 1, 0, 0, [220, 78, 0, 10]) : zm_E) := (congrArg (fun l => l[11]?) cd_12).trans rfl
theorem c_12_12 : (zm_cd 12)[12]? = some ((23, .dup, 1, 0, 0, 0, 0, 0, []) : zm_E) := (congrArg (fun l => l[12]?) cd_12).trans rfl
theorem c_12_13 : (zm_cd 12)[13]? = some ((24, .ldc 220, 2, 0, 0, 1, 0, 0, []) : zm_E) := (congrArg (fun l => l[13]?) cd_12).trans rfl
theorem c_12_14 : (zm_cd 12)[14]? = some ((26, .invokespecial 78, 3, 1002, 1, 0, 0, 0, []) : zm_E) := (congrArg (fun l => l[14]?) cd_12).trans rfl
theorem c_12_15 : (zm_cd 12)[15]? = some ((29, .athrow, 1, 0, 0, 0, 0, 0, []) : zm_E) := (congrArg (fun l => l[15]?) cd_12).trans rfl
theorem c_12_16 : (zm_cd 12)[16]? = some ((30, .aload_n 0, 1, 0, 0, 0, 0, 0, []) : zm_E) := (congrArg (fun l => l[16]?) cd_12).trans rfl
theorem c_12_17 : (zm_cd 12)[17]? = some ((31, .getfield 26, 3, 7, 2, 1, 0, 0, []) : zm_E) := (congrArg (fun l => l[17]?) cd_12).trans rfl
theorem c_12_18 : (zm_cd 12)[18]? = some ((34, .aload_n 0, 1, 0, 0, 0, 0, 0, []) : zm_E) := (congrArg (fun l => l[18]?) cd_12).trans rfl
theorem c_12_19 : (zm_cd 12)[19]? = some ((35, .getfield 19, 3, 7, 1, 1, 0, 0, []) : zm_E) := (congrArg (fun l => l[19]?) cd_12).trans rfl
theorem c_12_20 : (zm_cd 12)[20]? = some ((38, .invokevirtual 214, 3, 112, 1, 0, 0, 0, [0]) : zm_E) := (congrArg (fun l => l[20]?) cd_12).trans rfl
theorem c_12_21 : (zm_cd 12)[21]? = some ((41, .aload_n 0, 1, 0, 0, 0, 0, 0, []) : zm_E) := (congrArg (fun l => l[21]?) cd_12).trans rfl
theorem c_12_22 : (zm_cd 12)[22]? = some ((42, .getfield 19, 3, 7, 1, 1, 0, 0, []) : zm_E) := (congrArg (fun l => l[22]?) cd_12).trans rfl
theorem c_12_23 : (zm_cd 12)[23]? = some ((45, .iload_n 1, 1, 1, 0, 0, 0, 0, []) : zm_E) := (congrArg (fun l => l[23]?) cd_12).trans rfl
theorem c_12_24 : (zm_cd 12)[24]? = some ((46, .iload_n 2, 1, 2, 0, 0, 0, 0, []) : zm_E) := (congrArg (fun l => l[24]?) cd_12).trans rfl
theorem c_12_25 : (zm_cd 12)[25]? = some ((47, .invokevirtual 181, 3, 121, 2, 1, 0, 0, [1]) : zm_E) := (congrArg (fun l => l[25]?) cd_12).trans rfl
theorem c_12_26 : (zm_cd 12)[26]? = some ((50, .istore 4, 2, 4, 0, 0, 0, 0, []) : zm_E) := (congrArg (fun l => l[26]?) cd_12).trans rfl
theorem c_12_27 : (zm_cd 12)[27]? = some ((52, .aload_n 0, 1, 0, 0, 0, 0, 0, []) : zm_E) := (congrArg (fun l => l[27]?) cd_12).trans rfl
theorem c_12_28 : (zm_cd 12)[28]? = some ((53, .getfield 19, 3, 7, 1, 1, 0, 0, []) : zm_E) := (congrArg (fun l => l[28]?) cd_12).trans rfl
theorem c_12_29 : (zm_cd 12)[29]? = some ((56, .iload_n 1, 1, 1, 0, 0, 0, 0, []) : zm_E) := (congrArg (fun l => l[29]?) cd_12).trans rfl
theorem c_12_30 : (zm_cd 12)[30]? = some ((57, .iload_n 2, 1, 2, 0, 0, 0, 0, []) : zm_E) := (congrArg (fun l => l[30]?) cd_12).trans rfl
theorem c_12_31 : (zm_cd 12)[31]? = some ((58, .iload_n 3, 1, 3, 0, 0, 0, 0, []) : zm_E) := (congrArg (fun l => l[31]?) cd_12).trans rfl
theorem c_12_32 : (zm_cd 12)[32]? = some ((59, .invokevirtual 222, 3, 123, 3, 0, 0, 0, [1]) : zm_E) := (congrArg (fun l => l[32]?) cd_12).trans rfl
theorem c_12_33 : (zm_cd 12)[33]? = some ((62, .iload 4, 2, 4, 0, 0, 0, 0, []) : zm_E) := (congrArg (fun l => l[33]?) cd_12).trans rfl
theorem c_12_34 : (zm_cd 12)[34]? = some ((64, .ireturn, 1, 0, 0, 0, 0, 0, []) : zm_E) := (congrArg (fun l => l[34]?) cd_12).trans rfl
theorem cd_13 : zm_cd 13 = zd_13 := rfl
theorem ml_13 : zm_ml 13 = 3 := rfl
theorem ht_13 : zm_ht 13 = [] := rfl
theorem c_13_0 : (zm_cd 13)[0]? = some ((0, .aload_n 0, 1, 0, 0, 0, 0, 0, []) : zm_E) := (congrArg (fun l => l[0]?) cd_13).trans rfl
theorem c_13_1 : (zm_cd 13)[1]? = some ((1, .iload_n 1, 1, 1, 0, 0, 0, 0, []) : zm_E) := (congrArg (fun l => l[1]?) cd_13).trans rfl
theorem c_13_2 : (zm_cd 13)[2]? = some ((2, .invokevirtual 145, 3, 31, 1, 0, 0, 0, [7]) : zm_E) := (congrArg (fun l => l[2]?) cd_13).trans rfl
theorem c_13_3 : (zm_cd 13)[3]? = some ((5, .aload_n 0, 1, 0, 0, 0, 0, 0, []) : zm_E) := (congrArg (fun l => l[3]?) cd_13).trans rfl
theorem c_13_4 : (zm_cd 13)[4]? = some ((6, .iload_n 2, 1, 2, 0, 0, 0, 0, []) : zm_E) := (congrArg (fun l => l[4]?) cd_13).trans rfl
theorem c_13_5 : (zm_cd 13)[5]? = some ((7, .invokevirtual 145, 3, 31, 1, 0, 0, 0, [7]) : zm_E) := (congrArg (fun l => l[5]?) cd_13).trans rfl
theorem c_13_6 : (zm_cd 13)[6]? = some ((10, .aload_n 0, 1, 0, 0, 0, 0, 0, []) : zm_E) := (congrArg (fun l => l[6]?) cd_13).trans rfl
theorem c_13_7 : (zm_cd 13)[7]? = some ((11, .getfield 19, 3, 7, 1, 1, 0, 0, []) : zm_E) := (congrArg (fun l => l[7]?) cd_13).trans rfl
theorem c_13_8 : (zm_cd 13)[8]? = some ((14, .iload_n 1, 1, 1, 0, 0, 0, 0, []) : zm_E) := (congrArg (fun l => l[8]?) cd_13).trans rfl
theorem c_13_9 : (zm_cd 13)[9]? = some ((15, .iload_n 2, 1, 2, 0, 0, 0, 0, []) : zm_E) := (congrArg (fun l => l[9]?) cd_13).trans rfl
theorem c_13_10 : (zm_cd 13)[10]? = some ((16, .invokevirtual 209, 3, 130, 2, 1, 0, 0, [1]) : zm_E) := (congrArg (fun l => l[10]?) cd_13).trans rfl
theorem c_13_11 : (zm_cd 13)[11]? = some ((19, .ifCond .eq 13, 3, 17, 0, 0, 0, 0, []) : zm_E) := (congrArg (fun l => l[11]?) cd_13).trans rfl
theorem c_13_12 : (zm_cd 13)[12]? = some ((22, .new 85, 3, 1, 0, 1, 0, 0, [226, 89, 0, 11]) : zm_E) := (congrArg (fun l => l[12]?) cd_13).trans rfl
theorem c_13_13 : (zm_cd 13)[13]? = some ((25, .dup, 1, 0, 0, 0, 0, 0, []) : zm_E) := (congrArg (fun l => l[13]?) cd_13).trans rfl
theorem c_13_14 : (zm_cd 13)[14]? = some ((26, .ldc 226, 2, 0, 0, 1, 0, 0, []) : zm_E) := (congrArg (fun l => l[14]?) cd_13).trans rfl
theorem c_13_15 : (zm_cd 13)[15]? = some ((28, .invokespecial 89, 3, 1002, 1, 0, 0, 0, []) : zm_E) := (congrArg (fun l => l[15]?) cd_13).trans rfl
theorem c_13_16 : (zm_cd 13)[16]? = some ((31, .athrow, 1, 0, 0, 0, 0, 0, []) : zm_E) := (congrArg (fun l => l[16]?) cd_13).trans rfl
theorem c_13_17 : (zm_cd 13)[17]? = some ((32, .aload_n 0, 1, 0, 0, 0, 0, 0, []) : zm_E) := (congrArg (fun l => l[17]?) cd_13).trans rfl
theorem c_13_18 : (zm_cd 13)[18]? = some ((33, .getfield 26, 3, 7, 2, 1, 0, 0, []) : zm_E) := (congrArg (fun l => l[18]?) cd_13).trans rfl
theorem c_13_19 : (zm_cd 13)[19]? = some ((36, .aload_n 0, 1, 0, 0, 0, 0, 0, []) : zm_E) := (congrArg (fun l => l[19]?) cd_13).trans rfl
theorem c_13_20 : (zm_cd 13)[20]? = some ((37, .getfield 19, 3, 7, 1, 1, 0, 0, []) : zm_E) := (congrArg (fun l => l[20]?) cd_13).trans rfl
theorem c_13_21 : (zm_cd 13)[21]? = some ((40, .invokevirtual 214, 3, 112, 1, 0, 0, 0, [0]) : zm_E) := (congrArg (fun l => l[21]?) cd_13).trans rfl
theorem c_13_22 : (zm_cd 13)[22]? = some ((43, .aload_n 0, 1, 0, 0, 0, 0, 0, []) : zm_E) := (congrArg (fun l => l[22]?) cd_13).trans rfl
theorem c_13_23 : (zm_cd 13)[23]? = some ((44, .getfield 19, 3, 7, 1, 1, 0, 0, []) : zm_E) := (congrArg (fun l => l[23]?) cd_13).trans rfl
theorem c_13_24 : (zm_cd 13)[24]? = some ((47, .iload_n 1, 1, 1, 0, 0, 0, 0, []) : zm_E) := (congrArg (fun l => l[24]?) cd_13).trans rfl
theorem c_13_25 : (zm_cd 13)[25]? = some ((48, .iload_n 2, 1, 2, 0, 0, 0, 0, []) : zm_E) := (congrArg (fun l => l[25]?) cd_13).trans rfl
theorem c_13_26 : (zm_cd 13)[26]? = some ((49, .invokevirtual 228, 3, 131, 2, 0, 0, 0, [1]) : zm_E) := (congrArg (fun l => l[26]?) cd_13).trans rfl
theorem c_13_27 : (zm_cd 13)[27]? = some ((52, .aload_n 0, 1, 0, 0, 0, 0, 0, []) : zm_E) := (congrArg (fun l => l[27]?) cd_13).trans rfl
theorem c_13_28 : (zm_cd 13)[28]? = some ((53, .getfield 19, 3, 7, 1, 1, 0, 0, []) : zm_E) := (congrArg (fun l => l[28]?) cd_13).trans rfl
theorem c_13_29 : (zm_cd 13)[29]? = some ((56, .getfield 148, 3, 1, 3, 1, 0, 0, []) : zm_E) := (congrArg (fun l => l[29]?) cd_13).trans rfl
theorem c_13_30 : (zm_cd 13)[30]? = some ((59, .iload_n 1, 1, 1, 0, 0, 0, 0, []) : zm_E) := (congrArg (fun l => l[30]?) cd_13).trans rfl
theorem c_13_31 : (zm_cd 13)[31]? = some ((60, .invokestatic 152, 3, 209, 2, 1, 0, 0, []) : zm_E) := (congrArg (fun l => l[31]?) cd_13).trans rfl
theorem c_13_32 : (zm_cd 13)[32]? = some ((63, .ireturn, 1, 0, 0, 0, 0, 0, []) : zm_E) := (congrArg (fun l => l[32]?) cd_13).trans rfl
theorem cd_14 : zm_cd 14 = zd_14 := rfl
theorem ml_14 : zm_ml 14 = 3 := rfl
theorem ht_14 : zm_ht 14 = [] := rfl
theorem c_14_0 : (zm_cd 14)[0]? = some ((0, .aload_n 0, 1, 0, 0, 0, 0, 0, []) : zm_E) := (congrArg (fun l => l[0]?) cd_14).trans rfl
theorem c_14_1 : (zm_cd 14)[1]? = some ((1, .invokevirtual 127, 3, 30, 0, 2, 0, 0, [7]) : zm_E) := (congrArg (fun l => l[1]?) cd_14).trans rfl
theorem c_14_2 : (zm_cd 14)[2]? = some ((4, .astore_n 2, 1, 2, 0, 0, 0, 0, []) : zm_E) := (congrArg (fun l => l[2]?) cd_14).trans rfl
theorem c_14_3 : (zm_cd 14)[3]? = some ((5, .aload_n 2, 1, 2, 0, 0, 0, 0, []) : zm_E) := (congrArg (fun l => l[3]?) cd_14).trans rfl
theorem c_14_4 : (zm_cd 14)[4]? = some ((6, .iload_n 1, 1, 1, 0, 0, 0, 0, []) : zm_E) := (congrArg (fun l => l[4]?) cd_14).trans rfl
theorem c_14_5 : (zm_cd 14)[5]? = some ((7, .invokestatic 188, 3, 34, 2, 0, 0, 0, []) : zm_E) := (congrArg (fun l => l[5]?) cd_14).trans rfl
theorem c_14_6 : (zm_cd 14)[6]? = some ((10, .aload_n 0, 1, 0, 0, 0, 0, 0, []) : zm_E) := (congrArg (fun l => l[6]?) cd_14).trans rfl
theorem c_14_7 : (zm_cd 14)[7]? = some ((11, .getfield 26, 3, 7, 2, 1, 0, 0, []) : zm_E) := (congrArg (fun l => l[7]?) cd_14).trans rfl
theorem c_14_8 : (zm_cd 14)[8]? = some ((14, .aload_n 0, 1, 0, 0, 0, 0, 0, []) : zm_E) := (congrArg (fun l => l[8]?) cd_14).trans rfl
theorem c_14_9 : (zm_cd 14)[9]? = some ((15, .getfield 19, 3, 7, 1, 1, 0, 0, []) : zm_E) := (congrArg (fun l => l[9]?) cd_14).trans rfl
theorem c_14_10 : (zm_cd 14)[10]? = some ((18, .invokevirtual 214, 3, 112, 1, 0, 0, 0, [0]) : zm_E) := (congrArg (fun l => l[10]?) cd_14).trans rfl
theorem c_14_11 : (zm_cd 14)[11]? = some ((21, .aload_n 0, 1, 0, 0, 0, 0, 0, []) : zm_E) := (congrArg (fun l => l[11]?) cd_14).trans rfl
theorem c_14_12 : (zm_cd 14)[12]? = some ((22, .getfield 19, 3, 7, 1, 1, 0, 0, []) : zm_E) := (congrArg (fun l => l[12]?) cd_14).trans rfl
theorem c_14_13 : (zm_cd 14)[13]? = some ((25, .aload_n 2, 1, 2, 0, 0, 0, 0, []) : zm_E) := (congrArg (fun l => l[13]?) cd_14).trans rfl
theorem c_14_14 : (zm_cd 14)[14]? = some ((26, .aload_n 2, 1, 2, 0, 0, 0, 0, []) : zm_E) := (congrArg (fun l => l[14]?) cd_14).trans rfl
theorem c_14_15 : (zm_cd 14)[15]? = some ((27, .getfield 192, 3, 6, 6, 1, 0, 0, []) : zm_E) := (congrArg (fun l => l[15]?) cd_14).trans rfl
theorem c_14_16 : (zm_cd 14)[16]? = some ((30, .iload_n 1, 1, 1, 0, 0, 0, 0, []) : zm_E) := (congrArg (fun l => l[16]?) cd_14).trans rfl
theorem c_14_17 : (zm_cd 14)[17]? = some ((31, .invokestatic 152, 3, 209, 2, 1, 0, 0, []) : zm_E) := (congrArg (fun l => l[17]?) cd_14).trans rfl
theorem c_14_18 : (zm_cd 14)[18]? = some ((34, .invokevirtual 232, 3, 132, 2, 1, 0, 0, [1]) : zm_E) := (congrArg (fun l => l[18]?) cd_14).trans rfl
theorem c_14_19 : (zm_cd 14)[19]? = some ((37, .ireturn, 1, 0, 0, 0, 0, 0, []) : zm_E) := (congrArg (fun l => l[19]?) cd_14).trans rfl
theorem cd_15 : zm_cd 15 = zd_15 := rfl
theorem ml_15 : zm_ml 15 = 1 := rfl
theorem ht_15 : zm_ht 15 = [] := rfl
theorem c_15_0 : (zm_cd 15)[0]? = some ((0, .aload_n 0, 1, 0, 0, 0, 0, 0, []) : zm_E) := (congrArg (fun l => l[0]?) cd_15).trans rfl
theorem c_15_1 : (zm_cd 15)[1]? = some ((1, .getfield 26, 3, 7, 2, 1, 0, 0, []) : zm_E) := (congrArg (fun l => l[1]?) cd_15).trans rfl
theorem c_15_2 : (zm_cd 15)[2]? = some ((4, .aload_n 0, 1, 0, 0, 0, 0, 0, []) : zm_E) := (congrArg (fun l => l[2]?) cd_15).trans rfl
theorem c_15_3 : (zm_cd 15)[3]? = some ((5, .getfield 19, 3, 7, 1, 1, 0, 0, []) : zm_E) := (congrArg (fun l => l[3]?) cd_15).trans rfl
theorem c_15_4 : (zm_cd 15)[4]? = some ((8, .invokevirtual 214, 3, 112, 1, 0, 0, 0, [0]) : zm_E) := (congrArg (fun l => l[4]?) cd_15).trans rfl
theorem c_15_5 : (zm_cd 15)[5]? = some ((11, .aload_n 0, 1, 0, 0, 0, 0, 0, []) : zm_E) := (congrArg (fun l => l[5]?) cd_15).trans rfl
theorem c_15_6 : (zm_cd 15)[6]? = some ((12, .getfield 19, 3, 7, 1, 1, 0, 0, []) : zm_E) := (congrArg (fun l => l[6]?) cd_15).trans rfl
theorem c_15_7 : (zm_cd 15)[7]? = some ((15, .aload_n 0, 1, 0, 0, 0, 0, 0, []) : zm_E) := (congrArg (fun l => l[7]?) cd_15).trans rfl
theorem c_15_8 : (zm_cd 15)[8]? = some ((16, .invokevirtual 127, 3, 30, 0, 2, 0, 0, [7]) : zm_E) := (congrArg (fun l => l[8]?) cd_15).trans rfl
theorem c_15_9 : (zm_cd 15)[9]? = some ((19, .aload_n 0, 1, 0, 0, 0, 0, 0, []) : zm_E) := (congrArg (fun l => l[9]?) cd_15).trans rfl
theorem c_15_10 : (zm_cd 15)[10]? = some ((20, .getfield 19, 3, 7, 1, 1, 0, 0, []) : zm_E) := (congrArg (fun l => l[10]?) cd_15).trans rfl
theorem c_15_11 : (zm_cd 15)[11]? = some ((23, .invokevirtual 236, 3, 118, 0, 1, 0, 0, [1]) : zm_E) := (congrArg (fun l => l[11]?) cd_15).trans rfl
theorem c_15_12 : (zm_cd 15)[12]? = some ((26, .invokevirtual 232, 3, 132, 2, 1, 0, 0, [1]) : zm_E) := (congrArg (fun l => l[12]?) cd_15).trans rfl
theorem c_15_13 : (zm_cd 15)[13]? = some ((29, .ireturn, 1, 0, 0, 0, 0, 0, []) : zm_E) := (congrArg (fun l => l[13]?) cd_15).trans rfl
theorem cd_16 : zm_cd 16 = zd_16 := rfl
theorem ml_16 : zm_ml 16 = 2 := rfl
theorem ht_16 : zm_ht 16 = [] := rfl
theorem c_16_0 : (zm_cd 16)[0]? = some ((0, .aload_n 0, 1, 0, 0, 0, 0, 0, []) : zm_E) := (congrArg (fun l => l[0]?) cd_16).trans rfl
theorem c_16_1 : (zm_cd 16)[1]? = some ((1, .iload_n 1, 1, 1, 0, 0, 0, 0, []) : zm_E) := (congrArg (fun l => l[1]?) cd_16).trans rfl
theorem c_16_2 : (zm_cd 16)[2]? = some ((2, .invokevirtual 145, 3, 31, 1, 0, 0, 0, [7]) : zm_E) := (congrArg (fun l => l[2]?) cd_16).trans rfl
theorem c_16_3 : (zm_cd 16)[3]? = some ((5, .aload_n 0, 1, 0, 0, 0, 0, 0, []) : zm_E) := (congrArg (fun l => l[3]?) cd_16).trans rfl
theorem c_16_4 : (zm_cd 16)[4]? = some ((6, .getfield 19, 3, 7, 1, 1, 0, 0, []) : zm_E) := (congrArg (fun l => l[4]?) cd_16).trans rfl
theorem c_16_5 : (zm_cd 16)[5]? = some ((9, .iload_n 1, 1, 1, 0, 0, 0, 0, []) : zm_E) := (congrArg (fun l => l[5]?) cd_16).trans rfl
theorem c_16_6 : (zm_cd 16)[6]? = some ((10, .invokevirtual 160, 3, 119, 1, 1, 0, 0, [1]) : zm_E) := (congrArg (fun l => l[6]?) cd_16).trans rfl
theorem c_16_7 : (zm_cd 16)[7]? = some ((13, .ifCond .ne 13, 3, 13, 0, 0, 0, 0, []) : zm_E) := (congrArg (fun l => l[7]?) cd_16).trans rfl
theorem c_16_8 : (zm_cd 16)[8]? = some ((16, .new 85, 3, 1, 0, 1, 0, 0, [239, 89, 0, 12]) : zm_E) := (congrArg (fun l => l[8]?) cd_16).trans rfl
theorem c_16_9 : (zm_cd 16)[9]? = some ((19, .dup, 1, 0, 0, 0, 0, 0, []) : zm_E) := (congrArg (fun l => l[9]?) cd_16).trans rfl
theorem c_16_10 : (zm_cd 16)[10]? = some ((20, .ldc 239, 2, 0, 0, 1, 0, 0, []) : zm_E) := (congrArg (fun l => l[10]?) cd_16).trans rfl
theorem c_16_11 : (zm_cd 16)[11]? = some ((22, .invokespecial 89, 3, 1002, 1, 0, 0, 0, []) : zm_E) := (congrArg (fun l => l[11]?) cd_16).trans rfl
theorem c_16_12 : (zm_cd 16)[12]? = some ((25, .athrow, 1, 0, 0, 0, 0, 0, []) : zm_E) := (congrArg (fun l => l[12]?) cd_16).trans rfl
theorem c_16_13 : (zm_cd 16)[13]? = some ((26, .aload_n 0, 1, 0, 0, 0, 0, 0, []) : zm_E) := (congrArg (fun l => l[13]?) cd_16).trans rfl
theorem c_16_14 : (zm_cd 16)[14]? = some ((27, .getfield 26, 3, 7, 2, 1, 0, 0, []) : zm_E) := (congrArg (fun l => l[14]?) cd_16).trans rfl
theorem c_16_15 : (zm_cd 16)[15]? = some ((30, .aload_n 0, 1, 0, 0, 0, 0, 0, []) : zm_E) := (congrArg (fun l => l[15]?) cd_16).trans rfl
theorem c_16_16 : (zm_cd 16)[16]? = some ((31, .getfield 19, 3, 7, 1, 1, 0, 0, []) : zm_E) := (congrArg (fun l => l[16]?) cd_16).trans rfl
theorem c_16_17 : (zm_cd 16)[17]? = some ((34, .invokevirtual 214, 3, 112, 1, 0, 0, 0, [0]) : zm_E) := (congrArg (fun l => l[17]?) cd_16).trans rfl
theorem c_16_18 : (zm_cd 16)[18]? = some ((37, .aload_n 0, 1, 0, 0, 0, 0, 0, []) : zm_E) := (congrArg (fun l => l[18]?) cd_16).trans rfl
theorem c_16_19 : (zm_cd 16)[19]? = some ((38, .getfield 19, 3, 7, 1, 1, 0, 0, []) : zm_E) := (congrArg (fun l => l[19]?) cd_16).trans rfl
theorem c_16_20 : (zm_cd 16)[20]? = some ((41, .iload_n 1, 1, 1, 0, 0, 0, 0, []) : zm_E) := (congrArg (fun l => l[20]?) cd_16).trans rfl
theorem c_16_21 : (zm_cd 16)[21]? = some ((42, .invokevirtual 241, 3, 133, 1, 0, 0, 0, [1]) : zm_E) := (congrArg (fun l => l[21]?) cd_16).trans rfl
theorem c_16_22 : (zm_cd 16)[22]? = some ((45, .aload_n 0, 1, 0, 0, 0, 0, 0, []) : zm_E) := (congrArg (fun l => l[22]?) cd_16).trans rfl
theorem c_16_23 : (zm_cd 16)[23]? = some ((46, .getfield 19, 3, 7, 1, 1, 0, 0, []) : zm_E) := (congrArg (fun l => l[23]?) cd_16).trans rfl
theorem c_16_24 : (zm_cd 16)[24]? = some ((49, .invokevirtual 114, 3, 120, 0, 1, 0, 0, [1]) : zm_E) := (congrArg (fun l => l[24]?) cd_16).trans rfl
theorem c_16_25 : (zm_cd 16)[25]? = some ((52, .ireturn, 1, 0, 0, 0, 0, 0, []) : zm_E) := (congrArg (fun l => l[25]?) cd_16).trans rfl
theorem cd_17 : zm_cd 17 = zd_17 := rfl
theorem ml_17 : zm_ml 17 = 1 := rfl
theorem ht_17 : zm_ht 17 = [] := rfl
theorem c_17_0 : (zm_cd 17)[0]? = some ((0, .aload_n 0, 1, 0, 0, 0, 0, 0, []) : zm_E) := (congrArg (fun l => l[0]?) cd_17).trans rfl
theorem c_17_1 : (zm_cd 17)[1]? = some ((1, .getfield 26, 3, 7, 2, 1, 0, 0, []) : zm_E) := (congrArg (fun l => l[1]?) cd_17).trans rfl
theorem c_17_2 : (zm_cd 17)[2]? = some ((4, .aload_n 0, 1, 0, 0, 0, 0, 0, []) : zm_E) := (congrArg (fun l => l[2]?) cd_17).trans rfl
theorem c_17_3 : (zm_cd 17)[3]? = some ((5, .getfield 19, 3, 7, 1, 1, 0, 0, []) : zm_E) := (congrArg (fun l => l[3]?) cd_17).trans rfl
theorem c_17_4 : (zm_cd 17)[4]? = some ((8, .invokevirtual 214, 3, 112, 1, 0, 0, 0, [0]) : zm_E) := (congrArg (fun l => l[4]?) cd_17).trans rfl
theorem c_17_5 : (zm_cd 17)[5]? = some ((11, .aload_n 0, 1, 0, 0, 0, 0, 0, []) : zm_E) := (congrArg (fun l => l[5]?) cd_17).trans rfl
theorem c_17_6 : (zm_cd 17)[6]? = some ((12, .getfield 19, 3, 7, 1, 1, 0, 0, []) : zm_E) := (congrArg (fun l => l[6]?) cd_17).trans rfl
theorem c_17_7 : (zm_cd 17)[7]? = some ((15, .invokevirtual 244, 3, 134, 0, 1, 0, 0, [1]) : zm_E) := (congrArg (fun l => l[7]?) cd_17).trans rfl
theorem c_17_8 : (zm_cd 17)[8]? = some ((18, .ireturn, 1, 0, 0, 0, 0, 0, []) : zm_E) := (congrArg (fun l => l[8]?) cd_17).trans rfl
theorem cd_18 : zm_cd 18 = zd_18 := rfl
theorem ml_18 : zm_ml 18 = 1 := rfl
theorem ht_18 : zm_ht 18 = [] := rfl
theorem c_18_0 : (zm_cd 18)[0]? = some ((0, .aload_n 0, 1, 0, 0, 0, 0, 0, []) : zm_E) := (congrArg (fun l => l[0]?) cd_18).trans rfl
theorem c_18_1 : (zm_cd 18)[1]? = some ((1, .getfield 26, 3, 7, 2, 1, 0, 0, []) : zm_E) := (congrArg (fun l => l[1]?) cd_18).trans rfl
theorem c_18_2 : (zm_cd 18)[2]? = some ((4, .invokevirtual 247, 3, 212, 0, 1, 0, 0, [0]) : zm_E) := (congrArg (fun l => l[2]?) cd_18).trans rfl
theorem c_18_3 : (zm_cd 18)[3]? = some ((7, .ifCond .ne 13, 3, 9, 0, 0, 0, 0, []) : zm_E) := (congrArg (fun l => l[3]?) cd_18).trans rfl
theorem c_18_4 : (zm_cd 18)[4]? = some ((10, .new 85, 3, 1, 0, 1, 0, 0, [250, 89, 0, 13]) : zm_E) := (congrArg (fun l => l[4]?) cd_18).trans rfl
theorem c_18_5 : (zm_cd 18)[5]? = some ((13, .dup, 1, 0, 0, 0, 0, 0, []) : zm_E) := (congrArg (fun l => l[5]?) cd_18).trans rfl
theorem c_18_6 : (zm_cd 18)[6]? = some ((14, .ldc 250, 2, 0, 0, 1, 0, 0, []) : zm_E) := (congrArg (fun l => l[6]?) cd_18).trans rfl
theorem c_18_7 : (zm_cd 18)[7]? = some ((16, .invokespecial 89, 3, 1002, 1, 0, 0, 0, []) : zm_E) := (congrArg (fun l => l[7]?) cd_18).trans rfl
theorem c_18_8 : (zm_cd 18)[8]? = some ((19, .athrow, 1, 0, 0, 0, 0, 0, []) : zm_E) := (congrArg (fun l => l[8]?) cd_18).trans rfl
theorem c_18_9 : (zm_cd 18)[9]? = some ((20, .aload_n 0, 1, 0, 0, 0, 0, 0, []) : zm_E) := (congrArg (fun l => l[9]?) cd_18).trans rfl
theorem c_18_10 : (zm_cd 18)[10]? = some ((21, .getfield 26, 3, 7, 2, 1, 0, 0, []) : zm_E) := (congrArg (fun l => l[10]?) cd_18).trans rfl
theorem c_18_11 : (zm_cd 18)[11]? = some ((24, .aload_n 0, 1, 0, 0, 0, 0, 0, []) : zm_E) := (congrArg (fun l => l[11]?) cd_18).trans rfl
theorem c_18_12 : (zm_cd 18)[12]? = some ((25, .getfield 19, 3, 7, 1, 1, 0, 0, []) : zm_E) := (congrArg (fun l => l[12]?) cd_18).trans rfl
theorem c_18_13 : (zm_cd 18)[13]? = some ((28, .invokevirtual 252, 3, 113, 1, 0, 0, 0, [0]) : zm_E) := (congrArg (fun l => l[13]?) cd_18).trans rfl
theorem c_18_14 : (zm_cd 18)[14]? = some ((31, .aload_n 0, 1, 0, 0, 0, 0, 0, []) : zm_E) := (congrArg (fun l => l[14]?) cd_18).trans rfl
theorem c_18_15 : (zm_cd 18)[15]? = some ((32, .getfield 26, 3, 7, 2, 1, 0, 0, []) : zm_E) := (congrArg (fun l => l[15]?) cd_18).trans rfl
theorem c_18_16 : (zm_cd 18)[16]? = some ((35, .invokevirtual 247, 3, 212, 0, 1, 0, 0, [0]) : zm_E) := (congrArg (fun l => l[16]?) cd_18).trans rfl
theorem c_18_17 : (zm_cd 18)[17]? = some ((38, .ireturn, 1, 0, 0, 0, 0, 0, []) : zm_E) := (congrArg (fun l => l[17]?) cd_18).trans rfl
theorem cd_19 : zm_cd 19 = zd_19 := rfl
theorem ml_19 : zm_ml 19 = 2 := rfl
theorem ht_19 : zm_ht 19 = [] := rfl
theorem c_19_0 : (zm_cd 19)[0]? = some ((0, .aload_n 0, 1, 0, 0, 0, 0, 0, []) : zm_E) := (congrArg (fun l => l[0]?) cd_19).trans rfl
theorem c_19_1 : (zm_cd 19)[1]? = some ((1, .getfield 56, 3, 7, 8, 1, 0, 0, []) : zm_E) := (congrArg (fun l => l[1]?) cd_19).trans rfl
theorem c_19_2 : (zm_cd 19)[2]? = some ((4, .aload_n 0, 1, 0, 0, 0, 0, 0, []) : zm_E) := (congrArg (fun l => l[2]?) cd_19).trans rfl
theorem c_19_3 : (zm_cd 19)[3]? = some ((5, .getfield 19, 3, 7, 1, 1, 0, 0, []) : zm_E) := (congrArg (fun l => l[3]?) cd_19).trans rfl
theorem c_19_4 : (zm_cd 19)[4]? = some ((8, .iload_n 1, 1, 1, 0, 0, 0, 0, []) : zm_E) := (congrArg (fun l => l[4]?) cd_19).trans rfl
theorem c_19_5 : (zm_cd 19)[5]? = some ((9, .invokevirtual 255, 3, 154, 2, 1, 0, 0, [4]) : zm_E) := (congrArg (fun l => l[5]?) cd_19).trans rfl
theorem c_19_6 : (zm_cd 19)[6]? = some ((12, .ireturn, 1, 0, 0, 0, 0, 0, []) : zm_E) := (congrArg (fun l => l[6]?) cd_19).trans rfl
theorem cd_20 : zm_cd 20 = zd_20 := rfl
theorem ml_20 : zm_ml 20 = 2 := rfl
theorem ht_20 : zm_ht 20 = [] := rfl
theorem c_20_0 : (zm_cd 20)[0]? = some ((0, .aload_n 0, 1, 0, 0, 0, 0, 0, []) : zm_E) := (congrArg (fun l => l[0]?) cd_20).trans rfl
theorem c_20_1 : (zm_cd 20)[1]? = some ((1, .getfield 56, 3, 7, 8, 1, 0, 0, []) : zm_E) := (congrArg (fun l => l[1]?) cd_20).trans rfl
theorem c_20_2 : (zm_cd 20)[2]? = some ((4, .aload_n 0, 1, 0, 0, 0, 0, 0, []) : zm_E) := (congrArg (fun l => l[2]?) cd_20).trans rfl
theorem c_20_3 : (zm_cd 20)[3]? = some ((5, .getfield 19, 3, 7, 1, 1, 0, 0, []) : zm_E) := (congrArg (fun l => l[3]?) cd_20).trans rfl
theorem c_20_4 : (zm_cd 20)[4]? = some ((8, .iload_n 1, 1, 1, 0, 0, 0, 0, []) : zm_E) := (congrArg (fun l => l[4]?) cd_20).trans rfl
theorem c_20_5 : (zm_cd 20)[5]? = some ((9, .invokevirtual 259, 3, 155, 2, 1, 0, 0, [4]) : zm_E) := (congrArg (fun l => l[5]?) cd_20).trans rfl
theorem c_20_6 : (zm_cd 20)[6]? = some ((12, .ireturn, 1, 0, 0, 0, 0, 0, []) : zm_E) := (congrArg (fun l => l[6]?) cd_20).trans rfl
theorem cd_21 : zm_cd 21 = zd_21 := rfl
theorem ml_21 : zm_ml 21 = 1 := rfl
theorem ht_21 : zm_ht 21 = [] := rfl
theorem c_21_0 : (zm_cd 21)[0]? = some ((0, .aload_n 0, 1, 0, 0, 0, 0, 0, []) : zm_E) := (congrArg (fun l => l[0]?) cd_21).trans rfl
theorem c_21_1 : (zm_cd 21)[1]? = some ((1, .getfield 56, 3, 7, 8, 1, 0, 0, []) : zm_E) := (congrArg (fun l => l[1]?) cd_21).trans rfl
theorem c_21_2 : (zm_cd 21)[2]? = some ((4, .aload_n 0, 1, 0, 0, 0, 0, 0, []) : zm_E) := (congrArg (fun l => l[2]?) cd_21).trans rfl
theorem c_21_3 : (zm_cd 21)[3]? = some ((5, .getfield 19, 3, 7, 1, 1, 0, 0, []) : zm_E) := (congrArg (fun l => l[3]?) cd_21).trans rfl
theorem c_21_4 : (zm_cd 21)[4]? = some ((8, .invokevirtual 262, 3, 162, 1, 1, 0, 0, [4]) : zm_E) := (congrArg (fun l => l[4]?) cd_21).trans rfl
theorem c_21_5 : (zm_cd 21)[5]? = some ((11, .ireturn, 1, 0, 0, 0, 0, 0, []) : zm_E) := (congrArg (fun l => l[5]?) cd_21).trans rfl
theorem cd_22 : zm_cd 22 = zd_22 := rfl
theorem ml_22 : zm_ml 22 = 2 := rfl
theorem ht_22 : zm_ht 22 = [] := rfl
theorem c_22_0 : (zm_cd 22)[0]? = some ((0, .aload_n 0, 1, 0, 0, 0, 0, 0, []) : zm_E) := (congrArg (fun l => l[0]?) cd_22).trans rfl
theorem c_22_1 : (zm_cd 22)[1]? = some ((1, .iload_n 1, 1, 1, 0, 0, 0, 0, []) : zm_E) := (congrArg (fun l => l[1]?) cd_22).trans rfl
theorem c_22_2 : (zm_cd 22)[2]? = some ((2, .invokevirtual 145, 3, 31, 1, 0, 0, 0, [7]) : zm_E) := (congrArg (fun l => l[2]?) cd_22).trans rfl
theorem c_22_3 : (zm_cd 22)[3]? = some ((5, .aload_n 0, 1, 0, 0, 0, 0, 0, []) : zm_E) := (congrArg (fun l => l[3]?) cd_22).trans rfl
theorem c_22_4 : (zm_cd 22)[4]? = some ((6, .getfield 56, 3, 7, 8, 1, 0, 0, []) : zm_E) := (congrArg (fun l => l[4]?) cd_22).trans rfl
theorem c_22_5 : (zm_cd 22)[5]? = some ((9, .aload_n 0, 1, 0, 0, 0, 0, 0, []) : zm_E) := (congrArg (fun l => l[5]?) cd_22).trans rfl
theorem c_22_6 : (zm_cd 22)[6]? = some ((10, .getfield 19, 3, 7, 1, 1, 0, 0, []) : zm_E) := (congrArg (fun l => l[6]?) cd_22).trans rfl
theorem c_22_7 : (zm_cd 22)[7]? = some ((13, .iload_n 1, 1, 1, 0, 0, 0, 0, []) : zm_E) := (congrArg (fun l => l[7]?) cd_22).trans rfl
theorem c_22_8 : (zm_cd 22)[8]? = some ((14, .invokevirtual 265, 3, 163, 2, 1, 0, 0, [4]) : zm_E) := (congrArg (fun l => l[8]?) cd_22).trans rfl
theorem c_22_9 : (zm_cd 22)[9]? = some ((17, .ireturn, 1, 0, 0, 0, 0, 0, []) : zm_E) := (congrArg (fun l => l[9]?) cd_22).trans rfl
theorem cd_23 : zm_cd 23 = zd_23 := rfl
theorem ml_23 : zm_ml 23 = 1 := rfl
theorem ht_23 : zm_ht 23 = [] := rfl
theorem c_23_0 : (zm_cd 23)[0]? = some ((0, .aload_n 0, 1, 0, 0, 0, 0, 0, []) : zm_E) := (congrArg (fun l => l[0]?) cd_23).trans rfl
theorem c_23_1 : (zm_cd 23)[1]? = some ((1, .getfield 56, 3, 7, 8, 1, 0, 0, []) : zm_E) := (congrArg (fun l => l[1]?) cd_23).trans rfl
theorem c_23_2 : (zm_cd 23)[2]? = some ((4, .aload_n 0, 1, 0, 0, 0, 0, 0, []) : zm_E) := (congrArg (fun l => l[2]?) cd_23).trans rfl
theorem c_23_3 : (zm_cd 23)[3]? = some ((5, .getfield 19, 3, 7, 1, 1, 0, 0, []) : zm_E) := (congrArg (fun l => l[3]?) cd_23).trans rfl
theorem c_23_4 : (zm_cd 23)[4]? = some ((8, .invokevirtual 268, 3, 157, 1, 1, 0, 0, [4]) : zm_E) := (congrArg (fun l => l[4]?) cd_23).trans rfl
theorem c_23_5 : (zm_cd 23)[5]? = some ((11, .ireturn, 1, 0, 0, 0, 0, 0, []) : zm_E) := (congrArg (fun l => l[5]?) cd_23).trans rfl
theorem cd_24 : zm_cd 24 = zd_24 := rfl
theorem ml_24 : zm_ml 24 = 6 := rfl
theorem ht_24 : zm_ht 24 = [] := rfl
theorem c_24_0 : (zm_cd 24)[0]? = some ((0, .aload_n 0, 1, 0, 0, 0, 0, 0, []) : zm_E) := (congrArg (fun l => l[0]?) cd_24).trans rfl
theorem c_24_1 : (zm_cd 24)[1]? = some ((1, .iload_n 1, 1, 1, 0, 0, 0, 0, []) : zm_E) := (congrArg (fun l => l[1]?) cd_24).trans rfl
theorem c_24_2 : (zm_cd 24)[2]? = some ((2, .invokevirtual 145, 3, 31, 1, 0, 0, 0, [7]) : zm_E) := (congrArg (fun l => l[2]?) cd_24).trans rfl
theorem c_24_3 : (zm_cd 24)[3]? = some ((5, .aload_n 0, 1, 0, 0, 0, 0, 0, []) : zm_E) := (congrArg (fun l => l[3]?) cd_24).trans rfl
theorem c_24_4 : (zm_cd 24)[4]? = some ((6, .getfield 19, 3, 7, 1, 1, 0, 0, []) : zm_E) := (congrArg (fun l => l[4]?) cd_24).trans rfl
theorem c_24_5 : (zm_cd 24)[5]? = some ((9, .iload_n 1, 1, 1, 0, 0, 0, 0, []) : zm_E) := (congrArg (fun l => l[5]?) cd_24).trans rfl
theorem c_24_6 : (zm_cd 24)[6]? = some ((10, .invokevirtual 160, 3, 119, 1, 1, 0, 0, [1]) : zm_E) := (congrArg (fun l => l[6]?) cd_24).trans rfl
theorem c_24_7 : (zm_cd 24)[7]? = some ((13, .ifCond .ne 5, 3, 10, 0, 0, 0, 0, []) : zm_E) := (congrArg (fun l => l[7]?) cd_24).trans rfl
theorem c_24_8 : (zm_cd 24)[8]? = some ((16, .iconst 0, 1, 0, 0, 0, 0, 0, []) : zm_E) := (congrArg (fun l => l[8]?) cd_24).trans rfl
theorem c_24_9 : (zm_cd 24)[9]? = some ((17, .ireturn, 1, 0, 0, 0, 0, 0, []) : zm_E) := (congrArg (fun l => l[9]?) cd_24).trans rfl
theorem c_24_10 : (zm_cd 24)[10]? = some ((18, .aload_n 0, 1, 0, 0, 0, 0, 0, []) : zm_E) := (congrArg (fun l => l[10]?) cd_24).trans rfl
theorem c_24_11 : (zm_cd 24)[11]? = some ((19, .getfield 19, 3, 7, 1, 1, 0, 0, []) : zm_E) := (congrArg (fun l => l[11]?) cd_24).trans rfl
theorem c_24_12 : (zm_cd 24)[12]? = some ((22, .invokevirtual 236, 3, 118, 0, 1, 0, 0, [1]) : zm_E) := (congrArg (fun l => l[12]?) cd_24).trans rfl
theorem c_24_13 : (zm_cd 24)[13]? = some ((25, .iload_n 1, 1, 1, 0, 0, 0, 0, []) : zm_E) := (congrArg (fun l => l[13]?) cd_24).trans rfl
theorem c_24_14 : (zm_cd 24)[14]? = some ((26, .invokestatic 271, 3, 36, 1, 1, 0, 0, []) : zm_E) := (congrArg (fun l => l[14]?) cd_24).trans rfl
theorem c_24_15 : (zm_cd 24)[15]? = some ((29, .iconst (-1), 1, 0, 0, 0, (-1), 0, []) : zm_E) := (congrArg (fun l => l[15]?) cd_24).trans rfl
theorem c_24_16 : (zm_cd 24)[16]? = some ((30, .ixor, 1, 0, 0, 0, 0, 0, []) : zm_E) := (congrArg (fun l => l[16]?) cd_24).trans rfl
theorem c_24_17 : (zm_cd 24)[17]? = some ((31, .iand, 1, 0, 0, 0, 0, 0, []) : zm_E) := (congrArg (fun l => l[17]?) cd_24).trans rfl
theorem c_24_18 : (zm_cd 24)[18]? = some ((32, .istore_n 2, 1, 2, 0, 0, 0, 0, []) : zm_E) := (congrArg (fun l => l[18]?) cd_24).trans rfl
theorem c_24_19 : (zm_cd 24)[19]? = some ((33, .aload_n 0, 1, 0, 0, 0, 0, 0, []) : zm_E) := (congrArg (fun l => l[19]?) cd_24).trans rfl
theorem c_24_20 : (zm_cd 24)[20]? = some ((34, .invokevirtual 127, 3, 30, 0, 2, 0, 0, [7]) : zm_E) := (congrArg (fun l => l[20]?) cd_24).trans rfl
theorem c_24_21 : (zm_cd 24)[21]? = some ((37, .astore_n 3, 1, 3, 0, 0, 0, 0, []) : zm_E) := (congrArg (fun l => l[21]?) cd_24).trans rfl
theorem c_24_22 : (zm_cd 24)[22]? = some ((38, .aload_n 0, 1, 0, 0, 0, 0, 0, []) : zm_E) := (congrArg (fun l => l[22]?) cd_24).trans rfl
theorem c_24_23 : (zm_cd 24)[23]? = some ((39, .getfield 50, 3, 7, 7, 1, 0, 0, []) : zm_E) := (congrArg (fun l => l[23]?) cd_24).trans rfl
theorem c_24_24 : (zm_cd 24)[24]? = some ((42, .aload_n 0, 1, 0, 0, 0, 0, 0, []) : zm_E) := (congrArg (fun l => l[24]?) cd_24).trans rfl
theorem c_24_25 : (zm_cd 24)[25]? = some ((43, .getfield 19, 3, 7, 1, 1, 0, 0, []) : zm_E) := (congrArg (fun l => l[25]?) cd_24).trans rfl
theorem c_24_26 : (zm_cd 24)[26]? = some ((46, .iload_n 2, 1, 2, 0, 0, 0, 0, []) : zm_E) := (congrArg (fun l => l[26]?) cd_24).trans rfl
theorem c_24_27 : (zm_cd 24)[27]? = some ((47, .invokevirtual 274, 3, 175, 2, 0, 0, 0, [6]) : zm_E) := (congrArg (fun l => l[27]?) cd_24).trans rfl
theorem c_24_28 : (zm_cd 24)[28]? = some ((50, .iconst 0, 1, 0, 0, 0, 0, 0, []) : zm_E) := (congrArg (fun l => l[28]?) cd_24).trans rfl
theorem c_24_29 : (zm_cd 24)[29]? = some ((51, .istore 4, 2, 4, 0, 0, 0, 0, []) : zm_E) := (congrArg (fun l => l[29]?) cd_24).trans rfl
theorem c_24_30 : (zm_cd 24)[30]? = some ((53, .iconst 0, 1, 0, 0, 0, 0, 0, []) : zm_E) := (congrArg (fun l => l[30]?) cd_24).trans rfl
theorem c_24_31 : (zm_cd 24)[31]? = some ((54, .istore 5, 2, 5, 0, 0, 0, 0, []) : zm_E) := (congrArg (fun l => l[31]?) cd_24).trans rfl
theorem c_24_32 : (zm_cd 24)[32]? = some ((56, .iload 5, 2, 5, 0, 0, 0, 0, []) : zm_E) := (congrArg (fun l => l[32]?) cd_24).trans rfl
theorem c_24_33 : (zm_cd 24)[33]? = some ((58, .aload_n 0, 1, 0, 0, 0, 0, 0, []) : zm_E) := (congrArg (fun l => l[33]?) cd_24).trans rfl
theorem c_24_34 : (zm_cd 24)[34]? = some ((59, .getfield 19, 3, 7, 1, 1, 0, 0, []) : zm_E) := (congrArg (fun l => l[34]?) cd_24).trans rfl
theorem c_24_35 : (zm_cd 24)[35]? = some ((62, .getfield 118, 3, 1, 0, 0, 0, 0, []) : zm_E) := (congrArg (fun l => l[35]?) cd_24).trans rfl
theorem c_24_36 : (zm_cd 24)[36]? = some ((65, .if_icmp .ge 70, 3, 66, 0, 0, 0, 0, []) : zm_E) := (congrArg (fun l => l[36]?) cd_24).trans rfl
theorem c_24_37 : (zm_cd 24)[37]? = some ((68, .iload_n 2, 1, 2, 0, 0, 0, 0, []) : zm_E) := (congrArg (fun l => l[37]?) cd_24).trans rfl
theorem c_24_38 : (zm_cd 24)[38]? = some ((69, .iload 5, 2, 5, 0, 0, 0, 0, []) : zm_E) := (congrArg (fun l => l[38]?) cd_24).trans rfl
theorem c_24_39 : (zm_cd 24)[39]? = some ((71, .invokestatic 278, 3, 37, 2, 1, 0, 0, []) : zm_E) := (congrArg (fun l => l[39]?) cd_24).trans rfl
theorem c_24_40 : (zm_cd 24)[40]? = some ((74, .ifCond .eq 55, 3, 64, 0, 0, 0, 0, []) : zm_E) := (congrArg (fun l => l[40]?) cd_24).trans rfl
theorem c_24_41 : (zm_cd 24)[41]? = some ((77, .aload_n 0, 1, 0, 0, 0, 0, 0, []) : zm_E) := (congrArg (fun l => l[41]?) cd_24).trans rfl
theorem c_24_42 : (zm_cd 24)[42]? = some ((78, .getfield 19, 3, 7, 1, 1, 0, 0, []) : zm_E) := (congrArg (fun l => l[42]?) cd_24).trans rfl
theorem c_24_43 : (zm_cd 24)[43]? = some ((81, .iload 5, 2, 5, 0, 0, 0, 0, []) : zm_E) := (congrArg (fun l => l[43]?) cd_24).trans rfl
theorem c_24_44 : (zm_cd 24)[44]? = some ((83, .aload_n 0, 1, 0, 0, 0, 0, 0, []) : zm_E) := (congrArg (fun l => l[44]?) cd_24).trans rfl
theorem c_24_45 : (zm_cd 24)[45]? = some ((84, .getfield 50, 3, 7, 7, 1, 0, 0, []) : zm_E) := (congrArg (fun l => l[45]?) cd_24).trans rfl
theorem c_24_46 : (zm_cd 24)[46]? = some ((87, .getfield 164, 3, 6, 2, 1, 0, 0, []) : zm_E) := (congrArg (fun l => l[46]?) cd_24).trans rfl
theorem c_24_47 : (zm_cd 24)[47]? = some ((90, .iload 5, 2, 5, 0, 0, 0, 0, []) : zm_E) := (congrArg (fun l => l[47]?) cd_24).trans rfl
theorem c_24_48 : (zm_cd 24)[48]? = some ((92, .invokestatic 152, 3, 209, 2, 1, 0, 0, []) : zm_E) := (congrArg (fun l => l[48]?) cd_24).trans rfl
theorem c_24_49 : (zm_cd 24)[49]? = some ((95, .invokevirtual 282, 3, 124, 2, 1, 0, 0, [1]) : zm_E) := (congrArg (fun l => l[49]?) cd_24).trans rfl
theorem c_24_50 : (zm_cd 24)[50]? = some ((98, .aload_n 0, 1, 0, 0, 0, 0, 0, []) : zm_E) := (congrArg (fun l => l[50]?) cd_24).trans rfl
theorem c_24_51 : (zm_cd 24)[51]? = some ((99, .getfield 19, 3, 7, 1, 1, 0, 0, []) : zm_E) := (congrArg (fun l => l[51]?) cd_24).trans rfl
theorem c_24_52 : (zm_cd 24)[52]? = some ((102, .iload 5, 2, 5, 0, 0, 0, 0, []) : zm_E) := (congrArg (fun l => l[52]?) cd_24).trans rfl
theorem c_24_53 : (zm_cd 24)[53]? = some ((104, .aload_n 3, 1, 3, 0, 0, 0, 0, []) : zm_E) := (congrArg (fun l => l[53]?) cd_24).trans rfl
theorem c_24_54 : (zm_cd 24)[54]? = some ((105, .getfield 164, 3, 6, 2, 1, 0, 0, []) : zm_E) := (congrArg (fun l => l[54]?) cd_24).trans rfl
theorem c_24_55 : (zm_cd 24)[55]? = some ((108, .iload 5, 2, 5, 0, 0, 0, 0, []) : zm_E) := (congrArg (fun l => l[55]?) cd_24).trans rfl
theorem c_24_56 : (zm_cd 24)[56]? = some ((110, .invokestatic 152, 3, 209, 2, 1, 0, 0, []) : zm_E) := (congrArg (fun l => l[56]?) cd_24).trans rfl
theorem c_24_57 : (zm_cd 24)[57]? = some ((113, .invokevirtual 282, 3, 124, 2, 1, 0, 0, [1]) : zm_E) := (congrArg (fun l => l[57]?) cd_24).trans rfl
theorem c_24_58 : (zm_cd 24)[58]? = some ((116, .if_icmp .le 13, 3, 64, 0, 0, 0, 0, []) : zm_E) := (congrArg (fun l => l[58]?) cd_24).trans rfl
theorem c_24_59 : (zm_cd 24)[59]? = some ((119, .iload 4, 2, 4, 0, 0, 0, 0, []) : zm_E) := (congrArg (fun l => l[59]?) cd_24).trans rfl
theorem c_24_60 : (zm_cd 24)[60]? = some ((121, .iload 5, 2, 5, 0, 0, 0, 0, []) : zm_E) := (congrArg (fun l => l[60]?) cd_24).trans rfl
theorem c_24_61 : (zm_cd 24)[61]? = some ((123, .invokestatic 271, 3, 36, 1, 1, 0, 0, []) : zm_E) := (congrArg (fun l => l[61]?) cd_24).trans rfl
theorem c_24_62 : (zm_cd 24)[62]? = some ((126, .ior, 1, 0, 0, 0, 0, 0, []) : zm_E) := (congrArg (fun l => l[62]?) cd_24).trans rfl
theorem c_24_63 : (zm_cd 24)[63]? = some ((127, .istore 4, 2, 4, 0, 0, 0, 0, []) : zm_E) := (congrArg (fun l => l[63]?) cd_24).trans rfl
theorem c_24_64 : (zm_cd 24)[64]? = some ((129, .iinc 5 1, 3, 5, 0, 0, 1, 0, []) : zm_E) := (congrArg (fun l => l[64]?) cd_24).trans rfl
theorem c_24_65 : (zm_cd 24)[65]? = some ((132, .goto (-76), 3, 32, 0, 0, 0, 0, []) : zm_E) := (congrArg (fun l => l[65]?) cd_24).trans rfl
theorem c_24_66 : (zm_cd 24)[66]? = some ((135, .iload 4, 2, 4, 0, 0, 0, 0, []) : zm_E) := (congrArg (fun l => l[66]?) cd_24).trans rfl
theorem c_24_67 : (zm_cd 24)[67]? = some ((137, .ireturn, 1, 0, 0, 0, 0, 0, []) : zm_E) := (congrArg (fun l => l[67]?) cd_24).trans rfl
theorem cd_25 : zm_cd 25 = zd_25 := rfl
theorem ml_25 : zm_ml 25 = 3 := rfl
theorem ht_25 : zm_ht 25 = [] := rfl
theorem c_25_0 : (zm_cd 25)[0]? = some ((0, .aload_n 0, 1, 0, 0, 0, 0, 0, []) : zm_E) := (congrArg (fun l => l[0]?) cd_25).trans rfl
theorem c_25_1 : (zm_cd 25)[1]? = some ((1, .iload_n 1, 1, 1, 0, 0, 0, 0, []) : zm_E) := (congrArg (fun l => l[1]?) cd_25).trans rfl
theorem c_25_2 : (zm_cd 25)[2]? = some ((2, .invokevirtual 145, 3, 31, 1, 0, 0, 0, [7]) : zm_E) := (congrArg (fun l => l[2]?) cd_25).trans rfl
theorem c_25_3 : (zm_cd 25)[3]? = some ((5, .aload_n 0, 1, 0, 0, 0, 0, 0, []) : zm_E) := (congrArg (fun l => l[3]?) cd_25).trans rfl
theorem c_25_4 : (zm_cd 25)[4]? = some ((6, .iload_n 2, 1, 2, 0, 0, 0, 0, []) : zm_E) := (congrArg (fun l => l[4]?) cd_25).trans rfl
theorem c_25_5 : (zm_cd 25)[5]? = some ((7, .invokevirtual 178, 3, 32, 1, 0, 0, 0, [7]) : zm_E) := (congrArg (fun l => l[5]?) cd_25).trans rfl
theorem c_25_6 : (zm_cd 25)[6]? = some ((10, .aload_n 0, 1, 0, 0, 0, 0, 0, []) : zm_E) := (congrArg (fun l => l[6]?) cd_25).trans rfl
theorem c_25_7 : (zm_cd 25)[7]? = some ((11, .getfield 40, 3, 7, 5, 1, 0, 0, []) : zm_E) := (congrArg (fun l => l[7]?) cd_25).trans rfl
theorem c_25_8 : (zm_cd 25)[8]? = some ((14, .aload_n 0, 1, 0, 0, 0, 0, 0, []) : zm_E) := (congrArg (fun l => l[8]?) cd_25).trans rfl
theorem c_25_9 : (zm_cd 25)[9]? = some ((15, .getfield 19, 3, 7, 1, 1, 0, 0, []) : zm_E) := (congrArg (fun l => l[9]?) cd_25).trans rfl
theorem c_25_10 : (zm_cd 25)[10]? = some ((18, .invokevirtual 104, 3, 115, 1, 0, 0, 0, [1]) : zm_E) := (congrArg (fun l => l[10]?) cd_25).trans rfl
theorem c_25_11 : (zm_cd 25)[11]? = some ((21, .aload_n 0, 1, 0, 0, 0, 0, 0, []) : zm_E) := (congrArg (fun l => l[11]?) cd_25).trans rfl
theorem c_25_12 : (zm_cd 25)[12]? = some ((22, .getfield 63, 3, 7, 9, 1, 0, 0, []) : zm_E) := (congrArg (fun l => l[12]?) cd_25).trans rfl
theorem c_25_13 : (zm_cd 25)[13]? = some ((25, .aload_n 0, 1, 0, 0, 0, 0, 0, []) : zm_E) := (congrArg (fun l => l[13]?) cd_25).trans rfl
theorem c_25_14 : (zm_cd 25)[14]? = some ((26, .getfield 40, 3, 7, 5, 1, 0, 0, []) : zm_E) := (congrArg (fun l => l[14]?) cd_25).trans rfl
theorem c_25_15 : (zm_cd 25)[15]? = some ((29, .iload_n 1, 1, 1, 0, 0, 0, 0, []) : zm_E) := (congrArg (fun l => l[15]?) cd_25).trans rfl
theorem c_25_16 : (zm_cd 25)[16]? = some ((30, .iload_n 2, 1, 2, 0, 0, 0, 0, []) : zm_E) := (congrArg (fun l => l[16]?) cd_25).trans rfl
theorem c_25_17 : (zm_cd 25)[17]? = some ((31, .invokevirtual 285, 3, 147, 3, 1, 0, 0, [3]) : zm_E) := (congrArg (fun l => l[17]?) cd_25).trans rfl
theorem c_25_18 : (zm_cd 25)[18]? = some ((34, .ireturn, 1, 0, 0, 0, 0, 0, []) : zm_E) := (congrArg (fun l => l[18]?) cd_25).trans rfl
theorem cd_26 : zm_cd 26 = zd_26 := rfl
theorem ml_26 : zm_ml 26 = 5 := rfl
theorem ht_26 : zm_ht 26 = [] := rfl
theorem c_26_0 : (zm_cd 26)[0]? = some ((0, .iload_n 1, 1, 1, 0, 0, 0, 0, []) : zm_E) := (congrArg (fun l => l[0]?) cd_26).trans rfl
theorem c_26_1 : (zm_cd 26)[1]? = some ((1, .iconst 1, 1, 0, 0, 0, 1, 0, []) : zm_E) := (congrArg (fun l => l[1]?) cd_26).trans rfl
theorem c_26_2 : (zm_cd 26)[2]? = some ((2, .if_icmp .lt 8, 3, 6, 0, 0, 0, 0, []) : zm_E) := (congrArg (fun l => l[2]?) cd_26).trans rfl
theorem c_26_3 : (zm_cd 26)[3]? = some ((5, .iload_n 1, 1, 1, 0, 0, 0, 0, []) : zm_E) := (congrArg (fun l => l[3]?) cd_26).trans rfl
theorem c_26_4 : (zm_cd 26)[4]? = some ((6, .iconst 4, 1, 0, 0, 0, 4, 0, []) : zm_E) := (congrArg (fun l => l[4]?) cd_26).trans rfl
theorem c_26_5 : (zm_cd 26)[5]? = some ((7, .if_icmp .le 14, 3, 11, 0, 0, 0, 0, []) : zm_E) := (congrArg (fun l => l[5]?) cd_26).trans rfl
theorem c_26_6 : (zm_cd 26)[6]? = some ((10, .new 74, 3, 0, 0, 1, 0, 0, [289, 78, 1, 14]) : zm_E) := (congrArg (fun l => l[6]?) cd_26).trans rfl
theorem c_26_7 : (zm_cd 26)[7]? = some ((13, .dup, 1, 0, 0, 0, 0, 0, []) : zm_E) := (congrArg (fun l => l[7]?) cd_26).trans rfl
theorem c_26_8 : (zm_cd 26)[8]? = some ((14, .ldc_w 289, 3, 0, 0, 1, 0, 0, []) : zm_E) := (congrArg (fun l => l[8]?) cd_26).trans rfl
theorem c_26_9 : (zm_cd 26)[9]? = some ((17, .invokespecial 78, 3, 1002, 1, 0, 0, 0, []) : zm_E) := (congrArg (fun l => l[9]?) cd_26).trans rfl
theorem c_26_10 : (zm_cd 26)[10]? = some ((20, .athrow, 1, 0, 0, 0, 0, 0, []) : zm_E) := (congrArg (fun l => l[10]?) cd_26).trans rfl
theorem c_26_11 : (zm_cd 26)[11]? = some ((21, .lload_n 2, 1, 2, 0, 0, 0, 0, []) : zm_E) := (congrArg (fun l => l[11]?) cd_26).trans rfl
theorem c_26_12 : (zm_cd 26)[12]? = some ((22, .lconst 0, 1, 0, 0, 0, 0, 0, []) : zm_E) := (congrArg (fun l => l[12]?) cd_26).trans rfl
theorem c_26_13 : (zm_cd 26)[13]? = some ((23, .lcmp, 1, 0, 0, 0, 0, 0, []) : zm_E) := (congrArg (fun l => l[13]?) cd_26).trans rfl
theorem c_26_14 : (zm_cd 26)[14]? = some ((24, .ifCond .lt 15, 3, 21, 0, 0, 0, 0, []) : zm_E) := (congrArg (fun l => l[14]?) cd_26).trans rfl
theorem c_26_15 : (zm_cd 26)[15]? = some ((27, .aload_n 0, 1, 0, 0, 0, 0, 0, []) : zm_E) := (congrArg (fun l => l[15]?) cd_26).trans rfl
theorem c_26_16 : (zm_cd 26)[16]? = some ((28, .getfield 70, 3, 7, 10, 1, 0, 0, []) : zm_E) := (congrArg (fun l => l[16]?) cd_26).trans rfl
theorem c_26_17 : (zm_cd 26)[17]? = some ((31, .iload_n 1, 1, 1, 0, 0, 0, 0, []) : zm_E) := (congrArg (fun l => l[17]?) cd_26).trans rfl
theorem c_26_18 : (zm_cd 26)[18]? = some ((32, .lload_n 2, 1, 2, 0, 0, 0, 0, []) : zm_E) := (congrArg (fun l => l[18]?) cd_26).trans rfl
theorem c_26_19 : (zm_cd 26)[19]? = some ((33, .invokevirtual 291, 3, 138, 2, 1, 0, 0, [2]) : zm_E) := (congrArg (fun l => l[19]?) cd_26).trans rfl
theorem c_26_20 : (zm_cd 26)[20]? = some ((36, .ifCond .ne 14, 3, 26, 0, 0, 0, 0, []) : zm_E) := (congrArg (fun l => l[20]?) cd_26).trans rfl
theorem c_26_21 : (zm_cd 26)[21]? = some ((39, .new 74, 3, 0, 0, 1, 0, 0, [295, 78, 1, 15]) : zm_E) := (congrArg (fun l => l[21]?) cd_26).trans rfl
theorem c_26_22 : (zm_cd 26)[22]? = some ((42, .dup, 1, 0, 0, 0, 0, 0, []) : zm_E) := (congrArg (fun l => l[22]?) cd_26).trans rfl
theorem c_26_23 : (zm_cd 26)[23]? = some ((43, .ldc_w 295, 3, 0, 0, 1, 0, 0, []) : zm_E) := (congrArg (fun l => l[23]?) cd_26).trans rfl
theorem c_26_24 : (zm_cd 26)[24]? = some ((46, .invokespecial 78, 3, 1002, 1, 0, 0, 0, []) : zm_E) := (congrArg (fun l => l[24]?) cd_26).trans rfl
theorem c_26_25 : (zm_cd 26)[25]? = some ((49, .athrow, 1, 0, 0, 0, 0, 0, []) : zm_E) := (congrArg (fun l => l[25]?) cd_26).trans rfl
theorem c_26_26 : (zm_cd 26)[26]? = some ((50, .aload_n 0, 1, 0, 0, 0, 0, 0, []) : zm_E) := (congrArg (fun l => l[26]?) cd_26).trans rfl
theorem c_26_27 : (zm_cd 26)[27]? = some ((51, .getfield 40, 3, 7, 5, 1, 0, 0, []) : zm_E) := (congrArg (fun l => l[27]?) cd_26).trans rfl
theorem c_26_28 : (zm_cd 26)[28]? = some ((54, .aload_n 0, 1, 0, 0, 0, 0, 0, []) : zm_E) := (congrArg (fun l => l[28]?) cd_26).trans rfl
theorem c_26_29 : (zm_cd 26)[29]? = some ((55, .getfield 19, 3, 7, 1, 1, 0, 0, []) : zm_E) := (congrArg (fun l => l[29]?) cd_26).trans rfl
theorem c_26_30 : (zm_cd 26)[30]? = some ((58, .invokevirtual 104, 3, 115, 1, 0, 0, 0, [1]) : zm_E) := (congrArg (fun l => l[30]?) cd_26).trans rfl
theorem c_26_31 : (zm_cd 26)[31]? = some ((61, .iconst 0, 1, 0, 0, 0, 0, 0, []) : zm_E) := (congrArg (fun l => l[31]?) cd_26).trans rfl
theorem c_26_32 : (zm_cd 26)[32]? = some ((62, .istore 4, 2, 4, 0, 0, 0, 0, []) : zm_E) := (congrArg (fun l => l[32]?) cd_26).trans rfl
theorem c_26_33 : (zm_cd 26)[33]? = some ((64, .iload 4, 2, 4, 0, 0, 0, 0, []) : zm_E) := (congrArg (fun l => l[33]?) cd_26).trans rfl
theorem c_26_34 : (zm_cd 26)[34]? = some ((66, .iload_n 1, 1, 1, 0, 0, 0, 0, []) : zm_E) := (congrArg (fun l => l[34]?) cd_26).trans rfl
theorem c_26_35 : (zm_cd 26)[35]? = some ((67, .if_icmp .ge 36, 3, 51, 0, 0, 0, 0, []) : zm_E) := (congrArg (fun l => l[35]?) cd_26).trans rfl
theorem c_26_36 : (zm_cd 26)[36]? = some ((70, .aload_n 0, 1, 0, 0, 0, 0, 0, []) : zm_E) := (congrArg (fun l => l[36]?) cd_26).trans rfl
theorem c_26_37 : (zm_cd 26)[37]? = some ((71, .getfield 70, 3, 7, 10, 1, 0, 0, []) : zm_E) := (congrArg (fun l => l[37]?) cd_26).trans rfl
theorem c_26_38 : (zm_cd 26)[38]? = some ((74, .iload 4, 2, 4, 0, 0, 0, 0, []) : zm_E) := (congrArg (fun l => l[38]?) cd_26).trans rfl
theorem c_26_39 : (zm_cd 26)[39]? = some ((76, .aload_n 0, 1, 0, 0, 0, 0, 0, []) : zm_E) := (congrArg (fun l => l[39]?) cd_26).trans rfl
theorem c_26_40 : (zm_cd 26)[40]? = some ((77, .getfield 40, 3, 7, 5, 1, 0, 0, []) : zm_E) := (congrArg (fun l => l[40]?) cd_26).trans rfl
theorem c_26_41 : (zm_cd 26)[41]? = some ((80, .aload_n 0, 1, 0, 0, 0, 0, 0, []) : zm_E) := (congrArg (fun l => l[41]?) cd_26).trans rfl
theorem c_26_42 : (zm_cd 26)[42]? = some ((81, .getfield 46, 3, 7, 6, 1, 0, 0, []) : zm_E) := (congrArg (fun l => l[42]?) cd_26).trans rfl
theorem c_26_43 : (zm_cd 26)[43]? = some ((84, .aload_n 0, 1, 0, 0, 0, 0, 0, []) : zm_E) := (congrArg (fun l => l[43]?) cd_26).trans rfl
theorem c_26_44 : (zm_cd 26)[44]? = some ((85, .getfield 56, 3, 7, 8, 1, 0, 0, []) : zm_E) := (congrArg (fun l => l[44]?) cd_26).trans rfl
theorem c_26_45 : (zm_cd 26)[45]? = some ((88, .invokevirtual 297, 3, 139, 4, 1, 0, 0, [2]) : zm_E) := (congrArg (fun l => l[45]?) cd_26).trans rfl
theorem c_26_46 : (zm_cd 26)[46]? = some ((91, .ifCond .ne 6, 3, 49, 0, 0, 0, 0, []) : zm_E) := (congrArg (fun l => l[46]?) cd_26).trans rfl
theorem c_26_47 : (zm_cd 26)[47]? = some ((94, .iload 4, 2, 4, 0, 0, 0, 0, []) : zm_E) := (congrArg (fun l => l[47]?) cd_26).trans rfl
theorem c_26_48 : (zm_cd 26)[48]? = some ((96, .ireturn, 1, 0, 0, 0, 0, 0, []) : zm_E) := (congrArg (fun l => l[48]?) cd_26).trans rfl
theorem c_26_49 : (zm_cd 26)[49]? = some ((97, .iinc 4 1, 3, 4, 0, 0, 1, 0, []) : zm_E) := (congrArg (fun l => l[49]?) cd_26).trans rfl
theorem c_26_50 : (zm_cd 26)[50]? = some ((100, .goto (-36), 3, 33, 0, 0, 0, 0, []) : zm_E) := (congrArg (fun l => l[50]?) cd_26).trans rfl
theorem c_26_51 : (zm_cd 26)[51]? = some ((103, .bipush (-9), 2, 0, 0, 0, (-9), 0, []) : zm_E) := (congrArg (fun l => l[51]?) cd_26).trans rfl
theorem c_26_52 : (zm_cd 26)[52]? = some ((105, .ireturn, 1, 0, 0, 0, 0, 0, []) : zm_E) := (congrArg (fun l => l[52]?) cd_26).trans rfl
theorem cd_27 : zm_cd 27 = zd_27 := rfl
theorem ml_27 : zm_ml 27 = 8 := rfl
theorem ht_27 : zm_ht 27 = [] := rfl
theorem c_27_0 : (zm_cd 27)[0]? = some ((0, .iload_n 3, 1, 3, 0, 0, 0, 0, []) : zm_E) := (congrArg (fun l => l[0]?) cd_27).trans rfl
theorem c_27_1 : (zm_cd 27)[1]? = some ((1, .iconst 1, 1, 0, 0, 0, 1, 0, []) : zm_E) := (congrArg (fun l => l[1]?) cd_27).trans rfl
theorem c_27_2 : (zm_cd 27)[2]? = some ((2, .if_icmp .lt 9, 3, 6, 0, 0, 0, 0, []) : zm_E) := (congrArg (fun l => l[2]?) cd_27).trans rfl
theorem c_27_3 : (zm_cd 27)[3]? = some ((5, .iload_n 3, 1, 3, 0, 0, 0, 0, []) : zm_E) := (congrArg (fun l => l[3]?) cd_27).trans rfl
theorem c_27_4 : (zm_cd 27)[4]? = some ((6, .bipush 99, 2, 0, 0, 0, 99, 0, []) : zm_E) := (congrArg (fun l => l[4]?) cd_27).trans rfl
theorem c_27_5 : (zm_cd 27)[5]? = some ((8, .if_icmp .le 14, 3, 11, 0, 0, 0, 0, []) : zm_E) := (congrArg (fun l => l[5]?) cd_27).trans rfl
theorem c_27_6 : (zm_cd 27)[6]? = some ((11, .new 74, 3, 0, 0, 1, 0, 0, [301, 78, 1, 16]) : zm_E) := (congrArg (fun l => l[6]?) cd_27).trans rfl
theorem c_27_7 : (zm_cd 27)[7]? = some ((14, .dup, 1, 0, 0, 0, 0, 0, []) : zm_E) := (congrArg (fun l => l[7]?) cd_27).trans rfl
theorem c_27_8 : (zm_cd 27)[8]? = some ((15, .ldc_w 301, 3, 0, 0, 1, 0, 0, []) : zm_E) := (congrArg (fun l => l[8]?) cd_27).trans rfl
theorem c_27_9 : (zm_cd 27)[9]? = some ((18, .invokespecial 78, 3, 1002, 1, 0, 0, 0, []) : zm_E) := (congrArg (fun l => l[9]?) cd_27).trans rfl
theorem c_27_10 : (zm_cd 27)[10]? = some ((21, .athrow, 1, 0, 0, 0, 0, 0, []) : zm_E) := (congrArg (fun l => l[10]?) cd_27).trans rfl
theorem c_27_11 : (zm_cd 27)[11]? = some ((22, .aload_n 0, 1, 0, 0, 0, 0, 0, []) : zm_E) := (congrArg (fun l => l[11]?) cd_27).trans rfl
theorem c_27_12 : (zm_cd 27)[12]? = some ((23, .getfield 40, 3, 7, 5, 1, 0, 0, []) : zm_E) := (congrArg (fun l => l[12]?) cd_27).trans rfl
theorem c_27_13 : (zm_cd 27)[13]? = some ((26, .aload_n 0, 1, 0, 0, 0, 0, 0, []) : zm_E) := (congrArg (fun l => l[13]?) cd_27).trans rfl
theorem c_27_14 : (zm_cd 27)[14]? = some ((27, .getfield 19, 3, 7, 1, 1, 0, 0, []) : zm_E) := (congrArg (fun l => l[14]?) cd_27).trans rfl
theorem c_27_15 : (zm_cd 27)[15]? = some ((30, .invokevirtual 104, 3, 115, 1, 0, 0, 0, [1]) : zm_E) := (congrArg (fun l => l[15]?) cd_27).trans rfl
theorem c_27_16 : (zm_cd 27)[16]? = some ((33, .iconst 0, 1, 0, 0, 0, 0, 0, []) : zm_E) := (congrArg (fun l => l[16]?) cd_27).trans rfl
theorem c_27_17 : (zm_cd 27)[17]? = some ((34, .istore 4, 2, 4, 0, 0, 0, 0, []) : zm_E) := (congrArg (fun l => l[17]?) cd_27).trans rfl
theorem c_27_18 : (zm_cd 27)[18]? = some ((36, .lload_n 1, 1, 1, 0, 0, 0, 0, []) : zm_E) := (congrArg (fun l => l[18]?) cd_27).trans rfl
theorem c_27_19 : (zm_cd 27)[19]? = some ((37, .lstore 5, 2, 5, 0, 0, 0, 0, []) : zm_E) := (congrArg (fun l => l[19]?) cd_27).trans rfl
theorem c_27_20 : (zm_cd 27)[20]? = some ((39, .iconst 0, 1, 0, 0, 0, 0, 0, []) : zm_E) := (congrArg (fun l => l[20]?) cd_27).trans rfl
theorem c_27_21 : (zm_cd 27)[21]? = some ((40, .istore 7, 2, 7, 0, 0, 0, 0, []) : zm_E) := (congrArg (fun l => l[21]?) cd_27).trans rfl
theorem c_27_22 : (zm_cd 27)[22]? = some ((42, .iload 7, 2, 7, 0, 0, 0, 0, []) : zm_E) := (congrArg (fun l => l[22]?) cd_27).trans rfl
theorem c_27_23 : (zm_cd 27)[23]? = some ((44, .iload_n 3, 1, 3, 0, 0, 0, 0, []) : zm_E) := (congrArg (fun l => l[23]?) cd_27).trans rfl
theorem c_27_24 : (zm_cd 27)[24]? = some ((45, .if_icmp .ge 40, 3, 42, 0, 0, 0, 0, []) : zm_E) := (congrArg (fun l => l[24]?) cd_27).trans rfl
theorem c_27_25 : (zm_cd 27)[25]? = some ((48, .lload 5, 2, 5, 0, 0, 0, 0, []) : zm_E) := (congrArg (fun l => l[25]?) cd_27).trans rfl
theorem c_27_26 : (zm_cd 27)[26]? = some ((50, .ldc2_w 303, 3, 0, 0, 0, 0, 6364136223846793005, []) : zm_E) := (congrArg (fun l => l[26]?) cd_27).trans rfl
theorem c_27_27 : (zm_cd 27)[27]? = some ((53, .lmul, 1, 0, 0, 0, 0, 0, []) : zm_E) := (congrArg (fun l => l[27]?) cd_27).trans rfl
theorem c_27_28 : (zm_cd 27)[28]? = some ((54, .ldc2_w 305, 3, 0, 0, 0, 0, 1442695040888963407, []) : zm_E) := (congrArg (fun l => l[28]?) cd_27).trans rfl
theorem c_27_29 : (zm_cd 27)[29]? = some ((57, .ladd, 1, 0, 0, 0, 0, 0, []) : zm_E) := (congrArg (fun l => l[29]?) cd_27).trans rfl
theorem c_27_30 : (zm_cd 27)[30]? = some ((58, .lstore 5, 2, 5, 0, 0, 0, 0, []) : zm_E) := (congrArg (fun l => l[30]?) cd_27).trans rfl
theorem c_27_31 : (zm_cd 27)[31]? = some ((60, .aload_n 0, 1, 0, 0, 0, 0, 0, []) : zm_E) := (congrArg (fun l => l[31]?) cd_27).trans rfl
theorem c_27_32 : (zm_cd 27)[32]? = some ((61, .getfield 40, 3, 7, 5, 1, 0, 0, []) : zm_E) := (congrArg (fun l => l[32]?) cd_27).trans rfl
theorem c_27_33 : (zm_cd 27)[33]? = some ((64, .lload 5, 2, 5, 0, 0, 0, 0, []) : zm_E) := (congrArg (fun l => l[33]?) cd_27).trans rfl
theorem c_27_34 : (zm_cd 27)[34]? = some ((66, .bipush 33, 2, 0, 0, 0, 33, 0, []) : zm_E) := (congrArg (fun l => l[34]?) cd_27).trans rfl
theorem c_27_35 : (zm_cd 27)[35]? = some ((68, .lushr, 1, 0, 0, 0, 0, 0, []) : zm_E) := (congrArg (fun l => l[35]?) cd_27).trans rfl
theorem c_27_36 : (zm_cd 27)[36]? = some ((69, .l2i, 1, 0, 0, 0, 0, 0, []) : zm_E) := (congrArg (fun l => l[36]?) cd_27).trans rfl
theorem c_27_37 : (zm_cd 27)[37]? = some ((70, .invokestatic 307, 3, 35, 2, 1, 0, 0, []) : zm_E) := (congrArg (fun l => l[37]?) cd_27).trans rfl
theorem c_27_38 : (zm_cd 27)[38]? = some ((73, .ifCond .eq 6, 3, 40, 0, 0, 0, 0, []) : zm_E) := (congrArg (fun l => l[38]?) cd_27).trans rfl
theorem c_27_39 : (zm_cd 27)[39]? = some ((76, .iinc 4 1, 3, 4, 0, 0, 1, 0, []) : zm_E) := (congrArg (fun l => l[39]?) cd_27).trans rfl
theorem c_27_40 : (zm_cd 27)[40]? = some ((79, .iinc 7 1, 3, 7, 0, 0, 1, 0, []) : zm_E) := (congrArg (fun l => l[40]?) cd_27).trans rfl
theorem c_27_41 : (zm_cd 27)[41]? = some ((82, .goto (-40), 3, 22, 0, 0, 0, 0, []) : zm_E) := (congrArg (fun l => l[41]?) cd_27).trans rfl
theorem c_27_42 : (zm_cd 27)[42]? = some ((85, .sipush 1000, 3, 0, 0, 0, 1000, 0, []) : zm_E) := (congrArg (fun l => l[42]?) cd_27).trans rfl
theorem c_27_43 : (zm_cd 27)[43]? = some ((88, .iload 4, 2, 4, 0, 0, 0, 0, []) : zm_E) := (congrArg (fun l => l[43]?) cd_27).trans rfl
theorem c_27_44 : (zm_cd 27)[44]? = some ((90, .imul, 1, 0, 0, 0, 0, 0, []) : zm_E) := (congrArg (fun l => l[44]?) cd_27).trans rfl
theorem c_27_45 : (zm_cd 27)[45]? = some ((91, .bipush 100, 2, 0, 0, 0, 100, 0, []) : zm_E) := (congrArg (fun l => l[45]?) cd_27).trans rfl
theorem c_27_46 : (zm_cd 27)[46]? = some ((93, .aload_n 0, 1, 0, 0, 0, 0, 0, []) : zm_E) := (congrArg (fun l => l[46]?) cd_27).trans rfl
theorem c_27_47 : (zm_cd 27)[47]? = some ((94, .getfield 40, 3, 7, 5, 1, 0, 0, []) : zm_E) := (congrArg (fun l => l[47]?) cd_27).trans rfl
theorem c_27_48 : (zm_cd 27)[48]? = some ((97, .invokevirtual 114, 3, 120, 0, 1, 0, 0, [1]) : zm_E) := (congrArg (fun l => l[48]?) cd_27).trans rfl
theorem c_27_49 : (zm_cd 27)[49]? = some ((100, .imul, 1, 0, 0, 0, 0, 0, []) : zm_E) := (congrArg (fun l => l[49]?) cd_27).trans rfl
theorem c_27_50 : (zm_cd 27)[50]? = some ((101, .iadd, 1, 0, 0, 0, 0, 0, []) : zm_E) := (congrArg (fun l => l[50]?) cd_27).trans rfl
theorem c_27_51 : (zm_cd 27)[51]? = some ((102, .aload_n 0, 1, 0, 0, 0, 0, 0, []) : zm_E) := (congrArg (fun l => l[51]?) cd_27).trans rfl
theorem c_27_52 : (zm_cd 27)[52]? = some ((103, .getfield 40, 3, 7, 5, 1, 0, 0, []) : zm_E) := (congrArg (fun l => l[52]?) cd_27).trans rfl
theorem c_27_53 : (zm_cd 27)[53]? = some ((106, .invokevirtual 124, 3, 128, 0, 1, 0, 0, [1]) : zm_E) := (congrArg (fun l => l[53]?) cd_27).trans rfl
theorem c_27_54 : (zm_cd 27)[54]? = some ((109, .iadd, 1, 0, 0, 0, 0, 0, []) : zm_E) := (congrArg (fun l => l[54]?) cd_27).trans rfl
theorem c_27_55 : (zm_cd 27)[55]? = some ((110, .ireturn, 1, 0, 0, 0, 0, 0, []) : zm_E) := (congrArg (fun l => l[55]?) cd_27).trans rfl
theorem cd_28 : zm_cd 28 = zd_28 := rfl
theorem ml_28 : zm_ml 28 = 3 := rfl
theorem ht_28 : zm_ht 28 = [] := rfl
theorem c_28_0 : (zm_cd 28)[0]? = some ((0, .aload_n 0, 1, 0, 0, 0, 0, 0, []) : zm_E) := (congrArg (fun l => l[0]?) cd_28).trans rfl
theorem c_28_1 : (zm_cd 28)[1]? = some ((1, .iload_n 1, 1, 1, 0, 0, 0, 0, []) : zm_E) := (congrArg (fun l => l[1]?) cd_28).trans rfl
theorem c_28_2 : (zm_cd 28)[2]? = some ((2, .invokevirtual 311, 3, 33, 1, 2, 0, 0, [7]) : zm_E) := (congrArg (fun l => l[2]?) cd_28).trans rfl
theorem c_28_3 : (zm_cd 28)[3]? = some ((5, .astore_n 2, 1, 2, 0, 0, 0, 0, []) : zm_E) := (congrArg (fun l => l[3]?) cd_28).trans rfl
theorem c_28_4 : (zm_cd 28)[4]? = some ((6, .aload_n 2, 1, 2, 0, 0, 0, 0, []) : zm_E) := (congrArg (fun l => l[4]?) cd_28).trans rfl
theorem c_28_5 : (zm_cd 28)[5]? = some ((7, .getfield 315, 3, 9, 0, 1, 0, 0, []) : zm_E) := (congrArg (fun l => l[5]?) cd_28).trans rfl
theorem c_28_6 : (zm_cd 28)[6]? = some ((10, .aload_n 0, 1, 0, 0, 0, 0, 0, []) : zm_E) := (congrArg (fun l => l[6]?) cd_28).trans rfl
theorem c_28_7 : (zm_cd 28)[7]? = some ((11, .getfield 19, 3, 7, 1, 1, 0, 0, []) : zm_E) := (congrArg (fun l => l[7]?) cd_28).trans rfl
theorem c_28_8 : (zm_cd 28)[8]? = some ((14, .invokevirtual 104, 3, 115, 1, 0, 0, 0, [1]) : zm_E) := (congrArg (fun l => l[8]?) cd_28).trans rfl
theorem c_28_9 : (zm_cd 28)[9]? = some ((17, .aload_n 2, 1, 2, 0, 0, 0, 0, []) : zm_E) := (congrArg (fun l => l[9]?) cd_28).trans rfl
theorem c_28_10 : (zm_cd 28)[10]? = some ((18, .iconst 1, 1, 0, 0, 0, 1, 0, []) : zm_E) := (congrArg (fun l => l[10]?) cd_28).trans rfl
theorem c_28_11 : (zm_cd 28)[11]? = some ((19, .putfield 111, 3, 9, 1, 2, 0, 0, []) : zm_E) := (congrArg (fun l => l[11]?) cd_28).trans rfl
theorem c_28_12 : (zm_cd 28)[12]? = some ((22, .aload_n 0, 1, 0, 0, 0, 0, 0, []) : zm_E) := (congrArg (fun l => l[12]?) cd_28).trans rfl
theorem c_28_13 : (zm_cd 28)[13]? = some ((23, .getfield 19, 3, 7, 1, 1, 0, 0, []) : zm_E) := (congrArg (fun l => l[13]?) cd_28).trans rfl
theorem c_28_14 : (zm_cd 28)[14]? = some ((26, .getfield 118, 3, 1, 0, 0, 0, 0, []) : zm_E) := (congrArg (fun l => l[14]?) cd_28).trans rfl
theorem c_28_15 : (zm_cd 28)[15]? = some ((29, .ireturn, 1, 0, 0, 0, 0, 0, []) : zm_E) := (congrArg (fun l => l[15]?) cd_28).trans rfl
theorem cd_29 : zm_cd 29 = zd_29 := rfl
theorem ml_29 : zm_ml 29 = 3 := rfl
theorem ht_29 : zm_ht 29 = [] := rfl
theorem c_29_0 : (zm_cd 29)[0]? = some ((0, .aload_n 0, 1, 0, 0, 0, 0, 0, []) : zm_E) := (congrArg (fun l => l[0]?) cd_29).trans rfl
theorem c_29_1 : (zm_cd 29)[1]? = some ((1, .iload_n 1, 1, 1, 0, 0, 0, 0, []) : zm_E) := (congrArg (fun l => l[1]?) cd_29).trans rfl
theorem c_29_2 : (zm_cd 29)[2]? = some ((2, .invokevirtual 311, 3, 33, 1, 2, 0, 0, [7]) : zm_E) := (congrArg (fun l => l[2]?) cd_29).trans rfl
theorem c_29_3 : (zm_cd 29)[3]? = some ((5, .astore_n 2, 1, 2, 0, 0, 0, 0, []) : zm_E) := (congrArg (fun l => l[3]?) cd_29).trans rfl
theorem c_29_4 : (zm_cd 29)[4]? = some ((6, .aload_n 2, 1, 2, 0, 0, 0, 0, []) : zm_E) := (congrArg (fun l => l[4]?) cd_29).trans rfl
theorem c_29_5 : (zm_cd 29)[5]? = some ((7, .getfield 111, 3, 9, 1, 2, 0, 0, []) : zm_E) := (congrArg (fun l => l[5]?) cd_29).trans rfl
theorem c_29_6 : (zm_cd 29)[6]? = some ((10, .ifCond .ne 14, 3, 12, 0, 0, 0, 0, []) : zm_E) := (congrArg (fun l => l[6]?) cd_29).trans rfl
theorem c_29_7 : (zm_cd 29)[7]? = some ((13, .new 85, 3, 1, 0, 1, 0, 0, [318, 89, 1, 18]) : zm_E) := (congrArg (fun l => l[7]?) cd_29).trans rfl
theorem c_29_8 : (zm_cd 29)[8]? = some ((16, .dup, 1, 0, 0, 0, 0, 0, []) : zm_E) := (congrArg (fun l => l[8]?) cd_29).trans rfl
theorem c_29_9 : (zm_cd 29)[9]? = some ((17, .ldc_w 318, 3, 0, 0, 1, 0, 0, []) : zm_E) := (congrArg (fun l => l[9]?) cd_29).trans rfl
theorem c_29_10 : (zm_cd 29)[10]? = some ((20, .invokespecial 89, 3, 1002, 1, 0, 0, 0, []) : zm_E) := (congrArg (fun l => l[10]?) cd_29).trans rfl
theorem c_29_11 : (zm_cd 29)[11]? = some ((23, .athrow, 1, 0, 0, 0, 0, 0, []) : zm_E) := (congrArg (fun l => l[11]?) cd_29).trans rfl
theorem c_29_12 : (zm_cd 29)[12]? = some ((24, .aload_n 0, 1, 0, 0, 0, 0, 0, []) : zm_E) := (congrArg (fun l => l[12]?) cd_29).trans rfl
theorem c_29_13 : (zm_cd 29)[13]? = some ((25, .getfield 19, 3, 7, 1, 1, 0, 0, []) : zm_E) := (congrArg (fun l => l[13]?) cd_29).trans rfl
theorem c_29_14 : (zm_cd 29)[14]? = some ((28, .aload_n 2, 1, 2, 0, 0, 0, 0, []) : zm_E) := (congrArg (fun l => l[14]?) cd_29).trans rfl
theorem c_29_15 : (zm_cd 29)[15]? = some ((29, .getfield 315, 3, 9, 0, 1, 0, 0, []) : zm_E) := (congrArg (fun l => l[15]?) cd_29).trans rfl
theorem c_29_16 : (zm_cd 29)[16]? = some ((32, .invokevirtual 104, 3, 115, 1, 0, 0, 0, [1]) : zm_E) := (congrArg (fun l => l[16]?) cd_29).trans rfl
theorem c_29_17 : (zm_cd 29)[17]? = some ((35, .aload_n 0, 1, 0, 0, 0, 0, 0, []) : zm_E) := (congrArg (fun l => l[17]?) cd_29).trans rfl
theorem c_29_18 : (zm_cd 29)[18]? = some ((36, .getfield 26, 3, 7, 2, 1, 0, 0, []) : zm_E) := (congrArg (fun l => l[18]?) cd_29).trans rfl
theorem c_29_19 : (zm_cd 29)[19]? = some ((39, .invokevirtual 108, 3, 111, 0, 0, 0, 0, [0]) : zm_E) := (congrArg (fun l => l[19]?) cd_29).trans rfl
theorem c_29_20 : (zm_cd 29)[20]? = some ((42, .aload_n 0, 1, 0, 0, 0, 0, 0, []) : zm_E) := (congrArg (fun l => l[20]?) cd_29).trans rfl
theorem c_29_21 : (zm_cd 29)[21]? = some ((43, .getfield 19, 3, 7, 1, 1, 0, 0, []) : zm_E) := (congrArg (fun l => l[21]?) cd_29).trans rfl
theorem c_29_22 : (zm_cd 29)[22]? = some ((46, .getfield 118, 3, 1, 0, 0, 0, 0, []) : zm_E) := (congrArg (fun l => l[22]?) cd_29).trans rfl
theorem c_29_23 : (zm_cd 29)[23]? = some ((49, .ireturn, 1, 0, 0, 0, 0, 0, []) : zm_E) := (congrArg (fun l => l[23]?) cd_29).trans rfl
theorem cd_30 : zm_cd 30 = zd_30 := rfl
theorem ml_30 : zm_ml 30 = 1 := rfl
theorem ht_30 : zm_ht 30 = [] := rfl
theorem c_30_0 : (zm_cd 30)[0]? = some ((0, .aload_n 0, 1, 0, 0, 0, 0, 0, []) : zm_E) := (congrArg (fun l => l[0]?) cd_30).trans rfl
theorem c_30_1 : (zm_cd 30)[1]? = some ((1, .getfield 46, 3, 7, 6, 1, 0, 0, []) : zm_E) := (congrArg (fun l => l[1]?) cd_30).trans rfl
theorem c_30_2 : (zm_cd 30)[2]? = some ((4, .aload_n 0, 1, 0, 0, 0, 0, 0, []) : zm_E) := (congrArg (fun l => l[2]?) cd_30).trans rfl
theorem c_30_3 : (zm_cd 30)[3]? = some ((5, .getfield 19, 3, 7, 1, 1, 0, 0, []) : zm_E) := (congrArg (fun l => l[3]?) cd_30).trans rfl
theorem c_30_4 : (zm_cd 30)[4]? = some ((8, .aload_n 0, 1, 0, 0, 0, 0, 0, []) : zm_E) := (congrArg (fun l => l[4]?) cd_30).trans rfl
theorem c_30_5 : (zm_cd 30)[5]? = some ((9, .getfield 19, 3, 7, 1, 1, 0, 0, []) : zm_E) := (congrArg (fun l => l[5]?) cd_30).trans rfl
theorem c_30_6 : (zm_cd 30)[6]? = some ((12, .invokevirtual 236, 3, 118, 0, 1, 0, 0, [1]) : zm_E) := (congrArg (fun l => l[6]?) cd_30).trans rfl
theorem c_30_7 : (zm_cd 30)[7]? = some ((15, .invokevirtual 274, 3, 175, 2, 0, 0, 0, [6]) : zm_E) := (congrArg (fun l => l[7]?) cd_30).trans rfl
theorem c_30_8 : (zm_cd 30)[8]? = some ((18, .aload_n 0, 1, 0, 0, 0, 0, 0, []) : zm_E) := (congrArg (fun l => l[8]?) cd_30).trans rfl
theorem c_30_9 : (zm_cd 30)[9]? = some ((19, .getfield 46, 3, 7, 6, 1, 0, 0, []) : zm_E) := (congrArg (fun l => l[9]?) cd_30).trans rfl
theorem c_30_10 : (zm_cd 30)[10]? = some ((22, .areturn, 1, 0, 0, 0, 0, 0, []) : zm_E) := (congrArg (fun l => l[10]?) cd_30).trans rfl
theorem cd_31 : zm_cd 31 = zd_31 := rfl
theorem ml_31 : zm_ml 31 = 2 := rfl
theorem ht_31 : zm_ht 31 = [] := rfl
theorem c_31_0 : (zm_cd 31)[0]? = some ((0, .aload_n 0, 1, 0, 0, 0, 0, 0, []) : zm_E) := (congrArg (fun l => l[0]?) cd_31).trans rfl
theorem c_31_1 : (zm_cd 31)[1]? = some ((1, .getfield 19, 3, 7, 1, 1, 0, 0, []) : zm_E) := (congrArg (fun l => l[1]?) cd_31).trans rfl
theorem c_31_2 : (zm_cd 31)[2]? = some ((4, .iload_n 1, 1, 1, 0, 0, 0, 0, []) : zm_E) := (congrArg (fun l => l[2]?) cd_31).trans rfl
theorem c_31_3 : (zm_cd 31)[3]? = some ((5, .invokevirtual 320, 3, 116, 1, 1, 0, 0, [1]) : zm_E) := (congrArg (fun l => l[3]?) cd_31).trans rfl
theorem c_31_4 : (zm_cd 31)[4]? = some ((8, .ifCond .ne 14, 3, 10, 0, 0, 0, 0, []) : zm_E) := (congrArg (fun l => l[4]?) cd_31).trans rfl
theorem c_31_5 : (zm_cd 31)[5]? = some ((11, .new 323, 3, 2, 0, 1, 0, 0, [325, 327, 1, 4]) : zm_E) := (congrArg (fun l => l[5]?) cd_31).trans rfl
theorem c_31_6 : (zm_cd 31)[6]? = some ((14, .dup, 1, 0, 0, 0, 0, 0, []) : zm_E) := (congrArg (fun l => l[6]?) cd_31).trans rfl
theorem c_31_7 : (zm_cd 31)[7]? = some ((15, .ldc_w 325, 3, 0, 0, 1, 0, 0, []) : zm_E) := (congrArg (fun l => l[7]?) cd_31).trans rfl
theorem c_31_8 : (zm_cd 31)[8]? = some ((18, .invokespecial 327, 3, 1002, 1, 0, 0, 0, []) : zm_E) := (congrArg (fun l => l[8]?) cd_31).trans rfl
theorem c_31_9 : (zm_cd 31)[9]? = some ((21, .athrow, 1, 0, 0, 0, 0, 0, []) : zm_E) := (congrArg (fun l => l[9]?) cd_31).trans rfl
theorem c_31_10 : (zm_cd 31)[10]? = some ((22, .return_, 1, 0, 0, 0, 0, 0, []) : zm_E) := (congrArg (fun l => l[10]?) cd_31).trans rfl
theorem cd_32 : zm_cd 32 = zd_32 := rfl
theorem ml_32 : zm_ml 32 = 2 := rfl
theorem ht_32 : zm_ht 32 = [] := rfl
theorem c_32_0 : (zm_cd 32)[0]? = some ((0, .aload_n 0, 1, 0, 0, 0, 0, 0, []) : zm_E) := (congrArg (fun l => l[0]?) cd_32).trans rfl
theorem c_32_1 : (zm_cd 32)[1]? = some ((1, .getfield 19, 3, 7, 1, 1, 0, 0, []) : zm_E) := (congrArg (fun l => l[1]?) cd_32).trans rfl
theorem c_32_2 : (zm_cd 32)[2]? = some ((4, .iload_n 1, 1, 1, 0, 0, 0, 0, []) : zm_E) := (congrArg (fun l => l[2]?) cd_32).trans rfl
theorem c_32_3 : (zm_cd 32)[3]? = some ((5, .invokevirtual 320, 3, 116, 1, 1, 0, 0, [1]) : zm_E) := (congrArg (fun l => l[3]?) cd_32).trans rfl
theorem c_32_4 : (zm_cd 32)[4]? = some ((8, .ifCond .ne 14, 3, 10, 0, 0, 0, 0, []) : zm_E) := (congrArg (fun l => l[4]?) cd_32).trans rfl
theorem c_32_5 : (zm_cd 32)[5]? = some ((11, .new 323, 3, 2, 0, 1, 0, 0, [328, 327, 1, 6]) : zm_E) := (congrArg (fun l => l[5]?) cd_32).trans rfl
theorem c_32_6 : (zm_cd 32)[6]? = some ((14, .dup, 1, 0, 0, 0, 0, 0, []) : zm_E) := (congrArg (fun l => l[6]?) cd_32).trans rfl
theorem c_32_7 : (zm_cd 32)[7]? = some ((15, .ldc_w 328, 3, 0, 0, 1, 0, 0, []) : zm_E) := (congrArg (fun l => l[7]?) cd_32).trans rfl
theorem c_32_8 : (zm_cd 32)[8]? = some ((18, .invokespecial 327, 3, 1002, 1, 0, 0, 0, []) : zm_E) := (congrArg (fun l => l[8]?) cd_32).trans rfl
theorem c_32_9 : (zm_cd 32)[9]? = some ((21, .athrow, 1, 0, 0, 0, 0, 0, []) : zm_E) := (congrArg (fun l => l[9]?) cd_32).trans rfl
theorem c_32_10 : (zm_cd 32)[10]? = some ((22, .return_, 1, 0, 0, 0, 0, 0, []) : zm_E) := (congrArg (fun l => l[10]?) cd_32).trans rfl
theorem cd_33 : zm_cd 33 = zd_33 := rfl
theorem ml_33 : zm_ml 33 = 2 := rfl
theorem ht_33 : zm_ht 33 = [] := rfl
theorem c_33_0 : (zm_cd 33)[0]? = some ((0, .iload_n 1, 1, 1, 0, 0, 0, 0, []) : zm_E) := (congrArg (fun l => l[0]?) cd_33).trans rfl
theorem c_33_1 : (zm_cd 33)[1]? = some ((1, .ifCond .eq 19, 3, 10, 0, 0, 0, 0, []) : zm_E) := (congrArg (fun l => l[1]?) cd_33).trans rfl
theorem c_33_2 : (zm_cd 33)[2]? = some ((4, .iload_n 1, 1, 1, 0, 0, 0, 0, []) : zm_E) := (congrArg (fun l => l[2]?) cd_33).trans rfl
theorem c_33_3 : (zm_cd 33)[3]? = some ((5, .iconst 1, 1, 0, 0, 0, 1, 0, []) : zm_E) := (congrArg (fun l => l[3]?) cd_33).trans rfl
theorem c_33_4 : (zm_cd 33)[4]? = some ((6, .if_icmp .eq 14, 3, 10, 0, 0, 0, 0, []) : zm_E) := (congrArg (fun l => l[4]?) cd_33).trans rfl
theorem c_33_5 : (zm_cd 33)[5]? = some ((9, .new 323, 3, 2, 0, 1, 0, 0, [330, 327, 1, 17]) : zm_E) := (congrArg (fun l => l[5]?) cd_33).trans rfl
theorem c_33_6 : (zm_cd 33)[6]? = some ((12, .dup, 1, 0, 0, 0, 0, 0, []) : zm_E) := (congrArg (fun l => l[6]?) cd_33).trans rfl
theorem c_33_7 : (zm_cd 33)[7]? = some ((13, .ldc_w 330, 3, 0, 0, 1, 0, 0, []) : zm_E) := (congrArg (fun l => l[7]?) cd_33).trans rfl
theorem c_33_8 : (zm_cd 33)[8]? = some ((16, .invokespecial 327, 3, 1002, 1, 0, 0, 0, []) : zm_E) := (congrArg (fun l => l[8]?) cd_33).trans rfl
theorem c_33_9 : (zm_cd 33)[9]? = some ((19, .athrow, 1, 0, 0, 0, 0, 0, []) : zm_E) := (congrArg (fun l => l[9]?) cd_33).trans rfl
theorem c_33_10 : (zm_cd 33)[10]? = some ((20, .iload_n 1, 1, 1, 0, 0, 0, 0, []) : zm_E) := (congrArg (fun l => l[10]?) cd_33).trans rfl
theorem c_33_11 : (zm_cd 33)[11]? = some ((21, .ifCond .ne 10, 3, 15, 0, 0, 0, 0, []) : zm_E) := (congrArg (fun l => l[11]?) cd_33).trans rfl
theorem c_33_12 : (zm_cd 33)[12]? = some ((24, .aload_n 0, 1, 0, 0, 0, 0, 0, []) : zm_E) := (congrArg (fun l => l[12]?) cd_33).trans rfl
theorem c_33_13 : (zm_cd 33)[13]? = some ((25, .getfield 33, 3, 7, 3, 1, 0, 0, []) : zm_E) := (congrArg (fun l => l[13]?) cd_33).trans rfl
theorem c_33_14 : (zm_cd 33)[14]? = some ((28, .goto 7, 3, 17, 0, 0, 0, 0, []) : zm_E) := (congrArg (fun l => l[14]?) cd_33).trans rfl
theorem c_33_15 : (zm_cd 33)[15]? = some ((31, .aload_n 0, 1, 0, 0, 0, 0, 0, []) : zm_E) := (congrArg (fun l => l[15]?) cd_33).trans rfl
theorem c_33_16 : (zm_cd 33)[16]? = some ((32, .getfield 37, 3, 7, 4, 1, 0, 0, []) : zm_E) := (congrArg (fun l => l[16]?) cd_33).trans rfl
theorem c_33_17 : (zm_cd 33)[17]? = some ((35, .areturn, 1, 0, 0, 0, 0, 0, []) : zm_E) := (congrArg (fun l => l[17]?) cd_33).trans rfl
theorem cd_34 : zm_cd 34 = zd_34 := rfl
theorem ml_34 : zm_ml 34 = 2 := rfl
theorem ht_34 : zm_ht 34 = [] := rfl
theorem c_34_0 : (zm_cd 34)[0]? = some ((0, .aload_n 0, 1, 0, 0, 0, 0, 0, []) : zm_E) := (congrArg (fun l => l[0]?) cd_34).trans rfl
theorem c_34_1 : (zm_cd 34)[1]? = some ((1, .iload_n 1, 1, 1, 0, 0, 0, 0, []) : zm_E) := (congrArg (fun l => l[1]?) cd_34).trans rfl
theorem c_34_2 : (zm_cd 34)[2]? = some ((2, .invokevirtual 332, 3, 176, 1, 1, 0, 0, [6]) : zm_E) := (congrArg (fun l => l[2]?) cd_34).trans rfl
theorem c_34_3 : (zm_cd 34)[3]? = some ((5, .ifCond .ne 14, 3, 9, 0, 0, 0, 0, []) : zm_E) := (congrArg (fun l => l[3]?) cd_34).trans rfl
theorem c_34_4 : (zm_cd 34)[4]? = some ((8, .new 323, 3, 2, 0, 1, 0, 0, [335, 327, 1, 7]) : zm_E) := (congrArg (fun l => l[4]?) cd_34).trans rfl
theorem c_34_5 : (zm_cd 34)[5]? = some ((11, .dup, 1, 0, 0, 0, 0, 0, []) : zm_E) := (congrArg (fun l => l[5]?) cd_34).trans rfl
theorem c_34_6 : (zm_cd 34)[6]? = some ((12, .ldc_w 335, 3, 0, 0, 1, 0, 0, []) : zm_E) := (congrArg (fun l => l[6]?) cd_34).trans rfl
theorem c_34_7 : (zm_cd 34)[7]? = some ((15, .invokespecial 327, 3, 1002, 1, 0, 0, 0, []) : zm_E) := (congrArg (fun l => l[7]?) cd_34).trans rfl
theorem c_34_8 : (zm_cd 34)[8]? = some ((18, .athrow, 1, 0, 0, 0, 0, 0, []) : zm_E) := (congrArg (fun l => l[8]?) cd_34).trans rfl
theorem c_34_9 : (zm_cd 34)[9]? = some ((19, .return_, 1, 0, 0, 0, 0, 0, []) : zm_E) := (congrArg (fun l => l[9]?) cd_34).trans rfl
theorem cd_35 : zm_cd 35 = zd_35 := rfl
theorem ml_35 : zm_ml 35 = 5 := rfl
theorem ht_35 : zm_ht 35 = [] := rfl
theorem c_35_0 : (zm_cd 35)[0]? = some ((0, .aload_n 0, 1, 0, 0, 0, 0, 0, []) : zm_E) := (congrArg (fun l => l[0]?) cd_35).trans rfl
theorem c_35_1 : (zm_cd 35)[1]? = some ((1, .getfield 118, 3, 1, 0, 0, 0, 0, []) : zm_E) := (congrArg (fun l => l[1]?) cd_35).trans rfl
theorem c_35_2 : (zm_cd 35)[2]? = some ((4, .ifCond .gt 5, 3, 5, 0, 0, 0, 0, []) : zm_E) := (congrArg (fun l => l[2]?) cd_35).trans rfl
theorem c_35_3 : (zm_cd 35)[3]? = some ((7, .iconst 0, 1, 0, 0, 0, 0, 0, []) : zm_E) := (congrArg (fun l => l[3]?) cd_35).trans rfl
theorem c_35_4 : (zm_cd 35)[4]? = some ((8, .ireturn, 1, 1, 0, 0, 0, 0, []) : zm_E) := (congrArg (fun l => l[4]?) cd_35).trans rfl
theorem c_35_5 : (zm_cd 35)[5]? = some ((9, .iload_n 1, 1, 1, 0, 0, 0, 0, []) : zm_E) := (congrArg (fun l => l[5]?) cd_35).trans rfl
theorem c_35_6 : (zm_cd 35)[6]? = some ((10, .bipush 16, 2, 0, 0, 0, 16, 0, []) : zm_E) := (congrArg (fun l => l[6]?) cd_35).trans rfl
theorem c_35_7 : (zm_cd 35)[7]? = some ((12, .idiv, 1, 0, 0, 0, 0, 0, []) : zm_E) := (congrArg (fun l => l[7]?) cd_35).trans rfl
theorem c_35_8 : (zm_cd 35)[8]? = some ((13, .aload_n 0, 1, 0, 0, 0, 0, 0, []) : zm_E) := (congrArg (fun l => l[8]?) cd_35).trans rfl
theorem c_35_9 : (zm_cd 35)[9]? = some ((14, .getfield 118, 3, 1, 0, 0, 0, 0, []) : zm_E) := (congrArg (fun l => l[9]?) cd_35).trans rfl
theorem c_35_10 : (zm_cd 35)[10]? = some ((17, .irem, 1, 0, 0, 0, 0, 0, []) : zm_E) := (congrArg (fun l => l[10]?) cd_35).trans rfl
theorem c_35_11 : (zm_cd 35)[11]? = some ((18, .istore_n 2, 1, 2, 0, 0, 0, 0, []) : zm_E) := (congrArg (fun l => l[11]?) cd_35).trans rfl
theorem c_35_12 : (zm_cd 35)[12]? = some ((19, .iload_n 1, 1, 1, 0, 0, 0, 0, []) : zm_E) := (congrArg (fun l => l[12]?) cd_35).trans rfl
theorem c_35_13 : (zm_cd 35)[13]? = some ((20, .sipush 256, 3, 0, 0, 0, 256, 0, []) : zm_E) := (congrArg (fun l => l[13]?) cd_35).trans rfl
theorem c_35_14 : (zm_cd 35)[14]? = some ((23, .idiv, 1, 0, 0, 0, 0, 0, []) : zm_E) := (congrArg (fun l => l[14]?) cd_35).trans rfl
theorem c_35_15 : (zm_cd 35)[15]? = some ((24, .aload_n 0, 1, 0, 0, 0, 0, 0, []) : zm_E) := (congrArg (fun l => l[15]?) cd_35).trans rfl
theorem c_35_16 : (zm_cd 35)[16]? = some ((25, .getfield 118, 3, 1, 0, 0, 0, 0, []) : zm_E) := (congrArg (fun l => l[16]?) cd_35).trans rfl
theorem c_35_17 : (zm_cd 35)[17]? = some ((28, .irem, 1, 0, 0, 0, 0, 0, []) : zm_E) := (congrArg (fun l => l[17]?) cd_35).trans rfl
theorem c_35_18 : (zm_cd 35)[18]? = some ((29, .istore_n 3, 1, 3, 0, 0, 0, 0, []) : zm_E) := (congrArg (fun l => l[18]?) cd_35).trans rfl
theorem c_35_19 : (zm_cd 35)[19]? = some ((30, .aload_n 0, 1, 0, 0, 0, 0, 0, []) : zm_E) := (congrArg (fun l => l[19]?) cd_35).trans rfl
theorem c_35_20 : (zm_cd 35)[20]? = some ((31, .iload_n 2, 1, 2, 0, 0, 0, 0, []) : zm_E) := (congrArg (fun l => l[20]?) cd_35).trans rfl
theorem c_35_21 : (zm_cd 35)[21]? = some ((32, .iload_n 3, 1, 3, 0, 0, 0, 0, []) : zm_E) := (congrArg (fun l => l[21]?) cd_35).trans rfl
theorem c_35_22 : (zm_cd 35)[22]? = some ((33, .invokevirtual 209, 3, 130, 2, 1, 0, 0, [1]) : zm_E) := (congrArg (fun l => l[22]?) cd_35).trans rfl
theorem c_35_23 : (zm_cd 35)[23]? = some ((36, .ifCond .ne 7, 3, 26, 0, 0, 0, 0, []) : zm_E) := (congrArg (fun l => l[23]?) cd_35).trans rfl
theorem c_35_24 : (zm_cd 35)[24]? = some ((39, .iconst 1, 1, 0, 0, 0, 1, 0, []) : zm_E) := (congrArg (fun l => l[24]?) cd_35).trans rfl
theorem c_35_25 : (zm_cd 35)[25]? = some ((40, .goto 4, 3, 27, 0, 0, 0, 0, []) : zm_E) := (congrArg (fun l => l[25]?) cd_35).trans rfl
theorem c_35_26 : (zm_cd 35)[26]? = some ((43, .iconst 0, 1, 0, 0, 0, 0, 0, []) : zm_E) := (congrArg (fun l => l[26]?) cd_35).trans rfl
theorem c_35_27 : (zm_cd 35)[27]? = some ((44, .istore 4, 2, 4, 0, 0, 0, 0, []) : zm_E) := (congrArg (fun l => l[27]?) cd_35).trans rfl
theorem c_35_28 : (zm_cd 35)[28]? = some ((46, .iload 4, 2, 4, 0, 0, 0, 0, []) : zm_E) := (congrArg (fun l => l[28]?) cd_35).trans rfl
theorem c_35_29 : (zm_cd 35)[29]? = some ((48, .ifCond .eq 9, 3, 34, 0, 0, 0, 0, []) : zm_E) := (congrArg (fun l => l[29]?) cd_35).trans rfl
theorem c_35_30 : (zm_cd 35)[30]? = some ((51, .aload_n 0, 1, 0, 0, 0, 0, 0, []) : zm_E) := (congrArg (fun l => l[30]?) cd_35).trans rfl
theorem c_35_31 : (zm_cd 35)[31]? = some ((52, .iload_n 2, 1, 2, 0, 0, 0, 0, []) : zm_E) := (congrArg (fun l => l[31]?) cd_35).trans rfl
theorem c_35_32 : (zm_cd 35)[32]? = some ((53, .iload_n 3, 1, 3, 0, 0, 0, 0, []) : zm_E) := (congrArg (fun l => l[32]?) cd_35).trans rfl
theorem c_35_33 : (zm_cd 35)[33]? = some ((54, .invokevirtual 228, 3, 131, 2, 0, 0, 0, [1]) : zm_E) := (congrArg (fun l => l[33]?) cd_35).trans rfl
theorem c_35_34 : (zm_cd 35)[34]? = some ((57, .iload_n 1, 1, 1, 0, 0, 0, 0, []) : zm_E) := (congrArg (fun l => l[34]?) cd_35).trans rfl
theorem c_35_35 : (zm_cd 35)[35]? = some ((58, .bipush 16, 2, 0, 0, 0, 16, 0, []) : zm_E) := (congrArg (fun l => l[35]?) cd_35).trans rfl
theorem c_35_36 : (zm_cd 35)[36]? = some ((60, .irem, 1, 0, 0, 0, 0, 0, []) : zm_E) := (congrArg (fun l => l[36]?) cd_35).trans rfl
theorem c_35_37 : (zm_cd 35)[37]? = some ((61, .ifCond .ne 8, 3, 41, 0, 0, 0, 0, []) : zm_E) := (congrArg (fun l => l[37]?) cd_35).trans rfl
theorem c_35_38 : (zm_cd 35)[38]? = some ((64, .aload_n 0, 1, 0, 0, 0, 0, 0, []) : zm_E) := (congrArg (fun l => l[38]?) cd_35).trans rfl
theorem c_35_39 : (zm_cd 35)[39]? = some ((65, .iload_n 2, 1, 2, 0, 0, 0, 0, []) : zm_E) := (congrArg (fun l => l[39]?) cd_35).trans rfl
theorem c_35_40 : (zm_cd 35)[40]? = some ((66, .invokevirtual 241, 3, 133, 1, 0, 0, 0, [1]) : zm_E) := (congrArg (fun l => l[40]?) cd_35).trans rfl
theorem c_35_41 : (zm_cd 35)[41]? = some ((69, .iload 4, 2, 4, 0, 0, 0, 0, []) : zm_E) := (congrArg (fun l => l[41]?) cd_35).trans rfl
theorem c_35_42 : (zm_cd 35)[42]? = some ((71, .ireturn, 1, 1, 0, 0, 0, 0, []) : zm_E) := (congrArg (fun l => l[42]?) cd_35).trans rfl
theorem cd_36 : zm_cd 36 = zd_36 := rfl
theorem ml_36 : zm_ml 36 = 1 := rfl
theorem ht_36 : zm_ht 36 = [] := rfl
theorem c_36_0 : (zm_cd 36)[0]? = some ((0, .iconst 1, 1, 0, 0, 0, 1, 0, []) : zm_E) := (congrArg (fun l => l[0]?) cd_36).trans rfl
theorem c_36_1 : (zm_cd 36)[1]? = some ((1, .iload_n 0, 1, 0, 0, 0, 0, 0, []) : zm_E) := (congrArg (fun l => l[1]?) cd_36).trans rfl
theorem c_36_2 : (zm_cd 36)[2]? = some ((2, .ishl, 1, 0, 0, 0, 0, 0, []) : zm_E) := (congrArg (fun l => l[2]?) cd_36).trans rfl
theorem c_36_3 : (zm_cd 36)[3]? = some ((3, .ireturn, 1, 0, 0, 0, 0, 0, []) : zm_E) := (congrArg (fun l => l[3]?) cd_36).trans rfl
theorem cd_37 : zm_cd 37 = zd_37 := rfl
theorem ml_37 : zm_ml 37 = 2 := rfl
theorem ht_37 : zm_ht 37 = [] := rfl
theorem c_37_0 : (zm_cd 37)[0]? = some ((0, .iload_n 0, 1, 0, 0, 0, 0, 0, []) : zm_E) := (congrArg (fun l => l[0]?) cd_37).trans rfl
theorem c_37_1 : (zm_cd 37)[1]? = some ((1, .iload_n 1, 1, 1, 0, 0, 0, 0, []) : zm_E) := (congrArg (fun l => l[1]?) cd_37).trans rfl
theorem c_37_2 : (zm_cd 37)[2]? = some ((2, .ishr, 1, 0, 0, 0, 0, 0, []) : zm_E) := (congrArg (fun l => l[2]?) cd_37).trans rfl
theorem c_37_3 : (zm_cd 37)[3]? = some ((3, .iconst 1, 1, 0, 0, 0, 1, 0, []) : zm_E) := (congrArg (fun l => l[3]?) cd_37).trans rfl
theorem c_37_4 : (zm_cd 37)[4]? = some ((4, .iand, 1, 0, 0, 0, 0, 0, []) : zm_E) := (congrArg (fun l => l[4]?) cd_37).trans rfl
theorem c_37_5 : (zm_cd 37)[5]? = some ((5, .ifCond .eq 7, 3, 8, 0, 0, 0, 0, []) : zm_E) := (congrArg (fun l => l[5]?) cd_37).trans rfl
theorem c_37_6 : (zm_cd 37)[6]? = some ((8, .iconst 1, 1, 0, 0, 0, 1, 0, []) : zm_E) := (congrArg (fun l => l[6]?) cd_37).trans rfl
theorem c_37_7 : (zm_cd 37)[7]? = some ((9, .goto 4, 3, 9, 0, 0, 0, 0, []) : zm_E) := (congrArg (fun l => l[7]?) cd_37).trans rfl
theorem c_37_8 : (zm_cd 37)[8]? = some ((12, .iconst 0, 1, 0, 0, 0, 0, 0, []) : zm_E) := (congrArg (fun l => l[8]?) cd_37).trans rfl
theorem c_37_9 : (zm_cd 37)[9]? = some ((13, .ireturn, 1, 1, 0, 0, 0, 0, []) : zm_E) := (congrArg (fun l => l[9]?) cd_37).trans rfl
theorem cd_39 : zm_cd 39 = zd_39 := rfl
theorem ml_39 : zm_ml 39 = 1 := rfl
theorem ht_39 : zm_ht 39 = [] := rfl
theorem c_39_0 : (zm_cd 39)[0]? = some ((0, .aload_n 0, 1, 0, 0, 0, 0, 0, []) : zm_E) := (congrArg (fun l => l[0]?) cd_39).trans rfl
theorem c_39_1 : (zm_cd 39)[1]? = some ((1, .getfield 71, 3, 8, 8, 0, 0, 0, []) : zm_E) := (congrArg (fun l => l[1]?) cd_39).trans rfl
theorem c_39_2 : (zm_cd 39)[2]? = some ((4, .ireturn, 1, 0, 0, 0, 0, 0, []) : zm_E) := (congrArg (fun l => l[2]?) cd_39).trans rfl
theorem cd_40 : zm_cd 40 = zd_40 := rfl
theorem ml_40 : zm_ml 40 = 6 := rfl
theorem ht_40 : zm_ht 40 = [] := rfl
theorem c_40_0 : (zm_cd 40)[0]? = some ((0, .lload_n 0, 1, 0, 0, 0, 0, 0, []) : zm_E) := (congrArg (fun l => l[0]?) cd_40).trans rfl
theorem c_40_1 : (zm_cd 40)[1]? = some ((1, .lload_n 2, 1, 2, 0, 0, 0, 0, []) : zm_E) := (congrArg (fun l => l[1]?) cd_40).trans rfl
theorem c_40_2 : (zm_cd 40)[2]? = some ((2, .lcmp, 1, 0, 0, 0, 0, 0, []) : zm_E) := (congrArg (fun l => l[2]?) cd_40).trans rfl
theorem c_40_3 : (zm_cd 40)[3]? = some ((3, .ifCond .lt 14, 3, 10, 0, 0, 0, 0, []) : zm_E) := (congrArg (fun l => l[3]?) cd_40).trans rfl
theorem c_40_4 : (zm_cd 40)[4]? = some ((6, .lload_n 0, 1, 0, 0, 0, 0, 0, []) : zm_E) := (congrArg (fun l => l[4]?) cd_40).trans rfl
theorem c_40_5 : (zm_cd 40)[5]? = some ((7, .lload 4, 2, 4, 0, 0, 0, 0, []) : zm_E) := (congrArg (fun l => l[5]?) cd_40).trans rfl
theorem c_40_6 : (zm_cd 40)[6]? = some ((9, .lcmp, 1, 0, 0, 0, 0, 0, []) : zm_E) := (congrArg (fun l => l[6]?) cd_40).trans rfl
theorem c_40_7 : (zm_cd 40)[7]? = some ((10, .ifCond .gt 7, 3, 10, 0, 0, 0, 0, []) : zm_E) := (congrArg (fun l => l[7]?) cd_40).trans rfl
theorem c_40_8 : (zm_cd 40)[8]? = some ((13, .iconst 1, 1, 0, 0, 0, 1, 0, []) : zm_E) := (congrArg (fun l => l[8]?) cd_40).trans rfl
theorem c_40_9 : (zm_cd 40)[9]? = some ((14, .goto 4, 3, 11, 0, 0, 0, 0, []) : zm_E) := (congrArg (fun l => l[9]?) cd_40).trans rfl
theorem c_40_10 : (zm_cd 40)[10]? = some ((17, .iconst 0, 1, 0, 0, 0, 0, 0, []) : zm_E) := (congrArg (fun l => l[10]?) cd_40).trans rfl
theorem c_40_11 : (zm_cd 40)[11]? = some ((18, .ireturn, 1, 1, 0, 0, 0, 0, []) : zm_E) := (congrArg (fun l => l[11]?) cd_40).trans rfl
theorem cd_41 : zm_cd 41 = zd_41 := rfl
theorem ml_41 : zm_ml 41 = 2 := rfl
theorem ht_41 : zm_ht 41 = [] := rfl
theorem c_41_0 : (zm_cd 41)[0]? = some ((0, .iload_n 0, 1, 0, 0, 0, 0, 0, []) : zm_E) := (congrArg (fun l => l[0]?) cd_41).trans rfl
theorem c_41_1 : (zm_cd 41)[1]? = some ((1, .iload_n 1, 1, 1, 0, 0, 0, 0, []) : zm_E) := (congrArg (fun l => l[1]?) cd_41).trans rfl
theorem c_41_2 : (zm_cd 41)[2]? = some ((2, .ishr, 1, 0, 0, 0, 0, 0, []) : zm_E) := (congrArg (fun l => l[2]?) cd_41).trans rfl
theorem c_41_3 : (zm_cd 41)[3]? = some ((3, .iconst 1, 1, 0, 0, 0, 1, 0, []) : zm_E) := (congrArg (fun l => l[3]?) cd_41).trans rfl
theorem c_41_4 : (zm_cd 41)[4]? = some ((4, .iand, 1, 0, 0, 0, 0, 0, []) : zm_E) := (congrArg (fun l => l[4]?) cd_41).trans rfl
theorem c_41_5 : (zm_cd 41)[5]? = some ((5, .iconst 1, 1, 0, 0, 0, 1, 0, []) : zm_E) := (congrArg (fun l => l[5]?) cd_41).trans rfl
theorem c_41_6 : (zm_cd 41)[6]? = some ((6, .if_icmp .ne 7, 3, 9, 0, 0, 0, 0, []) : zm_E) := (congrArg (fun l => l[6]?) cd_41).trans rfl
theorem c_41_7 : (zm_cd 41)[7]? = some ((9, .iconst 1, 1, 0, 0, 0, 1, 0, []) : zm_E) := (congrArg (fun l => l[7]?) cd_41).trans rfl
theorem c_41_8 : (zm_cd 41)[8]? = some ((10, .goto 4, 3, 10, 0, 0, 0, 0, []) : zm_E) := (congrArg (fun l => l[8]?) cd_41).trans rfl
theorem c_41_9 : (zm_cd 41)[9]? = some ((13, .iconst 0, 1, 0, 0, 0, 0, 0, []) : zm_E) := (congrArg (fun l => l[9]?) cd_41).trans rfl
theorem c_41_10 : (zm_cd 41)[10]? = some ((14, .ireturn, 1, 1, 0, 0, 0, 0, []) : zm_E) := (congrArg (fun l => l[10]?) cd_41).trans rfl
theorem cd_42 : zm_cd 42 = zd_42 := rfl
theorem ml_42 : zm_ml 42 = 3 := rfl
theorem ht_42 : zm_ht 42 = [] := rfl
theorem c_42_0 : (zm_cd 42)[0]? = some ((0, .iconst 0, 1, 0, 0, 0, 0, 0, []) : zm_E) := (congrArg (fun l => l[0]?) cd_42).trans rfl
theorem c_42_1 : (zm_cd 42)[1]? = some ((1, .istore_n 1, 1, 1, 0, 0, 0, 0, []) : zm_E) := (congrArg (fun l => l[1]?) cd_42).trans rfl
theorem c_42_2 : (zm_cd 42)[2]? = some ((2, .iload_n 0, 1, 0, 0, 0, 0, 0, []) : zm_E) := (congrArg (fun l => l[2]?) cd_42).trans rfl
theorem c_42_3 : (zm_cd 42)[3]? = some ((3, .istore_n 2, 1, 2, 0, 0, 0, 0, []) : zm_E) := (congrArg (fun l => l[3]?) cd_42).trans rfl
theorem c_42_4 : (zm_cd 42)[4]? = some ((4, .iload_n 2, 1, 2, 0, 0, 0, 0, []) : zm_E) := (congrArg (fun l => l[4]?) cd_42).trans rfl
theorem c_42_5 : (zm_cd 42)[5]? = some ((5, .ifCond .eq 15, 3, 14, 0, 0, 0, 0, []) : zm_E) := (congrArg (fun l => l[5]?) cd_42).trans rfl
theorem c_42_6 : (zm_cd 42)[6]? = some ((8, .iinc 1 1, 3, 1, 0, 0, 1, 0, []) : zm_E) := (congrArg (fun l => l[6]?) cd_42).trans rfl
theorem c_42_7 : (zm_cd 42)[7]? = some ((11, .iload_n 2, 1, 2, 0, 0, 0, 0, []) : zm_E) := (congrArg (fun l => l[7]?) cd_42).trans rfl
theorem c_42_8 : (zm_cd 42)[8]? = some ((12, .iload_n 2, 1, 2, 0, 0, 0, 0, []) : zm_E) := (congrArg (fun l => l[8]?) cd_42).trans rfl
theorem c_42_9 : (zm_cd 42)[9]? = some ((13, .iconst 1, 1, 0, 0, 0, 1, 0, []) : zm_E) := (congrArg (fun l => l[9]?) cd_42).trans rfl
theorem c_42_10 : (zm_cd 42)[10]? = some ((14, .isub, 1, 0, 0, 0, 0, 0, []) : zm_E) := (congrArg (fun l => l[10]?) cd_42).trans rfl
theorem c_42_11 : (zm_cd 42)[11]? = some ((15, .iand, 1, 0, 0, 0, 0, 0, []) : zm_E) := (congrArg (fun l => l[11]?) cd_42).trans rfl
theorem c_42_12 : (zm_cd 42)[12]? = some ((16, .istore_n 2, 1, 2, 0, 0, 0, 0, []) : zm_E) := (congrArg (fun l => l[12]?) cd_42).trans rfl
theorem c_42_13 : (zm_cd 42)[13]? = some ((17, .goto (-13), 3, 4, 0, 0, 0, 0, []) : zm_E) := (congrArg (fun l => l[13]?) cd_42).trans rfl
theorem c_42_14 : (zm_cd 42)[14]? = some ((20, .iload_n 1, 1, 1, 0, 0, 0, 0, []) : zm_E) := (congrArg (fun l => l[14]?) cd_42).trans rfl
theorem c_42_15 : (zm_cd 42)[15]? = some ((21, .ireturn, 1, 0, 0, 0, 0, 0, []) : zm_E) := (congrArg (fun l => l[15]?) cd_42).trans rfl
theorem cd_43 : zm_cd 43 = zd_43 := rfl
theorem ml_43 : zm_ml 43 = 2 := rfl
theorem ht_43 : zm_ht 43 = [] := rfl
theorem c_43_0 : (zm_cd 43)[0]? = some ((0, .aload_n 0, 1, 0, 0, 0, 0, 0, []) : zm_E) := (congrArg (fun l => l[0]?) cd_43).trans rfl
theorem c_43_1 : (zm_cd 43)[1]? = some ((1, .iload_n 1, 1, 1, 0, 0, 0, 0, []) : zm_E) := (congrArg (fun l => l[1]?) cd_43).trans rfl
theorem c_43_2 : (zm_cd 43)[2]? = some ((2, .putfield 71, 3, 8, 8, 0, 0, 0, []) : zm_E) := (congrArg (fun l => l[2]?) cd_43).trans rfl
theorem c_43_3 : (zm_cd 43)[3]? = some ((5, .iconst 0, 1, 0, 0, 0, 0, 0, []) : zm_E) := (congrArg (fun l => l[3]?) cd_43).trans rfl
theorem c_43_4 : (zm_cd 43)[4]? = some ((6, .ireturn, 1, 0, 0, 0, 0, 0, []) : zm_E) := (congrArg (fun l => l[4]?) cd_43).trans rfl
theorem cd_44 : zm_cd 44 = zd_44 := rfl
theorem ml_44 : zm_ml 44 = 2 := rfl
theorem ht_44 : zm_ht 44 = [] := rfl
theorem c_44_0 : (zm_cd 44)[0]? = some ((0, .iconst 0, 1, 0, 0, 0, 0, 0, []) : zm_E) := (congrArg (fun l => l[0]?) cd_44).trans rfl
theorem c_44_1 : (zm_cd 44)[1]? = some ((1, .istore_n 1, 1, 1, 0, 0, 0, 0, []) : zm_E) := (congrArg (fun l => l[1]?) cd_44).trans rfl
theorem c_44_2 : (zm_cd 44)[2]? = some ((2, .iload_n 1, 1, 1, 0, 0, 0, 0, []) : zm_E) := (congrArg (fun l => l[2]?) cd_44).trans rfl
theorem c_44_3 : (zm_cd 44)[3]? = some ((3, .bipush 58, 2, 0, 0, 0, 58, 0, []) : zm_E) := (congrArg (fun l => l[3]?) cd_44).trans rfl
theorem c_44_4 : (zm_cd 44)[4]? = some ((5, .if_icmp .ge 21, 3, 15, 0, 0, 0, 0, []) : zm_E) := (congrArg (fun l => l[4]?) cd_44).trans rfl
theorem c_44_5 : (zm_cd 44)[5]? = some ((8, .aload_n 0, 1, 0, 0, 0, 0, 0, []) : zm_E) := (congrArg (fun l => l[5]?) cd_44).trans rfl
theorem c_44_6 : (zm_cd 44)[6]? = some ((9, .getfield 13, 3, 8, 1, 1, 0, 0, []) : zm_E) := (congrArg (fun l => l[6]?) cd_44).trans rfl
theorem c_44_7 : (zm_cd 44)[7]? = some ((12, .iload_n 1, 1, 1, 0, 0, 0, 0, []) : zm_E) := (congrArg (fun l => l[7]?) cd_44).trans rfl
theorem c_44_8 : (zm_cd 44)[8]? = some ((13, .aload_n 0, 1, 0, 0, 0, 0, 0, []) : zm_E) := (congrArg (fun l => l[8]?) cd_44).trans rfl
theorem c_44_9 : (zm_cd 44)[9]? = some ((14, .getfield 7, 3, 8, 0, 1, 0, 0, []) : zm_E) := (congrArg (fun l => l[9]?) cd_44).trans rfl
theorem c_44_10 : (zm_cd 44)[10]? = some ((17, .iload_n 1, 1, 1, 0, 0, 0, 0, []) : zm_E) := (congrArg (fun l => l[10]?) cd_44).trans rfl
theorem c_44_11 : (zm_cd 44)[11]? = some ((18, .iaload, 1, 0, 0, 0, 0, 0, []) : zm_E) := (congrArg (fun l => l[11]?) cd_44).trans rfl
theorem c_44_12 : (zm_cd 44)[12]? = some ((19, .iastore, 1, 0, 0, 0, 0, 0, []) : zm_E) := (congrArg (fun l => l[12]?) cd_44).trans rfl
theorem c_44_13 : (zm_cd 44)[13]? = some ((20, .iinc 1 1, 3, 1, 0, 0, 1, 0, []) : zm_E) := (congrArg (fun l => l[13]?) cd_44).trans rfl
theorem c_44_14 : (zm_cd 44)[14]? = some ((23, .goto (-21), 3, 2, 0, 0, 0, 0, []) : zm_E) := (congrArg (fun l => l[14]?) cd_44).trans rfl
theorem c_44_15 : (zm_cd 44)[15]? = some ((26, .return_, 1, 0, 0, 0, 0, 0, []) : zm_E) := (congrArg (fun l => l[15]?) cd_44).trans rfl
theorem cd_45 : zm_cd 45 = zd_45 := rfl
theorem ml_45 : zm_ml 45 = 2 := rfl
theorem ht_45 : zm_ht 45 = [] := rfl
theorem c_45_0 : (zm_cd 45)[0]? = some ((0, .iconst 0, 1, 0, 0, 0, 0, 0, []) : zm_E) := (congrArg (fun l => l[0]?) cd_45).trans rfl
theorem c_45_1 : (zm_cd 45)[1]? = some ((1, .istore_n 1, 1, 1, 0, 0, 0, 0, []) : zm_E) := (congrArg (fun l => l[1]?) cd_45).trans rfl
theorem c_45_2 : (zm_cd 45)[2]? = some ((2, .iload_n 1, 1, 1, 0, 0, 0, 0, []) : zm_E) := (congrArg (fun l => l[2]?) cd_45).trans rfl
theorem c_45_3 : (zm_cd 45)[3]? = some ((3, .bipush 58, 2, 0, 0, 0, 58, 0, []) : zm_E) := (congrArg (fun l => l[3]?) cd_45).trans rfl
theorem c_45_4 : (zm_cd 45)[4]? = some ((5, .if_icmp .ge 21, 3, 15, 0, 0, 0, 0, []) : zm_E) := (congrArg (fun l => l[4]?) cd_45).trans rfl
theorem c_45_5 : (zm_cd 45)[5]? = some ((8, .aload_n 0, 1, 0, 0, 0, 0, 0, []) : zm_E) := (congrArg (fun l => l[5]?) cd_45).trans rfl
theorem c_45_6 : (zm_cd 45)[6]? = some ((9, .getfield 7, 3, 8, 0, 1, 0, 0, []) : zm_E) := (congrArg (fun l => l[6]?) cd_45).trans rfl
theorem c_45_7 : (zm_cd 45)[7]? = some ((12, .iload_n 1, 1, 1, 0, 0, 0, 0, []) : zm_E) := (congrArg (fun l => l[7]?) cd_45).trans rfl
theorem c_45_8 : (zm_cd 45)[8]? = some ((13, .aload_n 0, 1, 0, 0, 0, 0, 0, []) : zm_E) := (congrArg (fun l => l[8]?) cd_45).trans rfl
theorem c_45_9 : (zm_cd 45)[9]? = some ((14, .getfield 13, 3, 8, 1, 1, 0, 0, []) : zm_E) := (congrArg (fun l => l[9]?) cd_45).trans rfl
theorem c_45_10 : (zm_cd 45)[10]? = some ((17, .iload_n 1, 1, 1, 0, 0, 0, 0, []) : zm_E) := (congrArg (fun l => l[10]?) cd_45).trans rfl
theorem c_45_11 : (zm_cd 45)[11]? = some ((18, .iaload, 1, 0, 0, 0, 0, 0, []) : zm_E) := (congrArg (fun l => l[11]?) cd_45).trans rfl
theorem c_45_12 : (zm_cd 45)[12]? = some ((19, .iastore, 1, 0, 0, 0, 0, 0, []) : zm_E) := (congrArg (fun l => l[12]?) cd_45).trans rfl
theorem c_45_13 : (zm_cd 45)[13]? = some ((20, .iinc 1 1, 3, 1, 0, 0, 1, 0, []) : zm_E) := (congrArg (fun l => l[13]?) cd_45).trans rfl
theorem c_45_14 : (zm_cd 45)[14]? = some ((23, .goto (-21), 3, 2, 0, 0, 0, 0, []) : zm_E) := (congrArg (fun l => l[14]?) cd_45).trans rfl
theorem c_45_15 : (zm_cd 45)[15]? = some ((26, .return_, 1, 0, 0, 0, 0, 0, []) : zm_E) := (congrArg (fun l => l[15]?) cd_45).trans rfl
theorem cd_46 : zm_cd 46 = zd_46 := rfl
theorem ml_46 : zm_ml 46 = 2 := rfl
theorem ht_46 : zm_ht 46 = [] := rfl
theorem c_46_0 : (zm_cd 46)[0]? = some ((0, .aload_n 0, 1, 0, 0, 0, 0, 0, []) : zm_E) := (congrArg (fun l => l[0]?) cd_46).trans rfl
theorem c_46_1 : (zm_cd 46)[1]? = some ((1, .getfield 75, 3, 8, 3, 0, 0, 0, []) : zm_E) := (congrArg (fun l => l[1]?) cd_46).trans rfl
theorem c_46_2 : (zm_cd 46)[2]? = some ((4, .bipush 14, 2, 0, 0, 0, 14, 0, []) : zm_E) := (congrArg (fun l => l[2]?) cd_46).trans rfl
theorem c_46_3 : (zm_cd 46)[3]? = some ((6, .if_icmp .ne 43, 3, 27, 0, 0, 0, 0, []) : zm_E) := (congrArg (fun l => l[3]?) cd_46).trans rfl
theorem c_46_4 : (zm_cd 46)[4]? = some ((9, .iconst 0, 1, 0, 0, 0, 0, 0, []) : zm_E) := (congrArg (fun l => l[4]?) cd_46).trans rfl
theorem c_46_5 : (zm_cd 46)[5]? = some ((10, .istore_n 1, 1, 1, 0, 0, 0, 0, []) : zm_E) := (congrArg (fun l => l[5]?) cd_46).trans rfl
theorem c_46_6 : (zm_cd 46)[6]? = some ((11, .iload_n 1, 1, 1, 0, 0, 0, 0, []) : zm_E) := (congrArg (fun l => l[6]?) cd_46).trans rfl
theorem c_46_7 : (zm_cd 46)[7]? = some ((12, .sipush 754, 3, 0, 0, 0, 754, 0, []) : zm_E) := (congrArg (fun l => l[7]?) cd_46).trans rfl
theorem c_46_8 : (zm_cd 46)[8]? = some ((15, .if_icmp .ge 24, 3, 21, 0, 0, 0, 0, []) : zm_E) := (congrArg (fun l => l[8]?) cd_46).trans rfl
theorem c_46_9 : (zm_cd 46)[9]? = some ((18, .aload_n 0, 1, 0, 0, 0, 0, 0, []) : zm_E) := (congrArg (fun l => l[9]?) cd_46).trans rfl
theorem c_46_10 : (zm_cd 46)[10]? = some ((19, .getfield 16, 3, 8, 2, 1, 0, 0, []) : zm_E) := (congrArg (fun l => l[10]?) cd_46).trans rfl
theorem c_46_11 : (zm_cd 46)[11]? = some ((22, .iload_n 1, 1, 1, 0, 0, 0, 0, []) : zm_E) := (congrArg (fun l => l[11]?) cd_46).trans rfl
theorem c_46_12 : (zm_cd 46)[12]? = some ((23, .aload_n 0, 1, 0, 0, 0, 0, 0, []) : zm_E) := (congrArg (fun l => l[12]?) cd_46).trans rfl
theorem c_46_13 : (zm_cd 46)[13]? = some ((24, .getfield 16, 3, 8, 2, 1, 0, 0, []) : zm_E) := (congrArg (fun l => l[13]?) cd_46).trans rfl
theorem c_46_14 : (zm_cd 46)[14]? = some ((27, .iload_n 1, 1, 1, 0, 0, 0, 0, []) : zm_E) := (congrArg (fun l => l[14]?) cd_46).trans rfl
theorem c_46_15 : (zm_cd 46)[15]? = some ((28, .bipush 58, 2, 0, 0, 0, 58, 0, []) : zm_E) := (congrArg (fun l => l[15]?) cd_46).trans rfl
theorem c_46_16 : (zm_cd 46)[16]? = some ((30, .iadd, 1, 0, 0, 0, 0, 0, []) : zm_E) := (congrArg (fun l => l[16]?) cd_46).trans rfl
theorem c_46_17 : (zm_cd 46)[17]? = some ((31, .iaload, 1, 0, 0, 0, 0, 0, []) : zm_E) := (congrArg (fun l => l[17]?) cd_46).trans rfl
theorem c_46_18 : (zm_cd 46)[18]? = some ((32, .iastore, 1, 0, 0, 0, 0, 0, []) : zm_E) := (congrArg (fun l => l[18]?) cd_46).trans rfl
theorem c_46_19 : (zm_cd 46)[19]? = some ((33, .iinc 1 1, 3, 1, 0, 0, 1, 0, []) : zm_E) := (congrArg (fun l => l[19]?) cd_46).trans rfl
theorem c_46_20 : (zm_cd 46)[20]? = some ((36, .goto (-25), 3, 6, 0, 0, 0, 0, []) : zm_E) := (congrArg (fun l => l[20]?) cd_46).trans rfl
theorem c_46_21 : (zm_cd 46)[21]? = some ((39, .aload_n 0, 1, 0, 0, 0, 0, 0, []) : zm_E) := (congrArg (fun l => l[21]?) cd_46).trans rfl
theorem c_46_22 : (zm_cd 46)[22]? = some ((40, .dup, 1, 0, 0, 0, 0, 0, []) : zm_E) := (congrArg (fun l => l[22]?) cd_46).trans rfl
theorem c_46_23 : (zm_cd 46)[23]? = some ((41, .getfield 75, 3, 8, 3, 0, 0, 0, []) : zm_E) := (congrArg (fun l => l[23]?) cd_46).trans rfl
theorem c_46_24 : (zm_cd 46)[24]? = some ((44, .iconst 1, 1, 0, 0, 0, 1, 0, []) : zm_E) := (congrArg (fun l => l[24]?) cd_46).trans rfl
theorem c_46_25 : (zm_cd 46)[25]? = some ((45, .isub, 1, 0, 0, 0, 0, 0, []) : zm_E) := (congrArg (fun l => l[25]?) cd_46).trans rfl
theorem c_46_26 : (zm_cd 46)[26]? = some ((46, .putfield 75, 3, 8, 3, 0, 0, 0, []) : zm_E) := (congrArg (fun l => l[26]?) cd_46).trans rfl
theorem c_46_27 : (zm_cd 46)[27]? = some ((49, .iconst 0, 1, 0, 0, 0, 0, 0, []) : zm_E) := (congrArg (fun l => l[27]?) cd_46).trans rfl
theorem c_46_28 : (zm_cd 46)[28]? = some ((50, .istore_n 1, 1, 1, 0, 0, 0, 0, []) : zm_E) := (congrArg (fun l => l[28]?) cd_46).trans rfl
theorem c_46_29 : (zm_cd 46)[29]? = some ((51, .iload_n 1, 1, 1, 0, 0, 0, 0, []) : zm_E) := (congrArg (fun l => l[29]?) cd_46).trans rfl
theorem c_46_30 : (zm_cd 46)[30]? = some ((52, .bipush 58, 2, 0, 0, 0, 58, 0, []) : zm_E) := (congrArg (fun l => l[30]?) cd_46).trans rfl
theorem c_46_31 : (zm_cd 46)[31]? = some ((54, .if_icmp .ge 29, 3, 47, 0, 0, 0, 0, []) : zm_E) := (congrArg (fun l => l[31]?) cd_46).trans rfl
theorem c_46_32 : (zm_cd 46)[32]? = some ((57, .aload_n 0, 1, 0, 0, 0, 0, 0, []) : zm_E) := (congrArg (fun l => l[32]?) cd_46).trans rfl
theorem c_46_33 : (zm_cd 46)[33]? = some ((58, .getfield 16, 3, 8, 2, 1, 0, 0, []) : zm_E) := (congrArg (fun l => l[33]?) cd_46).trans rfl
theorem c_46_34 : (zm_cd 46)[34]? = some ((61, .bipush 58, 2, 0, 0, 0, 58, 0, []) : zm_E) := (congrArg (fun l => l[34]?) cd_46).trans rfl
theorem c_46_35 : (zm_cd 46)[35]? = some ((63, .aload_n 0, 1, 0, 0, 0, 0, 0, []) : zm_E) := (congrArg (fun l => l[35]?) cd_46).trans rfl
theorem c_46_36 : (zm_cd 46)[36]? = some ((64, .getfield 75, 3, 8, 3, 0, 0, 0, []) : zm_E) := (congrArg (fun l => l[36]?) cd_46).trans rfl
theorem c_46_37 : (zm_cd 46)[37]? = some ((67, .imul, 1, 0, 0, 0, 0, 0, []) : zm_E) := (congrArg (fun l => l[37]?) cd_46).trans rfl
theorem c_46_38 : (zm_cd 46)[38]? = some ((68, .iload_n 1, 1, 1, 0, 0, 0, 0, []) : zm_E) := (congrArg (fun l => l[38]?) cd_46).trans rfl
theorem c_46_39 : (zm_cd 46)[39]? = some ((69, .iadd, 1, 0, 0, 0, 0, 0, []) : zm_E) := (congrArg (fun l => l[39]?) cd_46).trans rfl
theorem c_46_40 : (zm_cd 46)[40]? = some ((70, .aload_n 0, 1, 0, 0, 0, 0, 0, []) : zm_E) := (congrArg (fun l => l[40]?) cd_46).trans rfl
theorem c_46_41 : (zm_cd 46)[41]? = some ((71, .getfield 7, 3, 8, 0, 1, 0, 0, []) : zm_E) := (congrArg (fun l => l[41]?) cd_46).trans rfl
theorem c_46_42 : (zm_cd 46)[42]? = some ((74, .iload_n 1, 1, 1, 0, 0, 0, 0, []) : zm_E) := (congrArg (fun l => l[42]?) cd_46).trans rfl
theorem c_46_43 : (zm_cd 46)[43]? = some ((75, .iaload, 1, 0, 0, 0, 0, 0, []) : zm_E) := (congrArg (fun l => l[43]?) cd_46).trans rfl
theorem c_46_44 : (zm_cd 46)[44]? = some ((76, .iastore, 1, 0, 0, 0, 0, 0, []) : zm_E) := (congrArg (fun l => l[44]?) cd_46).trans rfl
theorem c_46_45 : (zm_cd 46)[45]? = some ((77, .iinc 1 1, 3, 1, 0, 0, 1, 0, []) : zm_E) := (congrArg (fun l => l[45]?) cd_46).trans rfl
theorem c_46_46 : (zm_cd 46)[46]? = some ((80, .goto (-29), 3, 29, 0, 0, 0, 0, []) : zm_E) := (congrArg (fun l => l[46]?) cd_46).trans rfl
theorem c_46_47 : (zm_cd 46)[47]? = some ((83, .aload_n 0, 1, 0, 0, 0, 0, 0, []) : zm_E) := (congrArg (fun l => l[47]?) cd_46).trans rfl
theorem c_46_48 : (zm_cd 46)[48]? = some ((84, .dup, 1, 0, 0, 0, 0, 0, []) : zm_E) := (congrArg (fun l => l[48]?) cd_46).trans rfl
theorem c_46_49 : (zm_cd 46)[49]? = some ((85, .getfield 75, 3, 8, 3, 0, 0, 0, []) : zm_E) := (congrArg (fun l => l[49]?) cd_46).trans rfl
theorem c_46_50 : (zm_cd 46)[50]? = some ((88, .iconst 1, 1, 0, 0, 0, 1, 0, []) : zm_E) := (congrArg (fun l => l[50]?) cd_46).trans rfl
theorem c_46_51 : (zm_cd 46)[51]? = some ((89, .iadd, 1, 0, 0, 0, 0, 0, []) : zm_E) := (congrArg (fun l => l[51]?) cd_46).trans rfl
theorem c_46_52 : (zm_cd 46)[52]? = some ((90, .putfield 75, 3, 8, 3, 0, 0, 0, []) : zm_E) := (congrArg (fun l => l[52]?) cd_46).trans rfl
theorem c_46_53 : (zm_cd 46)[53]? = some ((93, .return_, 1, 0, 0, 0, 0, 0, []) : zm_E) := (congrArg (fun l => l[53]?) cd_46).trans rfl
theorem cd_47 : zm_cd 47 = zd_47 := rfl
theorem ml_47 : zm_ml 47 = 2 := rfl
theorem ht_47 : zm_ht 47 = [] := rfl
theorem c_47_0 : (zm_cd 47)[0]? = some ((0, .iload_n 1, 1, 1, 0, 0, 0, 0, []) : zm_E) := (congrArg (fun l => l[0]?) cd_47).trans rfl
theorem c_47_1 : (zm_cd 47)[1]? = some ((1, .i2l, 1, 0, 0, 0, 0, 0, []) : zm_E) := (congrArg (fun l => l[1]?) cd_47).trans rfl
theorem c_47_2 : (zm_cd 47)[2]? = some ((2, .lconst 0, 1, 0, 0, 0, 0, 0, []) : zm_E) := (congrArg (fun l => l[2]?) cd_47).trans rfl
theorem c_47_3 : (zm_cd 47)[3]? = some ((3, .aload_n 0, 1, 0, 0, 0, 0, 0, []) : zm_E) := (congrArg (fun l => l[3]?) cd_47).trans rfl
theorem c_47_4 : (zm_cd 47)[4]? = some ((4, .getfield 7, 3, 8, 0, 1, 0, 0, []) : zm_E) := (congrArg (fun l => l[4]?) cd_47).trans rfl
theorem c_47_5 : (zm_cd 47)[5]? = some ((7, .iconst 0, 1, 0, 0, 0, 0, 0, []) : zm_E) := (congrArg (fun l => l[5]?) cd_47).trans rfl
theorem c_47_6 : (zm_cd 47)[6]? = some ((8, .iaload, 1, 0, 0, 0, 0, 0, []) : zm_E) := (congrArg (fun l => l[6]?) cd_47).trans rfl
theorem c_47_7 : (zm_cd 47)[7]? = some ((9, .iconst 1, 1, 0, 0, 0, 1, 0, []) : zm_E) := (congrArg (fun l => l[7]?) cd_47).trans rfl
theorem c_47_8 : (zm_cd 47)[8]? = some ((10, .isub, 1, 0, 0, 0, 0, 0, []) : zm_E) := (congrArg (fun l => l[8]?) cd_47).trans rfl
theorem c_47_9 : (zm_cd 47)[9]? = some ((11, .i2l, 1, 0, 0, 0, 0, 0, []) : zm_E) := (congrArg (fun l => l[9]?) cd_47).trans rfl
theorem c_47_10 : (zm_cd 47)[10]? = some ((12, .invokestatic 78, 3, 40, 3, 1, 0, 0, []) : zm_E) := (congrArg (fun l => l[10]?) cd_47).trans rfl
theorem c_47_11 : (zm_cd 47)[11]? = some ((15, .ireturn, 1, 1, 0, 0, 0, 0, []) : zm_E) := (congrArg (fun l => l[11]?) cd_47).trans rfl
theorem cd_48 : zm_cd 48 = zd_48 := rfl
theorem ml_48 : zm_ml 48 = 2 := rfl
theorem ht_48 : zm_ht 48 = [] := rfl
theorem c_48_0 : (zm_cd 48)[0]? = some ((0, .aload_n 0, 1, 0, 0, 0, 0, 0, []) : zm_E) := (congrArg (fun l => l[0]?) cd_48).trans rfl
theorem c_48_1 : (zm_cd 48)[1]? = some ((1, .getfield 7, 3, 8, 0, 1, 0, 0, []) : zm_E) := (congrArg (fun l => l[1]?) cd_48).trans rfl
theorem c_48_2 : (zm_cd 48)[2]? = some ((4, .iconst 1, 1, 0, 0, 0, 1, 0, []) : zm_E) := (congrArg (fun l => l[2]?) cd_48).trans rfl
theorem c_48_3 : (zm_cd 48)[3]? = some ((5, .iaload, 1, 0, 0, 0, 0, 0, []) : zm_E) := (congrArg (fun l => l[3]?) cd_48).trans rfl
theorem c_48_4 : (zm_cd 48)[4]? = some ((6, .iload_n 1, 1, 1, 0, 0, 0, 0, []) : zm_E) := (congrArg (fun l => l[4]?) cd_48).trans rfl
theorem c_48_5 : (zm_cd 48)[5]? = some ((7, .invokestatic 82, 3, 41, 2, 1, 0, 0, []) : zm_E) := (congrArg (fun l => l[5]?) cd_48).trans rfl
theorem c_48_6 : (zm_cd 48)[6]? = some ((10, .ifCond .ne 7, 3, 9, 0, 0, 0, 0, []) : zm_E) := (congrArg (fun l => l[6]?) cd_48).trans rfl
theorem c_48_7 : (zm_cd 48)[7]? = some ((13, .iconst 1, 1, 0, 0, 0, 1, 0, []) : zm_E) := (congrArg (fun l => l[7]?) cd_48).trans rfl
theorem c_48_8 : (zm_cd 48)[8]? = some ((14, .goto 4, 3, 10, 0, 0, 0, 0, []) : zm_E) := (congrArg (fun l => l[8]?) cd_48).trans rfl
theorem c_48_9 : (zm_cd 48)[9]? = some ((17, .iconst 0, 1, 0, 0, 0, 0, 0, []) : zm_E) := (congrArg (fun l => l[9]?) cd_48).trans rfl
theorem c_48_10 : (zm_cd 48)[10]? = some ((18, .ireturn, 1, 1, 0, 0, 0, 0, []) : zm_E) := (congrArg (fun l => l[10]?) cd_48).trans rfl
theorem cd_49 : zm_cd 49 = zd_49 := rfl
theorem ml_49 : zm_ml 49 = 3 := rfl
theorem ht_49 : zm_ht 49 = [] := rfl
theorem c_49_0 : (zm_cd 49)[0]? = some ((0, .aload_n 0, 1, 0, 0, 0, 0, 0, []) : zm_E) := (congrArg (fun l => l[0]?) cd_49).trans rfl
theorem c_49_1 : (zm_cd 49)[1]? = some ((1, .getfield 7, 3, 8, 0, 1, 0, 0, []) : zm_E) := (congrArg (fun l => l[1]?) cd_49).trans rfl
theorem c_49_2 : (zm_cd 49)[2]? = some ((4, .bipush 9, 2, 0, 0, 0, 9, 0, []) : zm_E) := (congrArg (fun l => l[2]?) cd_49).trans rfl
theorem c_49_3 : (zm_cd 49)[3]? = some ((6, .bipush 7, 2, 0, 0, 0, 7, 0, []) : zm_E) := (congrArg (fun l => l[3]?) cd_49).trans rfl
theorem c_49_4 : (zm_cd 49)[4]? = some ((8, .iload_n 1, 1, 1, 0, 0, 0, 0, []) : zm_E) := (congrArg (fun l => l[4]?) cd_49).trans rfl
theorem c_49_5 : (zm_cd 49)[5]? = some ((9, .imul, 1, 0, 0, 0, 0, 0, []) : zm_E) := (congrArg (fun l => l[5]?) cd_49).trans rfl
theorem c_49_6 : (zm_cd 49)[6]? = some ((10, .iadd, 1, 0, 0, 0, 0, 0, []) : zm_E) := (congrArg (fun l => l[6]?) cd_49).trans rfl
theorem c_49_7 : (zm_cd 49)[7]? = some ((11, .iload_n 2, 1, 2, 0, 0, 0, 0, []) : zm_E) := (congrArg (fun l => l[7]?) cd_49).trans rfl
theorem c_49_8 : (zm_cd 49)[8]? = some ((12, .iadd, 1, 0, 0, 0, 0, 0, []) : zm_E) := (congrArg (fun l => l[8]?) cd_49).trans rfl
theorem c_49_9 : (zm_cd 49)[9]? = some ((13, .iaload, 1, 0, 0, 0, 0, 0, []) : zm_E) := (congrArg (fun l => l[9]?) cd_49).trans rfl
theorem c_49_10 : (zm_cd 49)[10]? = some ((14, .ireturn, 1, 0, 0, 0, 0, 0, []) : zm_E) := (congrArg (fun l => l[10]?) cd_49).trans rfl
theorem cd_50 : zm_cd 50 = zd_50 := rfl
theorem ml_50 : zm_ml 50 = 2 := rfl
theorem ht_50 : zm_ht 50 = [] := rfl
theorem c_50_0 : (zm_cd 50)[0]? = some ((0, .aload_n 0, 1, 0, 0, 0, 0, 0, []) : zm_E) := (congrArg (fun l => l[0]?) cd_50).trans rfl
theorem c_50_1 : (zm_cd 50)[1]? = some ((1, .getfield 7, 3, 8, 0, 1, 0, 0, []) : zm_E) := (congrArg (fun l => l[1]?) cd_50).trans rfl
theorem c_50_2 : (zm_cd 50)[2]? = some ((4, .iconst 2, 1, 0, 0, 0, 2, 0, []) : zm_E) := (congrArg (fun l => l[2]?) cd_50).trans rfl
theorem c_50_3 : (zm_cd 50)[3]? = some ((5, .iload_n 1, 1, 1, 0, 0, 0, 0, []) : zm_E) := (congrArg (fun l => l[3]?) cd_50).trans rfl
theorem c_50_4 : (zm_cd 50)[4]? = some ((6, .iadd, 1, 0, 0, 0, 0, 0, []) : zm_E) := (congrArg (fun l => l[4]?) cd_50).trans rfl
theorem c_50_5 : (zm_cd 50)[5]? = some ((7, .iaload, 1, 0, 0, 0, 0, 0, []) : zm_E) := (congrArg (fun l => l[5]?) cd_50).trans rfl
theorem c_50_6 : (zm_cd 50)[6]? = some ((8, .ireturn, 1, 0, 0, 0, 0, 0, []) : zm_E) := (congrArg (fun l => l[6]?) cd_50).trans rfl
theorem cd_51 : zm_cd 51 = zd_51 := rfl
theorem ml_51 : zm_ml 51 = 1 := rfl
theorem ht_51 : zm_ht 51 = [] := rfl
theorem c_51_0 : (zm_cd 51)[0]? = some ((0, .aload_n 0, 1, 0, 0, 0, 0, 0, []) : zm_E) := (congrArg (fun l => l[0]?) cd_51).trans rfl
theorem c_51_1 : (zm_cd 51)[1]? = some ((1, .getfield 7, 3, 8, 0, 1, 0, 0, []) : zm_E) := (congrArg (fun l => l[1]?) cd_51).trans rfl
theorem c_51_2 : (zm_cd 51)[2]? = some ((4, .iconst 0, 1, 0, 0, 0, 0, 0, []) : zm_E) := (congrArg (fun l => l[2]?) cd_51).trans rfl
theorem c_51_3 : (zm_cd 51)[3]? = some ((5, .iaload, 1, 0, 0, 0, 0, 0, []) : zm_E) := (congrArg (fun l => l[3]?) cd_51).trans rfl
theorem c_51_4 : (zm_cd 51)[4]? = some ((6, .aload_n 0, 1, 0, 0, 0, 0, 0, []) : zm_E) := (congrArg (fun l => l[4]?) cd_51).trans rfl
theorem c_51_5 : (zm_cd 51)[5]? = some ((7, .getfield 7, 3, 8, 0, 1, 0, 0, []) : zm_E) := (congrArg (fun l => l[5]?) cd_51).trans rfl
theorem c_51_6 : (zm_cd 51)[6]? = some ((10, .iconst 1, 1, 0, 0, 0, 1, 0, []) : zm_E) := (congrArg (fun l => l[6]?) cd_51).trans rfl
theorem c_51_7 : (zm_cd 51)[7]? = some ((11, .iaload, 1, 0, 0, 0, 0, 0, []) : zm_E) := (congrArg (fun l => l[7]?) cd_51).trans rfl
theorem c_51_8 : (zm_cd 51)[8]? = some ((12, .invokestatic 86, 3, 42, 1, 1, 0, 0, []) : zm_E) := (congrArg (fun l => l[8]?) cd_51).trans rfl
theorem c_51_9 : (zm_cd 51)[9]? = some ((15, .isub, 1, 0, 0, 0, 0, 0, []) : zm_E) := (congrArg (fun l => l[9]?) cd_51).trans rfl
theorem c_51_10 : (zm_cd 51)[10]? = some ((16, .ireturn, 1, 0, 0, 0, 0, 0, []) : zm_E) := (congrArg (fun l => l[10]?) cd_51).trans rfl
theorem cd_52 : zm_cd 52 = zd_52 := rfl
theorem ml_52 : zm_ml 52 = 3 := rfl
theorem ht_52 : zm_ht 52 = [] := rfl
theorem c_52_0 : (zm_cd 52)[0]? = some ((0, .iconst 0, 1, 0, 0, 0, 0, 0, []) : zm_E) := (congrArg (fun l => l[0]?) cd_52).trans rfl
theorem c_52_1 : (zm_cd 52)[1]? = some ((1, .istore_n 1, 1, 1, 0, 0, 0, 0, []) : zm_E) := (congrArg (fun l => l[1]?) cd_52).trans rfl
theorem c_52_2 : (zm_cd 52)[2]? = some ((2, .iconst 0, 1, 0, 0, 0, 0, 0, []) : zm_E) := (congrArg (fun l => l[2]?) cd_52).trans rfl
theorem c_52_3 : (zm_cd 52)[3]? = some ((3, .istore_n 2, 1, 2, 0, 0, 0, 0, []) : zm_E) := (congrArg (fun l => l[3]?) cd_52).trans rfl
theorem c_52_4 : (zm_cd 52)[4]? = some ((4, .iload_n 2, 1, 2, 0, 0, 0, 0, []) : zm_E) := (congrArg (fun l => l[4]?) cd_52).trans rfl
theorem c_52_5 : (zm_cd 52)[5]? = some ((5, .aload_n 0, 1, 0, 0, 0, 0, 0, []) : zm_E) := (congrArg (fun l => l[5]?) cd_52).trans rfl
theorem c_52_6 : (zm_cd 52)[6]? = some ((6, .getfield 7, 3, 8, 0, 1, 0, 0, []) : zm_E) := (congrArg (fun l => l[6]?) cd_52).trans rfl
theorem c_52_7 : (zm_cd 52)[7]? = some ((9, .iconst 0, 1, 0, 0, 0, 0, 0, []) : zm_E) := (congrArg (fun l => l[7]?) cd_52).trans rfl
theorem c_52_8 : (zm_cd 52)[8]? = some ((10, .iaload, 1, 0, 0, 0, 0, 0, []) : zm_E) := (congrArg (fun l => l[8]?) cd_52).trans rfl
theorem c_52_9 : (zm_cd 52)[9]? = some ((11, .if_icmp .ge 22, 3, 21, 0, 0, 0, 0, []) : zm_E) := (congrArg (fun l => l[9]?) cd_52).trans rfl
theorem c_52_10 : (zm_cd 52)[10]? = some ((14, .iload_n 1, 1, 1, 0, 0, 0, 0, []) : zm_E) := (congrArg (fun l => l[10]?) cd_52).trans rfl
theorem c_52_11 : (zm_cd 52)[11]? = some ((15, .aload_n 0, 1, 0, 0, 0, 0, 0, []) : zm_E) := (congrArg (fun l => l[11]?) cd_52).trans rfl
theorem c_52_12 : (zm_cd 52)[12]? = some ((16, .iload_n 2, 1, 2, 0, 0, 0, 0, []) : zm_E) := (congrArg (fun l => l[12]?) cd_52).trans rfl
theorem c_52_13 : (zm_cd 52)[13]? = some ((17, .aload_n 0, 1, 0, 0, 0, 0, 0, []) : zm_E) := (congrArg (fun l => l[13]?) cd_52).trans rfl
theorem c_52_14 : (zm_cd 52)[14]? = some ((18, .iload_n 2, 1, 2, 0, 0, 0, 0, []) : zm_E) := (congrArg (fun l => l[14]?) cd_52).trans rfl
theorem c_52_15 : (zm_cd 52)[15]? = some ((19, .invokevirtual 90, 3, 50, 1, 1, 0, 0, [8]) : zm_E) := (congrArg (fun l => l[15]?) cd_52).trans rfl
theorem c_52_16 : (zm_cd 52)[16]? = some ((22, .invokevirtual 93, 3, 49, 2, 1, 0, 0, [8]) : zm_E) := (congrArg (fun l => l[16]?) cd_52).trans rfl
theorem c_52_17 : (zm_cd 52)[17]? = some ((25, .iadd, 1, 0, 0, 0, 0, 0, []) : zm_E) := (congrArg (fun l => l[17]?) cd_52).trans rfl
theorem c_52_18 : (zm_cd 52)[18]? = some ((26, .istore_n 1, 1, 1, 0, 0, 0, 0, []) : zm_E) := (congrArg (fun l => l[18]?) cd_52).trans rfl
theorem c_52_19 : (zm_cd 52)[19]? = some ((27, .iinc 2 1, 3, 2, 0, 0, 1, 0, []) : zm_E) := (congrArg (fun l => l[19]?) cd_52).trans rfl
theorem c_52_20 : (zm_cd 52)[20]? = some ((30, .goto (-26), 3, 4, 0, 0, 0, 0, []) : zm_E) := (congrArg (fun l => l[20]?) cd_52).trans rfl
theorem c_52_21 : (zm_cd 52)[21]? = some ((33, .iload_n 1, 1, 1, 0, 0, 0, 0, []) : zm_E) := (congrArg (fun l => l[21]?) cd_52).trans rfl
theorem c_52_22 : (zm_cd 52)[22]? = some ((34, .ireturn, 1, 0, 0, 0, 0, 0, []) : zm_E) := (congrArg (fun l => l[22]?) cd_52).trans rfl
theorem cd_53 : zm_cd 53 = zd_53 := rfl
theorem ml_53 : zm_ml 53 = 7 := rfl
theorem ht_53 : zm_ht 53 = [] := rfl
theorem c_53_0 : (zm_cd 53)[0]? = some ((0, .iload_n 1, 1, 1, 0, 0, 0, 0, []) : zm_E) := (congrArg (fun l => l[0]?) cd_53).trans rfl
theorem c_53_1 : (zm_cd 53)[1]? = some ((1, .istore_n 3, 1, 3, 0, 0, 0, 0, []) : zm_E) := (congrArg (fun l => l[1]?) cd_53).trans rfl
theorem c_53_2 : (zm_cd 53)[2]? = some ((2, .aload_n 0, 1, 0, 0, 0, 0, 0, []) : zm_E) := (congrArg (fun l => l[2]?) cd_53).trans rfl
theorem c_53_3 : (zm_cd 53)[3]? = some ((3, .getfield 7, 3, 8, 0, 1, 0, 0, []) : zm_E) := (congrArg (fun l => l[3]?) cd_53).trans rfl
theorem c_53_4 : (zm_cd 53)[4]? = some ((6, .iconst 0, 1, 0, 0, 0, 0, 0, []) : zm_E) := (congrArg (fun l => l[4]?) cd_53).trans rfl
theorem c_53_5 : (zm_cd 53)[5]? = some ((7, .iaload, 1, 0, 0, 0, 0, 0, []) : zm_E) := (congrArg (fun l => l[5]?) cd_53).trans rfl
theorem c_53_6 : (zm_cd 53)[6]? = some ((8, .iconst 1, 1, 0, 0, 0, 1, 0, []) : zm_E) := (congrArg (fun l => l[6]?) cd_53).trans rfl
theorem c_53_7 : (zm_cd 53)[7]? = some ((9, .isub, 1, 0, 0, 0, 0, 0, []) : zm_E) := (congrArg (fun l => l[7]?) cd_53).trans rfl
theorem c_53_8 : (zm_cd 53)[8]? = some ((10, .istore 4, 2, 4, 0, 0, 0, 0, []) : zm_E) := (congrArg (fun l => l[8]?) cd_53).trans rfl
theorem c_53_9 : (zm_cd 53)[9]? = some ((12, .iload 4, 2, 4, 0, 0, 0, 0, []) : zm_E) := (congrArg (fun l => l[9]?) cd_53).trans rfl
theorem c_53_10 : (zm_cd 53)[10]? = some ((14, .ifCond .lt 111, 3, 66, 0, 0, 0, 0, []) : zm_E) := (congrArg (fun l => l[10]?) cd_53).trans rfl
theorem c_53_11 : (zm_cd 53)[11]? = some ((17, .iload_n 2, 1, 2, 0, 0, 0, 0, []) : zm_E) := (congrArg (fun l => l[11]?) cd_53).trans rfl
theorem c_53_12 : (zm_cd 53)[12]? = some ((18, .iload 4, 2, 4, 0, 0, 0, 0, []) : zm_E) := (congrArg (fun l => l[12]?) cd_53).trans rfl
theorem c_53_13 : (zm_cd 53)[13]? = some ((20, .invokestatic 82, 3, 41, 2, 1, 0, 0, []) : zm_E) := (congrArg (fun l => l[13]?) cd_53).trans rfl
theorem c_53_14 : (zm_cd 53)[14]? = some ((23, .ifCond .eq 31, 3, 30, 0, 0, 0, 0, []) : zm_E) := (congrArg (fun l => l[14]?) cd_53).trans rfl
theorem c_53_15 : (zm_cd 53)[15]? = some ((26, .aload_n 0, 1, 0, 0, 0, 0, 0, []) : zm_E) := (congrArg (fun l => l[15]?) cd_53).trans rfl
theorem c_53_16 : (zm_cd 53)[16]? = some ((27, .iload_n 1, 1, 1, 0, 0, 0, 0, []) : zm_E) := (congrArg (fun l => l[16]?) cd_53).trans rfl
theorem c_53_17 : (zm_cd 53)[17]? = some ((28, .aload_n 0, 1, 0, 0, 0, 0, 0, []) : zm_E) := (congrArg (fun l => l[17]?) cd_53).trans rfl
theorem c_53_18 : (zm_cd 53)[18]? = some ((29, .iload 4, 2, 4, 0, 0, 0, 0, []) : zm_E) := (congrArg (fun l => l[18]?) cd_53).trans rfl
theorem c_53_19 : (zm_cd 53)[19]? = some ((31, .invokevirtual 90, 3, 50, 1, 1, 0, 0, [8]) : zm_E) := (congrArg (fun l => l[19]?) cd_53).trans rfl
theorem c_53_20 : (zm_cd 53)[20]? = some ((34, .invokevirtual 93, 3, 49, 2, 1, 0, 0, [8]) : zm_E) := (congrArg (fun l => l[20]?) cd_53).trans rfl
theorem c_53_21 : (zm_cd 53)[21]? = some ((37, .aload_n 0, 1, 0, 0, 0, 0, 0, []) : zm_E) := (congrArg (fun l => l[21]?) cd_53).trans rfl
theorem c_53_22 : (zm_cd 53)[22]? = some ((38, .iload_n 1, 1, 1, 0, 0, 0, 0, []) : zm_E) := (congrArg (fun l => l[22]?) cd_53).trans rfl
theorem c_53_23 : (zm_cd 53)[23]? = some ((39, .aload_n 0, 1, 0, 0, 0, 0, 0, []) : zm_E) := (congrArg (fun l => l[23]?) cd_53).trans rfl
theorem c_53_24 : (zm_cd 53)[24]? = some ((40, .iload_n 3, 1, 3, 0, 0, 0, 0, []) : zm_E) := (congrArg (fun l => l[24]?) cd_53).trans rfl
theorem c_53_25 : (zm_cd 53)[25]? = some ((41, .invokevirtual 90, 3, 50, 1, 1, 0, 0, [8]) : zm_E) := (congrArg (fun l => l[25]?) cd_53).trans rfl
theorem c_53_26 : (zm_cd 53)[26]? = some ((44, .invokevirtual 93, 3, 49, 2, 1, 0, 0, [8]) : zm_E) := (congrArg (fun l => l[26]?) cd_53).trans rfl
theorem c_53_27 : (zm_cd 53)[27]? = some ((47, .if_icmp .ge 7, 3, 30, 0, 0, 0, 0, []) : zm_E) := (congrArg (fun l => l[27]?) cd_53).trans rfl
theorem c_53_28 : (zm_cd 53)[28]? = some ((50, .iconst 1, 1, 0, 0, 0, 1, 0, []) : zm_E) := (congrArg (fun l => l[28]?) cd_53).trans rfl
theorem c_53_29 : (zm_cd 53)[29]? = some ((51, .goto 4, 3, 31, 0, 0, 0, 0, []) : zm_E) := (congrArg (fun l => l[29]?) cd_53).trans rfl
theorem c_53_30 : (zm_cd 53)[30]? = some ((54, .iconst 0, 1, 0, 0, 0, 0, 0, []) : zm_E) := (congrArg (fun l => l[30]?) cd_53).trans rfl
theorem c_53_31 : (zm_cd 53)[31]? = some ((55, .istore 5, 2, 5, 0, 0, 0, 0, []) : zm_E) := (congrArg (fun l => l[31]?) cd_53).trans rfl
theorem c_53_32 : (zm_cd 53)[32]? = some ((57, .iload_n 2, 1, 2, 0, 0, 0, 0, []) : zm_E) := (congrArg (fun l => l[32]?) cd_53).trans rfl
theorem c_53_33 : (zm_cd 53)[33]? = some ((58, .iload 4, 2, 4, 0, 0, 0, 0, []) : zm_E) := (congrArg (fun l => l[33]?) cd_53).trans rfl
theorem c_53_34 : (zm_cd 53)[34]? = some ((60, .invokestatic 82, 3, 41, 2, 1, 0, 0, []) : zm_E) := (congrArg (fun l => l[34]?) cd_53).trans rfl
theorem c_53_35 : (zm_cd 53)[35]? = some ((63, .ifCond .eq 36, 3, 54, 0, 0, 0, 0, []) : zm_E) := (congrArg (fun l => l[35]?) cd_53).trans rfl
theorem c_53_36 : (zm_cd 53)[36]? = some ((66, .iload_n 3, 1, 3, 0, 0, 0, 0, []) : zm_E) := (congrArg (fun l => l[36]?) cd_53).trans rfl
theorem c_53_37 : (zm_cd 53)[37]? = some ((67, .iload_n 1, 1, 1, 0, 0, 0, 0, []) : zm_E) := (congrArg (fun l => l[37]?) cd_53).trans rfl
theorem c_53_38 : (zm_cd 53)[38]? = some ((68, .if_icmp .eq 31, 3, 54, 0, 0, 0, 0, []) : zm_E) := (congrArg (fun l => l[38]?) cd_53).trans rfl
theorem c_53_39 : (zm_cd 53)[39]? = some ((71, .aload_n 0, 1, 0, 0, 0, 0, 0, []) : zm_E) := (congrArg (fun l => l[39]?) cd_53).trans rfl
theorem c_53_40 : (zm_cd 53)[40]? = some ((72, .iload_n 1, 1, 1, 0, 0, 0, 0, []) : zm_E) := (congrArg (fun l => l[40]?) cd_53).trans rfl
theorem c_53_41 : (zm_cd 53)[41]? = some ((73, .aload_n 0, 1, 0, 0, 0, 0, 0, []) : zm_E) := (congrArg (fun l => l[41]?) cd_53).trans rfl
theorem c_53_42 : (zm_cd 53)[42]? = some ((74, .iload 4, 2, 4, 0, 0, 0, 0, []) : zm_E) := (congrArg (fun l => l[42]?) cd_53).trans rfl
theorem c_53_43 : (zm_cd 53)[43]? = some ((76, .invokevirtual 90, 3, 50, 1, 1, 0, 0, [8]) : zm_E) := (congrArg (fun l => l[43]?) cd_53).trans rfl
theorem c_53_44 : (zm_cd 53)[44]? = some ((79, .invokevirtual 93, 3, 49, 2, 1, 0, 0, [8]) : zm_E) := (congrArg (fun l => l[44]?) cd_53).trans rfl
theorem c_53_45 : (zm_cd 53)[45]? = some ((82, .aload_n 0, 1, 0, 0, 0, 0, 0, []) : zm_E) := (congrArg (fun l => l[45]?) cd_53).trans rfl
theorem c_53_46 : (zm_cd 53)[46]? = some ((83, .iload_n 1, 1, 1, 0, 0, 0, 0, []) : zm_E) := (congrArg (fun l => l[46]?) cd_53).trans rfl
theorem c_53_47 : (zm_cd 53)[47]? = some ((84, .aload_n 0, 1, 0, 0, 0, 0, 0, []) : zm_E) := (congrArg (fun l => l[47]?) cd_53).trans rfl
theorem c_53_48 : (zm_cd 53)[48]? = some ((85, .iload_n 3, 1, 3, 0, 0, 0, 0, []) : zm_E) := (congrArg (fun l => l[48]?) cd_53).trans rfl
theorem c_53_49 : (zm_cd 53)[49]? = some ((86, .invokevirtual 90, 3, 50, 1, 1, 0, 0, [8]) : zm_E) := (congrArg (fun l => l[49]?) cd_53).trans rfl
theorem c_53_50 : (zm_cd 53)[50]? = some ((89, .invokevirtual 93, 3, 49, 2, 1, 0, 0, [8]) : zm_E) := (congrArg (fun l => l[50]?) cd_53).trans rfl
theorem c_53_51 : (zm_cd 53)[51]? = some ((92, .if_icmp .ne 7, 3, 54, 0, 0, 0, 0, []) : zm_E) := (congrArg (fun l => l[51]?) cd_53).trans rfl
theorem c_53_52 : (zm_cd 53)[52]? = some ((95, .iconst 1, 1, 0, 0, 0, 1, 0, []) : zm_E) := (congrArg (fun l => l[52]?) cd_53).trans rfl
theorem c_53_53 : (zm_cd 53)[53]? = some ((96, .goto 4, 3, 55, 0, 0, 0, 0, []) : zm_E) := (congrArg (fun l => l[53]?) cd_53).trans rfl
theorem c_53_54 : (zm_cd 53)[54]? = some ((99, .iconst 0, 1, 0, 0, 0, 0, 0, []) : zm_E) := (congrArg (fun l => l[54]?) cd_53).trans rfl
theorem c_53_55 : (zm_cd 53)[55]? = some ((100, .istore 6, 2, 6, 0, 0, 0, 0, []) : zm_E) := (congrArg (fun l => l[55]?) cd_53).trans rfl
theorem c_53_56 : (zm_cd 53)[56]? = some ((102, .iload 5, 2, 5, 0, 0, 0, 0, []) : zm_E) := (congrArg (fun l => l[56]?) cd_53).trans rfl
theorem c_53_57 : (zm_cd 53)[57]? = some ((104, .ifCond .ne 8, 3, 60, 0, 0, 0, 0, []) : zm_E) := (congrArg (fun l => l[57]?) cd_53).trans rfl
theorem c_53_58 : (zm_cd 53)[58]? = some ((107, .iload 6, 2, 6, 0, 0, 0, 0, []) : zm_E) := (congrArg (fun l => l[58]?) cd_53).trans rfl
theorem c_53_59 : (zm_cd 53)[59]? = some ((109, .ifCond .eq 8, 3, 62, 0, 0, 0, 0, []) : zm_E) := (congrArg (fun l => l[59]?) cd_53).trans rfl
theorem c_53_60 : (zm_cd 53)[60]? = some ((112, .iload 4, 2, 4, 0, 0, 0, 0, []) : zm_E) := (congrArg (fun l => l[60]?) cd_53).trans rfl
theorem c_53_61 : (zm_cd 53)[61]? = some ((114, .goto 4, 3, 63, 0, 0, 0, 0, []) : zm_E) := (congrArg (fun l => l[61]?) cd_53).trans rfl
theorem c_53_62 : (zm_cd 53)[62]? = some ((117, .iload_n 3, 1, 3, 0, 0, 0, 0, []) : zm_E) := (congrArg (fun l => l[62]?) cd_53).trans rfl
theorem c_53_63 : (zm_cd 53)[63]? = some ((118, .istore_n 3, 1, 3, 0, 0, 0, 0, []) : zm_E) := (congrArg (fun l => l[63]?) cd_53).trans rfl
theorem c_53_64 : (zm_cd 53)[64]? = some ((119, .iinc 4 (-1), 3, 4, 0, 0, (-1), 0, []) : zm_E) := (congrArg (fun l => l[64]?) cd_53).trans rfl
theorem c_53_65 : (zm_cd 53)[65]? = some ((122, .goto (-110), 3, 9, 0, 0, 0, 0, []) : zm_E) := (congrArg (fun l => l[65]?) cd_53).trans rfl
theorem c_53_66 : (zm_cd 53)[66]? = some ((125, .iload_n 3, 1, 3, 0, 0, 0, 0, []) : zm_E) := (congrArg (fun l => l[66]?) cd_53).trans rfl
theorem c_53_67 : (zm_cd 53)[67]? = some ((126, .ireturn, 1, 0, 0, 0, 0, 0, []) : zm_E) := (congrArg (fun l => l[67]?) cd_53).trans rfl
theorem cd_54 : zm_cd 54 = zd_54 := rfl
theorem ml_54 : zm_ml 54 = 5 := rfl
theorem ht_54 : zm_ht 54 = [] := rfl
theorem c_54_0 : (zm_cd 54)[0]? = some ((0, .iconst 0, 1, 0, 0, 0, 0, 0, []) : zm_E) := (congrArg (fun l => l[0]?) cd_54).trans rfl
theorem c_54_1 : (zm_cd 54)[1]? = some ((1, .istore_n 2, 1, 2, 0, 0, 0, 0, []) : zm_E) := (congrArg (fun l => l[1]?) cd_54).trans rfl
theorem c_54_2 : (zm_cd 54)[2]? = some ((2, .iload_n 1, 1, 1, 0, 0, 0, 0, []) : zm_E) := (congrArg (fun l => l[2]?) cd_54).trans rfl
theorem c_54_3 : (zm_cd 54)[3]? = some ((3, .istore_n 3, 1, 3, 0, 0, 0, 0, []) : zm_E) := (congrArg (fun l => l[3]?) cd_54).trans rfl
theorem c_54_4 : (zm_cd 54)[4]? = some ((4, .iconst 0, 1, 0, 0, 0, 0, 0, []) : zm_E) := (congrArg (fun l => l[4]?) cd_54).trans rfl
theorem c_54_5 : (zm_cd 54)[5]? = some ((5, .istore 4, 2, 4, 0, 0, 0, 0, []) : zm_E) := (congrArg (fun l => l[5]?) cd_54).trans rfl
theorem c_54_6 : (zm_cd 54)[6]? = some ((7, .iload 4, 2, 4, 0, 0, 0, 0, []) : zm_E) := (congrArg (fun l => l[6]?) cd_54).trans rfl
theorem c_54_7 : (zm_cd 54)[7]? = some ((9, .bipush 7, 2, 0, 0, 0, 7, 0, []) : zm_E) := (congrArg (fun l => l[7]?) cd_54).trans rfl
theorem c_54_8 : (zm_cd 54)[8]? = some ((11, .if_icmp .ge 30, 3, 26, 0, 0, 0, 0, []) : zm_E) := (congrArg (fun l => l[8]?) cd_54).trans rfl
theorem c_54_9 : (zm_cd 54)[9]? = some ((14, .iload_n 2, 1, 2, 0, 0, 0, 0, []) : zm_E) := (congrArg (fun l => l[9]?) cd_54).trans rfl
theorem c_54_10 : (zm_cd 54)[10]? = some ((15, .iload_n 3, 1, 3, 0, 0, 0, 0, []) : zm_E) := (congrArg (fun l => l[10]?) cd_54).trans rfl
theorem c_54_11 : (zm_cd 54)[11]? = some ((16, .invokestatic 82, 3, 41, 2, 1, 0, 0, []) : zm_E) := (congrArg (fun l => l[11]?) cd_54).trans rfl
theorem c_54_12 : (zm_cd 54)[12]? = some ((19, .ifCond .ne 22, 3, 26, 0, 0, 0, 0, []) : zm_E) := (congrArg (fun l => l[12]?) cd_54).trans rfl
theorem c_54_13 : (zm_cd 54)[13]? = some ((22, .iload_n 2, 1, 2, 0, 0, 0, 0, []) : zm_E) := (congrArg (fun l => l[13]?) cd_54).trans rfl
theorem c_54_14 : (zm_cd 54)[14]? = some ((23, .iconst 1, 1, 0, 0, 0, 1, 0, []) : zm_E) := (congrArg (fun l => l[14]?) cd_54).trans rfl
theorem c_54_15 : (zm_cd 54)[15]? = some ((24, .iload_n 3, 1, 3, 0, 0, 0, 0, []) : zm_E) := (congrArg (fun l => l[15]?) cd_54).trans rfl
theorem c_54_16 : (zm_cd 54)[16]? = some ((25, .ishl, 1, 0, 0, 0, 0, 0, []) : zm_E) := (congrArg (fun l => l[16]?) cd_54).trans rfl
theorem c_54_17 : (zm_cd 54)[17]? = some ((26, .ior, 1, 0, 0, 0, 0, 0, []) : zm_E) := (congrArg (fun l => l[17]?) cd_54).trans rfl
theorem c_54_18 : (zm_cd 54)[18]? = some ((27, .istore_n 2, 1, 2, 0, 0, 0, 0, []) : zm_E) := (congrArg (fun l => l[18]?) cd_54).trans rfl
theorem c_54_19 : (zm_cd 54)[19]? = some ((28, .aload_n 0, 1, 0, 0, 0, 0, 0, []) : zm_E) := (congrArg (fun l => l[19]?) cd_54).trans rfl
theorem c_54_20 : (zm_cd 54)[20]? = some ((29, .getfield 41, 3, 8, 13, 1, 0, 0, []) : zm_E) := (congrArg (fun l => l[20]?) cd_54).trans rfl
theorem c_54_21 : (zm_cd 54)[21]? = some ((32, .iload_n 3, 1, 3, 0, 0, 0, 0, []) : zm_E) := (congrArg (fun l => l[21]?) cd_54).trans rfl
theorem c_54_22 : (zm_cd 54)[22]? = some ((33, .iaload, 1, 0, 0, 0, 0, 0, []) : zm_E) := (congrArg (fun l => l[22]?) cd_54).trans rfl
theorem c_54_23 : (zm_cd 54)[23]? = some ((34, .istore_n 3, 1, 3, 0, 0, 0, 0, []) : zm_E) := (congrArg (fun l => l[23]?) cd_54).trans rfl
theorem c_54_24 : (zm_cd 54)[24]? = some ((35, .iinc 4 1, 3, 4, 0, 0, 1, 0, []) : zm_E) := (congrArg (fun l => l[24]?) cd_54).trans rfl
theorem c_54_25 : (zm_cd 54)[25]? = some ((38, .goto (-31), 3, 6, 0, 0, 0, 0, []) : zm_E) := (congrArg (fun l => l[25]?) cd_54).trans rfl
theorem c_54_26 : (zm_cd 54)[26]? = some ((41, .iload_n 3, 1, 3, 0, 0, 0, 0, []) : zm_E) := (congrArg (fun l => l[26]?) cd_54).trans rfl
theorem c_54_27 : (zm_cd 54)[27]? = some ((42, .iload_n 1, 1, 1, 0, 0, 0, 0, []) : zm_E) := (congrArg (fun l => l[27]?) cd_54).trans rfl
theorem c_54_28 : (zm_cd 54)[28]? = some ((43, .if_icmp .ne 7, 3, 31, 0, 0, 0, 0, []) : zm_E) := (congrArg (fun l => l[28]?) cd_54).trans rfl
theorem c_54_29 : (zm_cd 54)[29]? = some ((46, .iload_n 2, 1, 2, 0, 0, 0, 0, []) : zm_E) := (congrArg (fun l => l[29]?) cd_54).trans rfl
theorem c_54_30 : (zm_cd 54)[30]? = some ((47, .goto 4, 3, 32, 0, 0, 0, 0, []) : zm_E) := (congrArg (fun l => l[30]?) cd_54).trans rfl
theorem c_54_31 : (zm_cd 54)[31]? = some ((50, .iconst 0, 1, 0, 0, 0, 0, 0, []) : zm_E) := (congrArg (fun l => l[31]?) cd_54).trans rfl
theorem c_54_32 : (zm_cd 54)[32]? = some ((51, .ireturn, 1, 0, 0, 0, 0, 0, []) : zm_E) := (congrArg (fun l => l[32]?) cd_54).trans rfl
theorem cd_55 : zm_cd 55 = zd_55 := rfl
theorem ml_55 : zm_ml 55 = 5 := rfl
theorem ht_55 : zm_ht 55 = [] := rfl
theorem c_55_0 : (zm_cd 55)[0]? = some ((0, .iconst 0, 1, 0, 0, 0, 0, 0, []) : zm_E) := (congrArg (fun l => l[0]?) cd_55).trans rfl
theorem c_55_1 : (zm_cd 55)[1]? = some ((1, .istore_n 1, 1, 1, 0, 0, 0, 0, []) : zm_E) := (congrArg (fun l => l[1]?) cd_55).trans rfl
theorem c_55_2 : (zm_cd 55)[2]? = some ((2, .iconst 0, 1, 0, 0, 0, 0, 0, []) : zm_E) := (congrArg (fun l => l[2]?) cd_55).trans rfl
theorem c_55_3 : (zm_cd 55)[3]? = some ((3, .istore_n 2, 1, 2, 0, 0, 0, 0, []) : zm_E) := (congrArg (fun l => l[3]?) cd_55).trans rfl
theorem c_55_4 : (zm_cd 55)[4]? = some ((4, .iload_n 2, 1, 2, 0, 0, 0, 0, []) : zm_E) := (congrArg (fun l => l[4]?) cd_55).trans rfl
theorem c_55_5 : (zm_cd 55)[5]? = some ((5, .aload_n 0, 1, 0, 0, 0, 0, 0, []) : zm_E) := (congrArg (fun l => l[5]?) cd_55).trans rfl
theorem c_55_6 : (zm_cd 55)[6]? = some ((6, .getfield 7, 3, 8, 0, 1, 0, 0, []) : zm_E) := (congrArg (fun l => l[6]?) cd_55).trans rfl
theorem c_55_7 : (zm_cd 55)[7]? = some ((9, .iconst 0, 1, 0, 0, 0, 0, 0, []) : zm_E) := (congrArg (fun l => l[7]?) cd_55).trans rfl
theorem c_55_8 : (zm_cd 55)[8]? = some ((10, .iaload, 1, 0, 0, 0, 0, 0, []) : zm_E) := (congrArg (fun l => l[8]?) cd_55).trans rfl
theorem c_55_9 : (zm_cd 55)[9]? = some ((11, .if_icmp .ge 59, 3, 44, 0, 0, 0, 0, []) : zm_E) := (congrArg (fun l => l[9]?) cd_55).trans rfl
theorem c_55_10 : (zm_cd 55)[10]? = some ((14, .iload_n 1, 1, 1, 0, 0, 0, 0, []) : zm_E) := (congrArg (fun l => l[10]?) cd_55).trans rfl
theorem c_55_11 : (zm_cd 55)[11]? = some ((15, .aload_n 0, 1, 0, 0, 0, 0, 0, []) : zm_E) := (congrArg (fun l => l[11]?) cd_55).trans rfl
theorem c_55_12 : (zm_cd 55)[12]? = some ((16, .iload_n 2, 1, 2, 0, 0, 0, 0, []) : zm_E) := (congrArg (fun l => l[12]?) cd_55).trans rfl
theorem c_55_13 : (zm_cd 55)[13]? = some ((17, .invokevirtual 97, 3, 48, 1, 1, 0, 0, [8]) : zm_E) := (congrArg (fun l => l[13]?) cd_55).trans rfl
theorem c_55_14 : (zm_cd 55)[14]? = some ((20, .ifCond .eq 9, 3, 19, 0, 0, 0, 0, []) : zm_E) := (congrArg (fun l => l[14]?) cd_55).trans rfl
theorem c_55_15 : (zm_cd 55)[15]? = some ((23, .iconst 1, 1, 0, 0, 0, 1, 0, []) : zm_E) := (congrArg (fun l => l[15]?) cd_55).trans rfl
theorem c_55_16 : (zm_cd 55)[16]? = some ((24, .iload_n 2, 1, 2, 0, 0, 0, 0, []) : zm_E) := (congrArg (fun l => l[16]?) cd_55).trans rfl
theorem c_55_17 : (zm_cd 55)[17]? = some ((25, .ishl, 1, 0, 0, 0, 0, 0, []) : zm_E) := (congrArg (fun l => l[17]?) cd_55).trans rfl
theorem c_55_18 : (zm_cd 55)[18]? = some ((26, .goto 4, 3, 20, 0, 0, 0, 0, []) : zm_E) := (congrArg (fun l => l[18]?) cd_55).trans rfl
theorem c_55_19 : (zm_cd 55)[19]? = some ((29, .iconst 0, 1, 0, 0, 0, 0, 0, []) : zm_E) := (congrArg (fun l => l[19]?) cd_55).trans rfl
theorem c_55_20 : (zm_cd 55)[20]? = some ((30, .ior, 1, 0, 0, 0, 0, 0, []) : zm_E) := (congrArg (fun l => l[20]?) cd_55).trans rfl
theorem c_55_21 : (zm_cd 55)[21]? = some ((31, .istore_n 1, 1, 1, 0, 0, 0, 0, []) : zm_E) := (congrArg (fun l => l[21]?) cd_55).trans rfl
theorem c_55_22 : (zm_cd 55)[22]? = some ((32, .aload_n 0, 1, 0, 0, 0, 0, 0, []) : zm_E) := (congrArg (fun l => l[22]?) cd_55).trans rfl
theorem c_55_23 : (zm_cd 55)[23]? = some ((33, .getfield 29, 3, 8, 9, 1, 0, 0, []) : zm_E) := (congrArg (fun l => l[23]?) cd_55).trans rfl
theorem c_55_24 : (zm_cd 55)[24]? = some ((36, .iload_n 2, 1, 2, 0, 0, 0, 0, []) : zm_E) := (congrArg (fun l => l[24]?) cd_55).trans rfl
theorem c_55_25 : (zm_cd 55)[25]? = some ((37, .bipush (-9), 2, 0, 0, 0, (-9), 0, []) : zm_E) := (congrArg (fun l => l[25]?) cd_55).trans rfl
theorem c_55_26 : (zm_cd 55)[26]? = some ((39, .iastore, 1, 0, 0, 0, 0, 0, []) : zm_E) := (congrArg (fun l => l[26]?) cd_55).trans rfl
theorem c_55_27 : (zm_cd 55)[27]? = some ((40, .aload_n 0, 1, 0, 0, 0, 0, 0, []) : zm_E) := (congrArg (fun l => l[27]?) cd_55).trans rfl
theorem c_55_28 : (zm_cd 55)[28]? = some ((41, .getfield 32, 3, 8, 10, 1, 0, 0, []) : zm_E) := (congrArg (fun l => l[28]?) cd_55).trans rfl
theorem c_55_29 : (zm_cd 55)[29]? = some ((44, .iload_n 2, 1, 2, 0, 0, 0, 0, []) : zm_E) := (congrArg (fun l => l[29]?) cd_55).trans rfl
theorem c_55_30 : (zm_cd 55)[30]? = some ((45, .bipush (-9), 2, 0, 0, 0, (-9), 0, []) : zm_E) := (congrArg (fun l => l[30]?) cd_55).trans rfl
theorem c_55_31 : (zm_cd 55)[31]? = some ((47, .iastore, 1, 0, 0, 0, 0, 0, []) : zm_E) := (congrArg (fun l => l[31]?) cd_55).trans rfl
theorem c_55_32 : (zm_cd 55)[32]? = some ((48, .aload_n 0, 1, 0, 0, 0, 0, 0, []) : zm_E) := (congrArg (fun l => l[32]?) cd_55).trans rfl
theorem c_55_33 : (zm_cd 55)[33]? = some ((49, .getfield 35, 3, 8, 11, 1, 0, 0, []) : zm_E) := (congrArg (fun l => l[33]?) cd_55).trans rfl
theorem c_55_34 : (zm_cd 55)[34]? = some ((52, .iload_n 2, 1, 2, 0, 0, 0, 0, []) : zm_E) := (congrArg (fun l => l[34]?) cd_55).trans rfl
theorem c_55_35 : (zm_cd 55)[35]? = some ((53, .bipush (-9), 2, 0, 0, 0, (-9), 0, []) : zm_E) := (congrArg (fun l => l[35]?) cd_55).trans rfl
theorem c_55_36 : (zm_cd 55)[36]? = some ((55, .iastore, 1, 0, 0, 0, 0, 0, []) : zm_E) := (congrArg (fun l => l[36]?) cd_55).trans rfl
theorem c_55_37 : (zm_cd 55)[37]? = some ((56, .aload_n 0, 1, 0, 0, 0, 0, 0, []) : zm_E) := (congrArg (fun l => l[37]?) cd_55).trans rfl
theorem c_55_38 : (zm_cd 55)[38]? = some ((57, .getfield 38, 3, 8, 12, 1, 0, 0, []) : zm_E) := (congrArg (fun l => l[38]?) cd_55).trans rfl
theorem c_55_39 : (zm_cd 55)[39]? = some ((60, .iload_n 2, 1, 2, 0, 0, 0, 0, []) : zm_E) := (congrArg (fun l => l[39]?) cd_55).trans rfl
theorem c_55_40 : (zm_cd 55)[40]? = some ((61, .bipush (-9), 2, 0, 0, 0, (-9), 0, []) : zm_E) := (congrArg (fun l => l[40]?) cd_55).trans rfl
theorem c_55_41 : (zm_cd 55)[41]? = some ((63, .iastore, 1, 0, 0, 0, 0, 0, []) : zm_E) := (congrArg (fun l => l[41]?) cd_55).trans rfl
theorem c_55_42 : (zm_cd 55)[42]? = some ((64, .iinc 2 1, 3, 2, 0, 0, 1, 0, []) : zm_E) := (congrArg (fun l => l[42]?) cd_55).trans rfl
theorem c_55_43 : (zm_cd 55)[43]? = some ((67, .goto (-63), 3, 4, 0, 0, 0, 0, []) : zm_E) := (congrArg (fun l => l[43]?) cd_55).trans rfl
theorem c_55_44 : (zm_cd 55)[44]? = some ((70, .aload_n 0, 1, 0, 0, 0, 0, 0, []) : zm_E) := (congrArg (fun l => l[44]?) cd_55).trans rfl
theorem c_55_45 : (zm_cd 55)[45]? = some ((71, .iconst 0, 1, 0, 0, 0, 0, 0, []) : zm_E) := (congrArg (fun l => l[45]?) cd_55).trans rfl
theorem c_55_46 : (zm_cd 55)[46]? = some ((72, .putfield 101, 3, 8, 16, 0, 0, 0, []) : zm_E) := (congrArg (fun l => l[46]?) cd_55).trans rfl
theorem c_55_47 : (zm_cd 55)[47]? = some ((75, .aload_n 0, 1, 0, 0, 0, 0, 0, []) : zm_E) := (congrArg (fun l => l[47]?) cd_55).trans rfl
theorem c_55_48 : (zm_cd 55)[48]? = some ((76, .iconst 0, 1, 0, 0, 0, 0, 0, []) : zm_E) := (congrArg (fun l => l[48]?) cd_55).trans rfl
theorem c_55_49 : (zm_cd 55)[49]? = some ((77, .putfield 104, 3, 8, 17, 0, 0, 0, []) : zm_E) := (congrArg (fun l => l[49]?) cd_55).trans rfl
theorem c_55_50 : (zm_cd 55)[50]? = some ((80, .iload_n 1, 1, 1, 0, 0, 0, 0, []) : zm_E) := (congrArg (fun l => l[50]?) cd_55).trans rfl
theorem c_55_51 : (zm_cd 55)[51]? = some ((81, .ifCond .eq 197, 3, 163, 0, 0, 0, 0, []) : zm_E) := (congrArg (fun l => l[51]?) cd_55).trans rfl
theorem c_55_52 : (zm_cd 55)[52]? = some ((84, .iconst 0, 1, 0, 0, 0, 0, 0, []) : zm_E) := (congrArg (fun l => l[52]?) cd_55).trans rfl
theorem c_55_53 : (zm_cd 55)[53]? = some ((85, .istore_n 2, 1, 2, 0, 0, 0, 0, []) : zm_E) := (congrArg (fun l => l[53]?) cd_55).trans rfl
theorem c_55_54 : (zm_cd 55)[54]? = some ((86, .iload_n 2, 1, 2, 0, 0, 0, 0, []) : zm_E) := (congrArg (fun l => l[54]?) cd_55).trans rfl
theorem c_55_55 : (zm_cd 55)[55]? = some ((87, .aload_n 0, 1, 0, 0, 0, 0, 0, []) : zm_E) := (congrArg (fun l => l[55]?) cd_55).trans rfl
theorem c_55_56 : (zm_cd 55)[56]? = some ((88, .getfield 7, 3, 8, 0, 1, 0, 0, []) : zm_E) := (congrArg (fun l => l[56]?) cd_55).trans rfl
theorem c_55_57 : (zm_cd 55)[57]? = some ((91, .iconst 0, 1, 0, 0, 0, 0, 0, []) : zm_E) := (congrArg (fun l => l[57]?) cd_55).trans rfl
theorem c_55_58 : (zm_cd 55)[58]? = some ((92, .iaload, 1, 0, 0, 0, 0, 0, []) : zm_E) := (congrArg (fun l => l[58]?) cd_55).trans rfl
theorem c_55_59 : (zm_cd 55)[59]? = some ((93, .if_icmp .ge 69, 3, 96, 0, 0, 0, 0, []) : zm_E) := (congrArg (fun l => l[59]?) cd_55).trans rfl
theorem c_55_60 : (zm_cd 55)[60]? = some ((96, .aload_n 0, 1, 0, 0, 0, 0, 0, []) : zm_E) := (congrArg (fun l => l[60]?) cd_55).trans rfl
theorem c_55_61 : (zm_cd 55)[61]? = some ((97, .getfield 41, 3, 8, 13, 1, 0, 0, []) : zm_E) := (congrArg (fun l => l[61]?) cd_55).trans rfl
theorem c_55_62 : (zm_cd 55)[62]? = some ((100, .iload_n 2, 1, 2, 0, 0, 0, 0, []) : zm_E) := (congrArg (fun l => l[62]?) cd_55).trans rfl
theorem c_55_63 : (zm_cd 55)[63]? = some ((101, .iload_n 1, 1, 1, 0, 0, 0, 0, []) : zm_E) := (congrArg (fun l => l[63]?) cd_55).trans rfl
theorem c_55_64 : (zm_cd 55)[64]? = some ((102, .iload_n 2, 1, 2, 0, 0, 0, 0, []) : zm_E) := (congrArg (fun l => l[64]?) cd_55).trans rfl
theorem c_55_65 : (zm_cd 55)[65]? = some ((103, .invokestatic 82, 3, 41, 2, 1, 0, 0, []) : zm_E) := (congrArg (fun l => l[65]?) cd_55).trans rfl
theorem c_55_66 : (zm_cd 55)[66]? = some ((106, .ifCond .eq 12, 3, 72, 0, 0, 0, 0, []) : zm_E) := (congrArg (fun l => l[66]?) cd_55).trans rfl
theorem c_55_67 : (zm_cd 55)[67]? = some ((109, .aload_n 0, 1, 0, 0, 0, 0, 0, []) : zm_E) := (congrArg (fun l => l[67]?) cd_55).trans rfl
theorem c_55_68 : (zm_cd 55)[68]? = some ((110, .iload_n 2, 1, 2, 0, 0, 0, 0, []) : zm_E) := (congrArg (fun l => l[68]?) cd_55).trans rfl
theorem c_55_69 : (zm_cd 55)[69]? = some ((111, .iload_n 1, 1, 1, 0, 0, 0, 0, []) : zm_E) := (congrArg (fun l => l[69]?) cd_55).trans rfl
theorem c_55_70 : (zm_cd 55)[70]? = some ((112, .invokevirtual 107, 3, 53, 2, 1, 0, 0, [8]) : zm_E) := (congrArg (fun l => l[70]?) cd_55).trans rfl
theorem c_55_71 : (zm_cd 55)[71]? = some ((115, .goto 4, 3, 73, 0, 0, 0, 0, []) : zm_E) := (congrArg (fun l => l[71]?) cd_55).trans rfl
theorem c_55_72 : (zm_cd 55)[72]? = some ((118, .iload_n 2, 1, 2, 0, 0, 0, 0, []) : zm_E) := (congrArg (fun l => l[72]?) cd_55).trans rfl
theorem c_55_73 : (zm_cd 55)[73]? = some ((119, .iastore, 1, 0, 0, 0, 0, 0, []) : zm_E) := (congrArg (fun l => l[73]?) cd_55).trans rfl
theorem c_55_74 : (zm_cd 55)[74]? = some ((120, .aload_n 0, 1, 0, 0, 0, 0, 0, []) : zm_E) := (congrArg (fun l => l[74]?) cd_55).trans rfl
theorem c_55_75 : (zm_cd 55)[75]? = some ((121, .getfield 38, 3, 8, 12, 1, 0, 0, []) : zm_E) := (congrArg (fun l => l[75]?) cd_55).trans rfl
theorem c_55_76 : (zm_cd 55)[76]? = some ((124, .iload_n 2, 1, 2, 0, 0, 0, 0, []) : zm_E) := (congrArg (fun l => l[76]?) cd_55).trans rfl
theorem c_55_77 : (zm_cd 55)[77]? = some ((125, .aload_n 0, 1, 0, 0, 0, 0, 0, []) : zm_E) := (congrArg (fun l => l[77]?) cd_55).trans rfl
theorem c_55_78 : (zm_cd 55)[78]? = some ((126, .getfield 104, 3, 8, 17, 0, 0, 0, []) : zm_E) := (congrArg (fun l => l[78]?) cd_55).trans rfl
theorem c_55_79 : (zm_cd 55)[79]? = some ((129, .ifCond .ne 20, 3, 89, 0, 0, 0, 0, []) : zm_E) := (congrArg (fun l => l[79]?) cd_55).trans rfl
theorem c_55_80 : (zm_cd 55)[80]? = some ((132, .iload_n 1, 1, 1, 0, 0, 0, 0, []) : zm_E) := (congrArg (fun l => l[80]?) cd_55).trans rfl
theorem c_55_81 : (zm_cd 55)[81]? = some ((133, .iload_n 2, 1, 2, 0, 0, 0, 0, []) : zm_E) := (congrArg (fun l => l[81]?) cd_55).trans rfl
theorem c_55_82 : (zm_cd 55)[82]? = some ((134, .invokestatic 82, 3, 41, 2, 1, 0, 0, []) : zm_E) := (congrArg (fun l => l[82]?) cd_55).trans rfl
theorem c_55_83 : (zm_cd 55)[83]? = some ((137, .ifCond .eq 12, 3, 89, 0, 0, 0, 0, []) : zm_E) := (congrArg (fun l => l[83]?) cd_55).trans rfl
theorem c_55_84 : (zm_cd 55)[84]? = some ((140, .aload_n 0, 1, 0, 0, 0, 0, 0, []) : zm_E) := (congrArg (fun l => l[84]?) cd_55).trans rfl
theorem c_55_85 : (zm_cd 55)[85]? = some ((141, .getfield 41, 3, 8, 13, 1, 0, 0, []) : zm_E) := (congrArg (fun l => l[85]?) cd_55).trans rfl
theorem c_55_86 : (zm_cd 55)[86]? = some ((144, .iload_n 2, 1, 2, 0, 0, 0, 0, []) : zm_E) := (congrArg (fun l => l[86]?) cd_55).trans rfl
theorem c_55_87 : (zm_cd 55)[87]? = some ((145, .iaload, 1, 0, 0, 0, 0, 0, []) : zm_E) := (congrArg (fun l => l[87]?) cd_55).trans rfl
theorem c_55_88 : (zm_cd 55)[88]? = some ((146, .goto 9, 3, 93, 0, 0, 0, 0, []) : zm_E) := (congrArg (fun l => l[88]?) cd_55).trans rfl
theorem c_55_89 : (zm_cd 55)[89]? = some ((149, .aload_n 0, 1, 0, 0, 0, 0, 0, []) : zm_E) := (congrArg (fun l => l[89]?) cd_55).trans rfl
theorem c_55_90 : (zm_cd 55)[90]? = some ((150, .getfield 38, 3, 8, 12, 1, 0, 0, []) : zm_E) := (congrArg (fun l => l[90]?) cd_55).trans rfl
theorem c_55_91 : (zm_cd 55)[91]? = some ((153, .iload_n 2, 1, 2, 0, 0, 0, 0, []) : zm_E) := (congrArg (fun l => l[91]?) cd_55).trans rfl
theorem c_55_92 : (zm_cd 55)[92]? = some ((154, .iaload, 1, 0, 0, 0, 0, 0, []) : zm_E) := (congrArg (fun l => l[92]?) cd_55).trans rfl
theorem c_55_93 : (zm_cd 55)[93]? = some ((155, .iastore, 1, 0, 0, 0, 0, 0, []) : zm_E) := (congrArg (fun l => l[93]?) cd_55).trans rfl
theorem c_55_94 : (zm_cd 55)[94]? = some ((156, .iinc 2 1, 3, 2, 0, 0, 1, 0, []) : zm_E) := (congrArg (fun l => l[94]?) cd_55).trans rfl
theorem c_55_95 : (zm_cd 55)[95]? = some ((159, .goto (-73), 3, 54, 0, 0, 0, 0, []) : zm_E) := (congrArg (fun l => l[95]?) cd_55).trans rfl
theorem c_55_96 : (zm_cd 55)[96]? = some ((162, .iconst 0, 1, 0, 0, 0, 0, 0, []) : zm_E) := (congrArg (fun l => l[96]?) cd_55).trans rfl
theorem c_55_97 : (zm_cd 55)[97]? = some ((163, .istore_n 2, 1, 2, 0, 0, 0, 0, []) : zm_E) := (congrArg (fun l => l[97]?) cd_55).trans rfl
theorem c_55_98 : (zm_cd 55)[98]? = some ((164, .iconst 0, 1, 0, 0, 0, 0, 0, []) : zm_E) := (congrArg (fun l => l[98]?) cd_55).trans rfl
theorem c_55_99 : (zm_cd 55)[99]? = some ((165, .istore_n 3, 1, 3, 0, 0, 0, 0, []) : zm_E) := (congrArg (fun l => l[99]?) cd_55).trans rfl
theorem c_55_100 : (zm_cd 55)[100]? = some ((166, .iload_n 3, 1, 3, 0, 0, 0, 0, []) : zm_E) := (congrArg (fun l => l[100]?) cd_55).trans rfl
theorem c_55_101 : (zm_cd 55)[101]? = some ((167, .aload_n 0, 1, 0, 0, 0, 0, 0, []) : zm_E) := (congrArg (fun l => l[101]?) cd_55).trans rfl
theorem c_55_102 : (zm_cd 55)[102]? = some ((168, .getfield 7, 3, 8, 0, 1, 0, 0, []) : zm_E) := (congrArg (fun l => l[102]?) cd_55).trans rfl
theorem c_55_103 : (zm_cd 55)[103]? = some ((171, .iconst 0, 1, 0, 0, 0, 0, 0, []) : zm_E) := (congrArg (fun l => l[103]?) cd_55).trans rfl
theorem c_55_104 : (zm_cd 55)[104]? = some ((172, .iaload, 1, 0, 0, 0, 0, 0, []) : zm_E) := (congrArg (fun l => l[104]?) cd_55).trans rfl
theorem c_55_105 : (zm_cd 55)[105]? = some ((173, .if_icmp .ge 86, 3, 150, 0, 0, 0, 0, []) : zm_E) := (congrArg (fun l => l[105]?) cd_55).trans rfl
theorem c_55_106 : (zm_cd 55)[106]? = some ((176, .iload_n 1, 1, 1, 0, 0, 0, 0, []) : zm_E) := (congrArg (fun l => l[106]?) cd_55).trans rfl
theorem c_55_107 : (zm_cd 55)[107]? = some ((177, .iload_n 3, 1, 3, 0, 0, 0, 0, []) : zm_E) := (congrArg (fun l => l[107]?) cd_55).trans rfl
theorem c_55_108 : (zm_cd 55)[108]? = some ((178, .invokestatic 82, 3, 41, 2, 1, 0, 0, []) : zm_E) := (congrArg (fun l => l[108]?) cd_55).trans rfl
theorem c_55_109 : (zm_cd 55)[109]? = some ((181, .ifCond .eq 19, 3, 118, 0, 0, 0, 0, []) : zm_E) := (congrArg (fun l => l[109]?) cd_55).trans rfl
theorem c_55_110 : (zm_cd 55)[110]? = some ((184, .iload_n 2, 1, 2, 0, 0, 0, 0, []) : zm_E) := (congrArg (fun l => l[110]?) cd_55).trans rfl
theorem c_55_111 : (zm_cd 55)[111]? = some ((185, .iload_n 3, 1, 3, 0, 0, 0, 0, []) : zm_E) := (congrArg (fun l => l[111]?) cd_55).trans rfl
theorem c_55_112 : (zm_cd 55)[112]? = some ((186, .invokestatic 82, 3, 41, 2, 1, 0, 0, []) : zm_E) := (congrArg (fun l => l[112]?) cd_55).trans rfl
theorem c_55_113 : (zm_cd 55)[113]? = some ((189, .ifCond .ne 11, 3, 118, 0, 0, 0, 0, []) : zm_E) := (congrArg (fun l => l[113]?) cd_55).trans rfl
theorem c_55_114 : (zm_cd 55)[114]? = some ((192, .aload_n 0, 1, 0, 0, 0, 0, 0, []) : zm_E) := (congrArg (fun l => l[114]?) cd_55).trans rfl
theorem c_55_115 : (zm_cd 55)[115]? = some ((193, .iload_n 3, 1, 3, 0, 0, 0, 0, []) : zm_E) := (congrArg (fun l => l[115]?) cd_55).trans rfl
theorem c_55_116 : (zm_cd 55)[116]? = some ((194, .invokevirtual 110, 3, 54, 1, 1, 0, 0, [8]) : zm_E) := (congrArg (fun l => l[116]?) cd_55).trans rfl
theorem c_55_117 : (zm_cd 55)[117]? = some ((197, .goto 4, 3, 119, 0, 0, 0, 0, []) : zm_E) := (congrArg (fun l => l[117]?) cd_55).trans rfl
theorem c_55_118 : (zm_cd 55)[118]? = some ((200, .iconst 0, 1, 0, 0, 0, 0, 0, []) : zm_E) := (congrArg (fun l => l[118]?) cd_55).trans rfl
theorem c_55_119 : (zm_cd 55)[119]? = some ((201, .istore 4, 2, 4, 0, 0, 0, 0, []) : zm_E) := (congrArg (fun l => l[119]?) cd_55).trans rfl
theorem c_55_120 : (zm_cd 55)[120]? = some ((203, .iload 4, 2, 4, 0, 0, 0, 0, []) : zm_E) := (congrArg (fun l => l[120]?) cd_55).trans rfl
theorem c_55_121 : (zm_cd 55)[121]? = some ((205, .ifCond .eq 48, 3, 148, 0, 0, 0, 0, []) : zm_E) := (congrArg (fun l => l[121]?) cd_55).trans rfl
theorem c_55_122 : (zm_cd 55)[122]? = some ((208, .aload_n 0, 1, 0, 0, 0, 0, 0, []) : zm_E) := (congrArg (fun l => l[122]?) cd_55).trans rfl
theorem c_55_123 : (zm_cd 55)[123]? = some ((209, .getfield 44, 3, 8, 14, 1, 0, 0, []) : zm_E) := (congrArg (fun l => l[123]?) cd_55).trans rfl
theorem c_55_124 : (zm_cd 55)[124]? = some ((212, .aload_n 0, 1, 0, 0, 0, 0, 0, []) : zm_E) := (congrArg (fun l => l[124]?) cd_55).trans rfl
theorem c_55_125 : (zm_cd 55)[125]? = some ((213, .getfield 101, 3, 8, 16, 0, 0, 0, []) : zm_E) := (congrArg (fun l => l[125]?) cd_55).trans rfl
theorem c_55_126 : (zm_cd 55)[126]? = some ((216, .iload 4, 2, 4, 0, 0, 0, 0, []) : zm_E) := (congrArg (fun l => l[126]?) cd_55).trans rfl
theorem c_55_127 : (zm_cd 55)[127]? = some ((218, .iastore, 1, 0, 0, 0, 0, 0, []) : zm_E) := (congrArg (fun l => l[127]?) cd_55).trans rfl
theorem c_55_128 : (zm_cd 55)[128]? = some ((219, .aload_n 0, 1, 0, 0, 0, 0, 0, []) : zm_E) := (congrArg (fun l => l[128]?) cd_55).trans rfl
theorem c_55_129 : (zm_cd 55)[129]? = some ((220, .getfield 47, 3, 8, 15, 1, 0, 0, []) : zm_E) := (congrArg (fun l => l[129]?) cd_55).trans rfl
theorem c_55_130 : (zm_cd 55)[130]? = some ((223, .aload_n 0, 1, 0, 0, 0, 0, 0, []) : zm_E) := (congrArg (fun l => l[130]?) cd_55).trans rfl
theorem c_55_131 : (zm_cd 55)[131]? = some ((224, .getfield 101, 3, 8, 16, 0, 0, 0, []) : zm_E) := (congrArg (fun l => l[131]?) cd_55).trans rfl
theorem c_55_132 : (zm_cd 55)[132]? = some ((227, .aload_n 0, 1, 0, 0, 0, 0, 0, []) : zm_E) := (congrArg (fun l => l[132]?) cd_55).trans rfl
theorem c_55_133 : (zm_cd 55)[133]? = some ((228, .getfield 104, 3, 8, 17, 0, 0, 0, []) : zm_E) := (congrArg (fun l => l[133]?) cd_55).trans rfl
theorem c_55_134 : (zm_cd 55)[134]? = some ((231, .iastore, 1, 0, 0, 0, 0, 0, []) : zm_E) := (congrArg (fun l => l[134]?) cd_55).trans rfl
theorem c_55_135 : (zm_cd 55)[135]? = some ((232, .aload_n 0, 1, 0, 0, 0, 0, 0, []) : zm_E) := (congrArg (fun l => l[135]?) cd_55).trans rfl
theorem c_55_136 : (zm_cd 55)[136]? = some ((233, .iload 4, 2, 4, 0, 0, 0, 0, []) : zm_E) := (congrArg (fun l => l[136]?) cd_55).trans rfl
theorem c_55_137 : (zm_cd 55)[137]? = some ((235, .invokevirtual 113, 3, 56, 1, 0, 0, 0, [8]) : zm_E) := (congrArg (fun l => l[137]?) cd_55).trans rfl
theorem c_55_138 : (zm_cd 55)[138]? = some ((238, .iload_n 2, 1, 2, 0, 0, 0, 0, []) : zm_E) := (congrArg (fun l => l[138]?) cd_55).trans rfl
theorem c_55_139 : (zm_cd 55)[139]? = some ((239, .iload 4, 2, 4, 0, 0, 0, 0, []) : zm_E) := (congrArg (fun l => l[139]?) cd_55).trans rfl
theorem c_55_140 : (zm_cd 55)[140]? = some ((241, .ior, 1, 0, 0, 0, 0, 0, []) : zm_E) := (congrArg (fun l => l[140]?) cd_55).trans rfl
theorem c_55_141 : (zm_cd 55)[141]? = some ((242, .istore_n 2, 1, 2, 0, 0, 0, 0, []) : zm_E) := (congrArg (fun l => l[141]?) cd_55).trans rfl
theorem c_55_142 : (zm_cd 55)[142]? = some ((243, .aload_n 0, 1, 0, 0, 0, 0, 0, []) : zm_E) := (congrArg (fun l => l[142]?) cd_55).trans rfl
theorem c_55_143 : (zm_cd 55)[143]? = some ((244, .dup, 1, 0, 0, 0, 0, 0, []) : zm_E) := (congrArg (fun l => l[143]?) cd_55).trans rfl
theorem c_55_144 : (zm_cd 55)[144]? = some ((245, .getfield 101, 3, 8, 16, 0, 0, 0, []) : zm_E) := (congrArg (fun l => l[144]?) cd_55).trans rfl
theorem c_55_145 : (zm_cd 55)[145]? = some ((248, .iconst 1, 1, 0, 0, 0, 1, 0, []) : zm_E) := (congrArg (fun l => l[145]?) cd_55).trans rfl
theorem c_55_146 : (zm_cd 55)[146]? = some ((249, .iadd, 1, 0, 0, 0, 0, 0, []) : zm_E) := (congrArg (fun l => l[146]?) cd_55).trans rfl
theorem c_55_147 : (zm_cd 55)[147]? = some ((250, .putfield 101, 3, 8, 16, 0, 0, 0, []) : zm_E) := (congrArg (fun l => l[147]?) cd_55).trans rfl
theorem c_55_148 : (zm_cd 55)[148]? = some ((253, .iinc 3 1, 3, 3, 0, 0, 1, 0, []) : zm_E) := (congrArg (fun l => l[148]?) cd_55).trans rfl
theorem c_55_149 : (zm_cd 55)[149]? = some ((256, .goto (-90), 3, 100, 0, 0, 0, 0, []) : zm_E) := (congrArg (fun l => l[149]?) cd_55).trans rfl
theorem c_55_150 : (zm_cd 55)[150]? = some ((259, .iload_n 1, 1, 1, 0, 0, 0, 0, []) : zm_E) := (congrArg (fun l => l[150]?) cd_55).trans rfl
theorem c_55_151 : (zm_cd 55)[151]? = some ((260, .iload_n 2, 1, 2, 0, 0, 0, 0, []) : zm_E) := (congrArg (fun l => l[151]?) cd_55).trans rfl
theorem c_55_152 : (zm_cd 55)[152]? = some ((261, .iconst (-1), 1, 0, 0, 0, (-1), 0, []) : zm_E) := (congrArg (fun l => l[152]?) cd_55).trans rfl
theorem c_55_153 : (zm_cd 55)[153]? = some ((262, .ixor, 1, 0, 0, 0, 0, 0, []) : zm_E) := (congrArg (fun l => l[153]?) cd_55).trans rfl
theorem c_55_154 : (zm_cd 55)[154]? = some ((263, .iand, 1, 0, 0, 0, 0, 0, []) : zm_E) := (congrArg (fun l => l[154]?) cd_55).trans rfl
theorem c_55_155 : (zm_cd 55)[155]? = some ((264, .istore_n 1, 1, 1, 0, 0, 0, 0, []) : zm_E) := (congrArg (fun l => l[155]?) cd_55).trans rfl
theorem c_55_156 : (zm_cd 55)[156]? = some ((265, .aload_n 0, 1, 0, 0, 0, 0, 0, []) : zm_E) := (congrArg (fun l => l[156]?) cd_55).trans rfl
theorem c_55_157 : (zm_cd 55)[157]? = some ((266, .dup, 1, 0, 0, 0, 0, 0, []) : zm_E) := (congrArg (fun l => l[157]?) cd_55).trans rfl
theorem c_55_158 : (zm_cd 55)[158]? = some ((267, .getfield 104, 3, 8, 17, 0, 0, 0, []) : zm_E) := (congrArg (fun l => l[158]?) cd_55).trans rfl
theorem c_55_159 : (zm_cd 55)[159]? = some ((270, .iconst 1, 1, 0, 0, 0, 1, 0, []) : zm_E) := (congrArg (fun l => l[159]?) cd_55).trans rfl
theorem c_55_160 : (zm_cd 55)[160]? = some ((271, .iadd, 1, 0, 0, 0, 0, 0, []) : zm_E) := (congrArg (fun l => l[160]?) cd_55).trans rfl
theorem c_55_161 : (zm_cd 55)[161]? = some ((272, .putfield 104, 3, 8, 17, 0, 0, 0, []) : zm_E) := (congrArg (fun l => l[161]?) cd_55).trans rfl
theorem c_55_162 : (zm_cd 55)[162]? = some ((275, .goto (-195), 3, 50, 0, 0, 0, 0, []) : zm_E) := (congrArg (fun l => l[162]?) cd_55).trans rfl
theorem c_55_163 : (zm_cd 55)[163]? = some ((278, .return_, 1, 0, 0, 0, 0, 0, []) : zm_E) := (congrArg (fun l => l[163]?) cd_55).trans rfl
