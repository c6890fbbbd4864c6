/-! the instructions, by program, part 0 -/
theorem cd_5 : zm_cd 5 = zd_5 := rfl
theorem ml_5 : zm_ml 5 = 2 := rfl
theorem ht_5 : zm_ht 5 = [] := rfl
theorem c_5_0 : (zm_cd 5)[0]? = some ((0, .iload_n 1, 1, 1, 0, 0, 0, 0, []) : zm_E) := (congrArg (fun l => l[0]?) cd_5).trans rfl
theorem c_5_1 : (zm_cd 5)[1]? = some ((1, .tableswitch 115 0 7 #[47, 55, 63, 71, 79, 87, 95, 107], 47, 36, 0, 0, 0, 0, [2, 6, 10, 14, 18, 22, 26, 32]) : zm_E) := (congrArg (fun l => l[1]?) cd_5).trans rfl
theorem c_5_2 : (zm_cd 5)[2]? = some ((48, .aload_n 0, 1, 0, 0, 0, 0, 0, []) : zm_E) := (congrArg (fun l => l[2]?) cd_5).trans rfl
theorem c_5_3 : (zm_cd 5)[3]? = some ((49, .getfield 19, 3, 7, 1, 1, 0, 0, []) : zm_E) := (congrArg (fun l => l[3]?) cd_5).trans rfl
theorem c_5_4 : (zm_cd 5)[4]? = some ((52, .getfield 118, 3, 1, 0, 0, 0, 0, []) : zm_E) := (congrArg (fun l => l[4]?) cd_5).trans rfl
theorem c_5_5 : (zm_cd 5)[5]? = some ((55, .ireturn, 1, 0, 0, 0, 0, 0, []) : zm_E) := (congrArg (fun l => l[5]?) cd_5).trans rfl
theorem c_5_6 : (zm_cd 5)[6]? = some ((56, .aload_n 0, 1, 0, 0, 0, 0, 0, []) : zm_E) := (congrArg (fun l => l[6]?) cd_5).trans rfl
theorem c_5_7 : (zm_cd 5)[7]? = some ((57, .getfield 19, 3, 7, 1, 1, 0, 0, []) : zm_E) := (congrArg (fun l => l[7]?) cd_5).trans rfl
theorem c_5_8 : (zm_cd 5)[8]? = some ((60, .invokevirtual 114, 3, 120, 0, 1, 0, 0, [1]) : zm_E) := (congrArg (fun l => l[8]?) cd_5).trans rfl
theorem c_5_9 : (zm_cd 5)[9]? = some ((63, .ireturn, 1, 0, 0, 0, 0, 0, []) : zm_E) := (congrArg (fun l => l[9]?) cd_5).trans rfl
theorem c_5_10 : (zm_cd 5)[10]? = some ((64, .aload_n 0, 1, 0, 0, 0, 0, 0, []) : zm_E) := (congrArg (fun l => l[10]?) cd_5).trans rfl
theorem c_5_11 : (zm_cd 5)[11]? = some ((65, .getfield 19, 3, 7, 1, 1, 0, 0, []) : zm_E) := (congrArg (fun l => l[11]?) cd_5).trans rfl
theorem c_5_12 : (zm_cd 5)[12]? = some ((68, .invokevirtual 121, 3, 127, 0, 1, 0, 0, [1]) : zm_E) := (congrArg (fun l => l[12]?) cd_5).trans rfl
theorem c_5_13 : (zm_cd 5)[13]? = some ((71, .ireturn, 1, 0, 0, 0, 0, 0, []) : zm_E) := (congrArg (fun l => l[13]?) cd_5).trans rfl
theorem c_5_14 : (zm_cd 5)[14]? = some ((72, .aload_n 0, 1, 0, 0, 0, 0, 0, []) : zm_E) := (congrArg (fun l => l[14]?) cd_5).trans rfl
theorem c_5_15 : (zm_cd 5)[15]? = some ((73, .getfield 19, 3, 7, 1, 1, 0, 0, []) : zm_E) := (congrArg (fun l => l[15]?) cd_5).trans rfl
theorem c_5_16 : (zm_cd 5)[16]? = some ((76, .invokevirtual 124, 3, 128, 0, 1, 0, 0, [1]) : zm_E) := (congrArg (fun l => l[16]?) cd_5).trans rfl
theorem c_5_17 : (zm_cd 5)[17]? = some ((79, .ireturn, 1, 0, 0, 0, 0, 0, []) : zm_E) := (congrArg (fun l => l[17]?) cd_5).trans rfl
theorem c_5_18 : (zm_cd 5)[18]? = some ((80, .aload_n 0, 1, 0, 0, 0, 0, 0, []) : zm_E) := (congrArg (fun l => l[18]?) cd_5).trans rfl
theorem c_5_19 : (zm_cd 5)[19]? = some ((81, .invokevirtual 127, 3, 30, 0, 2, 0, 0, [7]) : zm_E) := (congrArg (fun l => l[19]?) cd_5).trans rfl
theorem c_5_20 : (zm_cd 5)[20]? = some ((84, .getfield 131, 3, 6, 0, 0, 0, 0, []) : zm_E) := (congrArg (fun l => l[20]?) cd_5).trans rfl
theorem c_5_21 : (zm_cd 5)[21]? = some ((87, .ireturn, 1, 0, 0, 0, 0, 0, []) : zm_E) := (congrArg (fun l => l[21]?) cd_5).trans rfl
theorem c_5_22 : (zm_cd 5)[22]? = some ((88, .aload_n 0, 1, 0, 0, 0, 0, 0, []) : zm_E) := (congrArg (fun l => l[22]?) cd_5).trans rfl
theorem c_5_23 : (zm_cd 5)[23]? = some ((89, .invokevirtual 127, 3, 30, 0, 2, 0, 0, [7]) : zm_E) := (congrArg (fun l => l[23]?) cd_5).trans rfl
theorem c_5_24 : (zm_cd 5)[24]? = some ((92, .getfield 134, 3, 6, 1, 0, 0, 0, []) : zm_E) := (congrArg (fun l => l[24]?) cd_5).trans rfl
theorem c_5_25 : (zm_cd 5)[25]? = some ((95, .ireturn, 1, 0, 0, 0, 0, 0, []) : zm_E) := (congrArg (fun l => l[25]?) cd_5).trans rfl
theorem c_5_26 : (zm_cd 5)[26]? = some ((96, .aload_n 0, 1, 0, 0, 0, 0, 0, []) : zm_E) := (congrArg (fun l => l[26]?) cd_5).trans rfl
theorem c_5_27 : (zm_cd 5)[27]? = some ((97, .invokevirtual 127, 3, 30, 0, 2, 0, 0, [7]) : zm_E) := (congrArg (fun l => l[27]?) cd_5).trans rfl
theorem c_5_28 : (zm_cd 5)[28]? = some ((100, .aload_n 0, 1, 0, 0, 0, 0, 0, []) : zm_E) := (congrArg (fun l => l[28]?) cd_5).trans rfl
theorem c_5_29 : (zm_cd 5)[29]? = some ((101, .getfield 19, 3, 7, 1, 1, 0, 0, []) : zm_E) := (congrArg (fun l => l[29]?) cd_5).trans rfl
theorem c_5_30 : (zm_cd 5)[30]? = some ((104, .invokevirtual 137, 3, 177, 1, 1, 0, 0, [6]) : zm_E) := (congrArg (fun l => l[30]?) cd_5).trans rfl
theorem c_5_31 : (zm_cd 5)[31]? = some ((107, .ireturn, 1, 0, 0, 0, 0, 0, []) : zm_E) := (congrArg (fun l => l[31]?) cd_5).trans rfl
theorem c_5_32 : (zm_cd 5)[32]? = some ((108, .aload_n 0, 1, 0, 0, 0, 0, 0, []) : zm_E) := (congrArg (fun l => l[32]?) cd_5).trans rfl
theorem c_5_33 : (zm_cd 5)[33]? = some ((109, .getfield 19, 3, 7, 1, 1, 0, 0, []) : zm_E) := (congrArg (fun l => l[33]?) cd_5).trans rfl
theorem c_5_34 : (zm_cd 5)[34]? = some ((112, .invokevirtual 140, 3, 129, 0, 1, 0, 0, [1]) : zm_E) := (congrArg (fun l => l[34]?) cd_5).trans rfl
theorem c_5_35 : (zm_cd 5)[35]? = some ((115, .ireturn, 1, 0, 0, 0, 0, 0, []) : zm_E) := (congrArg (fun l => l[35]?) cd_5).trans rfl
theorem c_5_36 : (zm_cd 5)[36]? = some ((116, .new 74, 3, 0, 0, 1, 0, 0, [143, 78, 0, 0]) : zm_E) := (congrArg (fun l => l[36]?) cd_5).trans rfl
theorem c_5_37 : (zm_cd 5)[37]? = some ((119, .dup, 1, 0, 0, 0, 0, 0, []) : zm_E) := (congrArg (fun l => l[37]?) cd_5).trans rfl
theorem c_5_38 : (zm_cd 5)[38]? = some ((120, .ldc 143, 2, 0, 0, 1, 0, 0, []) : zm_E) := (congrArg (fun l => l[38]?) cd_5).trans rfl
theorem c_5_39 : (zm_cd 5)[39]? = some ((122, .invokespecial 78, 3, 1002, 1, 0, 0, 0, []) : zm_E) := (congrArg (fun l => l[39]?) cd_5).trans rfl
theorem c_5_40 : (zm_cd 5)[40]? = some ((125, .athrow, 1, 0, 0, 0, 0, 0, []) : zm_E) := (congrArg (fun l => l[40]?) cd_5).trans rfl
theorem cd_6 : zm_cd 6 = zd_6 := rfl
theorem ml_6 : zm_ml 6 = 3 := rfl
theorem ht_6 : zm_ht 6 = [] := rfl
theorem c_6_0 : (zm_cd 6)[0]? = some ((0, .aload_n 0, 1, 0, 0, 0, 0, 0, []) : zm_E) := (congrArg (fun l => l[0]?) cd_6).trans rfl
theorem c_6_1 : (zm_cd 6)[1]? = some ((1, .iload_n 1, 1, 1, 0, 0, 0, 0, []) : zm_E) := (congrArg (fun l => l[1]?) cd_6).trans rfl
theorem c_6_2 : (zm_cd 6)[2]? = some ((2, .invokevirtual 145, 3, 31, 1, 0, 0, 0, [7]) : zm_E) := (congrArg (fun l => l[2]?) cd_6).trans rfl
theorem c_6_3 : (zm_cd 6)[3]? = some ((5, .iload_n 2, 1, 2, 0, 0, 0, 0, []) : zm_E) := (congrArg (fun l => l[3]?) cd_6).trans rfl
theorem c_6_4 : (zm_cd 6)[4]? = some ((6, .tableswitch 128 0 6 #[42, 54, 63, 80, 92, 104, 116], 42, 49, 0, 0, 0, 0, [5, 11, 16, 25, 31, 37, 43]) : zm_E) := (congrArg (fun l => l[4]?) cd_6).trans rfl
theorem c_6_5 : (zm_cd 6)[5]? = some ((48, .aload_n 0, 1, 0, 0, 0, 0, 0, []) : zm_E) := (congrArg (fun l => l[5]?) cd_6).trans rfl
theorem c_6_6 : (zm_cd 6)[6]? = some ((49, .getfield 19, 3, 7, 1, 1, 0, 0, []) : zm_E) := (congrArg (fun l => l[6]?) cd_6).trans rfl
theorem c_6_7 : (zm_cd 6)[7]? = some ((52, .getfield 148, 3, 1, 3, 1, 0, 0, []) : zm_E) := (congrArg (fun l => l[7]?) cd_6).trans rfl
theorem c_6_8 : (zm_cd 6)[8]? = some ((55, .iload_n 1, 1, 1, 0, 0, 0, 0, []) : zm_E) := (congrArg (fun l => l[8]?) cd_6).trans rfl
theorem c_6_9 : (zm_cd 6)[9]? = some ((56, .invokestatic 152, 3, 209, 2, 1, 0, 0, []) : zm_E) := (congrArg (fun l => l[9]?) cd_6).trans rfl
theorem c_6_10 : (zm_cd 6)[10]? = some ((59, .ireturn, 1, 0, 0, 0, 0, 0, []) : zm_E) := (congrArg (fun l => l[10]?) cd_6).trans rfl
theorem c_6_11 : (zm_cd 6)[11]? = some ((60, .aload_n 0, 1, 0, 0, 0, 0, 0, []) : zm_E) := (congrArg (fun l => l[11]?) cd_6).trans rfl
theorem c_6_12 : (zm_cd 6)[12]? = some ((61, .getfield 19, 3, 7, 1, 1, 0, 0, []) : zm_E) := (congrArg (fun l => l[12]?) cd_6).trans rfl
theorem c_6_13 : (zm_cd 6)[13]? = some ((64, .iload_n 1, 1, 1, 0, 0, 0, 0, []) : zm_E) := (congrArg (fun l => l[13]?) cd_6).trans rfl
theorem c_6_14 : (zm_cd 6)[14]? = some ((65, .invokevirtual 156, 3, 122, 1, 1, 0, 0, [1]) : zm_E) := (congrArg (fun l => l[14]?) cd_6).trans rfl
theorem c_6_15 : (zm_cd 6)[15]? = some ((68, .ireturn, 1, 0, 0, 0, 0, 0, []) : zm_E) := (congrArg (fun l => l[15]?) cd_6).trans rfl
theorem c_6_16 : (zm_cd 6)[16]? = some ((69, .aload_n 0, 1, 0, 0, 0, 0, 0, []) : zm_E) := (congrArg (fun l => l[16]?) cd_6).trans rfl
theorem c_6_17 : (zm_cd 6)[17]? = some ((70, .getfield 19, 3, 7, 1, 1, 0, 0, []) : zm_E) := (congrArg (fun l => l[17]?) cd_6).trans rfl
theorem c_6_18 : (zm_cd 6)[18]? = some ((73, .iload_n 1, 1, 1, 0, 0, 0, 0, []) : zm_E) := (congrArg (fun l => l[18]?) cd_6).trans rfl
theorem c_6_19 : (zm_cd 6)[19]? = some ((74, .invokevirtual 160, 3, 119, 1, 1, 0, 0, [1]) : zm_E) := (congrArg (fun l => l[19]?) cd_6).trans rfl
theorem c_6_20 : (zm_cd 6)[20]? = some ((77, .ifCond .eq 7, 3, 23, 0, 0, 0, 0, []) : zm_E) := (congrArg (fun l => l[20]?) cd_6).trans rfl
theorem c_6_21 : (zm_cd 6)[21]? = some ((80, .iconst 1, 1, 0, 0, 0, 1, 0, []) : zm_E) := (congrArg (fun l => l[21]?) cd_6).trans rfl
theorem c_6_22 : (zm_cd 6)[22]? = some ((81, .goto 4, 3, 24, 0, 0, 0, 0, []) : zm_E) := (congrArg (fun l => l[22]?) cd_6).trans rfl
theorem c_6_23 : (zm_cd 6)[23]? = some ((84, .iconst 0, 1, 0, 0, 0, 0, 0, []) : zm_E) := (congrArg (fun l => l[23]?) cd_6).trans rfl
theorem c_6_24 : (zm_cd 6)[24]? = some ((85, .ireturn, 1, 0, 0, 0, 0, 0, []) : zm_E) := (congrArg (fun l => l[24]?) cd_6).trans rfl
theorem c_6_25 : (zm_cd 6)[25]? = some ((86, .aload_n 0, 1, 0, 0, 0, 0, 0, []) : zm_E) := (congrArg (fun l => l[25]?) cd_6).trans rfl
theorem c_6_26 : (zm_cd 6)[26]? = some ((87, .invokevirtual 127, 3, 30, 0, 2, 0, 0, [7]) : zm_E) := (congrArg (fun l => l[26]?) cd_6).trans rfl
theorem c_6_27 : (zm_cd 6)[27]? = some ((90, .getfield 164, 3, 6, 2, 1, 0, 0, []) : zm_E) := (congrArg (fun l => l[27]?) cd_6).trans rfl
theorem c_6_28 : (zm_cd 6)[28]? = some ((93, .iload_n 1, 1, 1, 0, 0, 0, 0, []) : zm_E) := (congrArg (fun l => l[28]?) cd_6).trans rfl
theorem c_6_29 : (zm_cd 6)[29]? = some ((94, .invokestatic 152, 3, 209, 2, 1, 0, 0, []) : zm_E) := (congrArg (fun l => l[29]?) cd_6).trans rfl
theorem c_6_30 : (zm_cd 6)[30]? = some ((97, .ireturn, 1, 0, 0, 0, 0, 0, []) : zm_E) := (congrArg (fun l => l[30]?) cd_6).trans rfl
theorem c_6_31 : (zm_cd 6)[31]? = some ((98, .aload_n 0, 1, 0, 0, 0, 0, 0, []) : zm_E) := (congrArg (fun l => l[31]?) cd_6).trans rfl
theorem c_6_32 : (zm_cd 6)[32]? = some ((99, .invokevirtual 127, 3, 30, 0, 2, 0, 0, [7]) : zm_E) := (congrArg (fun l => l[32]?) cd_6).trans rfl
theorem c_6_33 : (zm_cd 6)[33]? = some ((102, .getfield 167, 3, 6, 3, 1, 0, 0, []) : zm_E) := (congrArg (fun l => l[33]?) cd_6).trans rfl
theorem c_6_34 : (zm_cd 6)[34]? = some ((105, .iload_n 1, 1, 1, 0, 0, 0, 0, []) : zm_E) := (congrArg (fun l => l[34]?) cd_6).trans rfl
theorem c_6_35 : (zm_cd 6)[35]? = some ((106, .invokestatic 152, 3, 209, 2, 1, 0, 0, []) : zm_E) := (congrArg (fun l => l[35]?) cd_6).trans rfl
theorem c_6_36 : (zm_cd 6)[36]? = some ((109, .ireturn, 1, 0, 0, 0, 0, 0, []) : zm_E) := (congrArg (fun l => l[36]?) cd_6).trans rfl
theorem c_6_37 : (zm_cd 6)[37]? = some ((110, .aload_n 0, 1, 0, 0, 0, 0, 0, []) : zm_E) := (congrArg (fun l => l[37]?) cd_6).trans rfl
theorem c_6_38 : (zm_cd 6)[38]? = some ((111, .invokevirtual 127, 3, 30, 0, 2, 0, 0, [7]) : zm_E) := (congrArg (fun l => l[38]?) cd_6).trans rfl
theorem c_6_39 : (zm_cd 6)[39]? = some ((114, .getfield 170, 3, 6, 4, 1, 0, 0, []) : zm_E) := (congrArg (fun l => l[39]?) cd_6).trans rfl
theorem c_6_40 : (zm_cd 6)[40]? = some ((117, .iload_n 1, 1, 1, 0, 0, 0, 0, []) : zm_E) := (congrArg (fun l => l[40]?) cd_6).trans rfl
theorem c_6_41 : (zm_cd 6)[41]? = some ((118, .invokestatic 152, 3, 209, 2, 1, 0, 0, []) : zm_E) := (congrArg (fun l => l[41]?) cd_6).trans rfl
theorem c_6_42 : (zm_cd 6)[42]? = some ((121, .ireturn, 1, 0, 0, 0, 0, 0, []) : zm_E) := (congrArg (fun l => l[42]?) cd_6).trans rfl
theorem c_6_43 : (zm_cd 6)[43]? = some ((122, .aload_n 0, 1, 0, 0, 0, 0, 0, []) : zm_E) := (congrArg (fun l => l[43]?) cd_6).trans rfl
theorem c_6_44 : (zm_cd 6)[44]? = some ((123, .invokevirtual 127, 3, 30, 0, 2, 0, 0, [7]) : zm_E) := (congrArg (fun l => l[44]?) cd_6).trans rfl
theorem c_6_45 : (zm_cd 6)[45]? = some ((126, .getfield 173, 3, 6, 5, 1, 0, 0, []) : zm_E) := (congrArg (fun l => l[45]?) cd_6).trans rfl
theorem c_6_46 : (zm_cd 6)[46]? = some ((129, .iload_n 1, 1, 1, 0, 0, 0, 0, []) : zm_E) := (congrArg (fun l => l[46]?) cd_6).trans rfl
theorem c_6_47 : (zm_cd 6)[47]? = some ((130, .invokestatic 152, 3, 209, 2, 1, 0, 0, []) : zm_E) := (congrArg (fun l => l[47]?) cd_6).trans rfl
theorem c_6_48 : (zm_cd 6)[48]? = some ((133, .ireturn, 1, 0, 0, 0, 0, 0, []) : zm_E) := (congrArg (fun l => l[48]?) cd_6).trans rfl
theorem c_6_49 : (zm_cd 6)[49]? = some ((134, .new 74, 3, 0, 0, 1, 0, 0, [176, 78, 0, 8]) : zm_E) := (congrArg (fun l => l[49]?) cd_6).trans rfl
theorem c_6_50 : (zm_cd 6)[50]? = some ((137, .dup, 1, 0, 0, 0, 0, 0, []) : zm_E) := (congrArg (fun l => l[50]?) cd_6).trans rfl
theorem c_6_51 : (zm_cd 6)[51]? = some ((138, .ldc 176, 2, 0, 0, 1, 0, 0, []) : zm_E) := (congrArg (fun l => l[51]?) cd_6).trans rfl
theorem c_6_52 : (zm_cd 6)[52]? = some ((140, .invokespecial 78, 3, 1002, 1, 0, 0, 0, []) : zm_E) := (congrArg (fun l => l[52]?) cd_6).trans rfl
theorem c_6_53 : (zm_cd 6)[53]? = some ((143, .athrow, 1, 0, 0, 0, 0, 0, []) : zm_E) := (congrArg (fun l => l[53]?) cd_6).trans rfl
theorem cd_7 : zm_cd 7 = zd_7 := rfl
theorem ml_7 : zm_ml 7 = 3 := rfl
theorem ht_7 : zm_ht 7 = [] := rfl
theorem c_7_0 : (zm_cd 7)[0]? = some ((0, .aload_n 0, 1, 0, 0, 0, 0, 0, []) : zm_E) := (congrArg (fun l => l[0]?) cd_7).trans rfl
theorem c_7_1 : (zm_cd 7)[1]? = some ((1, .iload_n 1, 1, 1, 0, 0, 0, 0, []) : zm_E) := (congrArg (fun l => l[1]?) cd_7).trans rfl
theorem c_7_2 : (zm_cd 7)[2]? = some ((2, .invokevirtual 145, 3, 31, 1, 0, 0, 0, [7]) : zm_E) := (congrArg (fun l => l[2]?) cd_7).trans rfl
theorem c_7_3 : (zm_cd 7)[3]? = some ((5, .aload_n 0, 1, 0, 0, 0, 0, 0, []) : zm_E) := (congrArg (fun l => l[3]?) cd_7).trans rfl
theorem c_7_4 : (zm_cd 7)[4]? = some ((6, .iload_n 2, 1, 2, 0, 0, 0, 0, []) : zm_E) := (congrArg (fun l => l[4]?) cd_7).trans rfl
theorem c_7_5 : (zm_cd 7)[5]? = some ((7, .invokevirtual 178, 3, 32, 1, 0, 0, 0, [7]) : zm_E) := (congrArg (fun l => l[5]?) cd_7).trans rfl
theorem c_7_6 : (zm_cd 7)[6]? = some ((10, .aload_n 0, 1, 0, 0, 0, 0, 0, []) : zm_E) := (congrArg (fun l => l[6]?) cd_7).trans rfl
theorem c_7_7 : (zm_cd 7)[7]? = some ((11, .getfield 19, 3, 7, 1, 1, 0, 0, []) : zm_E) := (congrArg (fun l => l[7]?) cd_7).trans rfl
theorem c_7_8 : (zm_cd 7)[8]? = some ((14, .iload_n 1, 1, 1, 0, 0, 0, 0, []) : zm_E) := (congrArg (fun l => l[8]?) cd_7).trans rfl
theorem c_7_9 : (zm_cd 7)[9]? = some ((15, .iload_n 2, 1, 2, 0, 0, 0, 0, []) : zm_E) := (congrArg (fun l => l[9]?) cd_7).trans rfl
theorem c_7_10 : (zm_cd 7)[10]? = some ((16, .invokevirtual 181, 3, 121, 2, 1, 0, 0, [1]) : zm_E) := (congrArg (fun l => l[10]?) cd_7).trans rfl
theorem c_7_11 : (zm_cd 7)[11]? = some ((19, .ireturn, 1, 0, 0, 0, 0, 0, []) : zm_E) := (congrArg (fun l => l[11]?) cd_7).trans rfl
theorem cd_8 : zm_cd 8 = zd_8 := rfl
theorem ml_8 : zm_ml 8 = 2 := rfl
theorem ht_8 : zm_ht 8 = [] := rfl
theorem c_8_0 : (zm_cd 8)[0]? = some ((0, .aload_n 0, 1, 0, 0, 0, 0, 0, []) : zm_E) := (congrArg (fun l => l[0]?) cd_8).trans rfl
theorem c_8_1 : (zm_cd 8)[1]? = some ((1, .iload_n 1, 1, 1, 0, 0, 0, 0, []) : zm_E) := (congrArg (fun l => l[1]?) cd_8).trans rfl
theorem c_8_2 : (zm_cd 8)[2]? = some ((2, .invokevirtual 178, 3, 32, 1, 0, 0, 0, [7]) : zm_E) := (congrArg (fun l => l[2]?) cd_8).trans rfl
theorem c_8_3 : (zm_cd 8)[3]? = some ((5, .aload_n 0, 1, 0, 0, 0, 0, 0, []) : zm_E) := (congrArg (fun l => l[3]?) cd_8).trans rfl
theorem c_8_4 : (zm_cd 8)[4]? = some ((6, .getfield 19, 3, 7, 1, 1, 0, 0, []) : zm_E) := (congrArg (fun l => l[4]?) cd_8).trans rfl
theorem c_8_5 : (zm_cd 8)[5]? = some ((9, .iload_n 1, 1, 1, 0, 0, 0, 0, []) : zm_E) := (congrArg (fun l => l[5]?) cd_8).trans rfl
theorem c_8_6 : (zm_cd 8)[6]? = some ((10, .invokevirtual 185, 3, 125, 1, 1, 0, 0, [1]) : zm_E) := (congrArg (fun l => l[6]?) cd_8).trans rfl
theorem c_8_7 : (zm_cd 8)[7]? = some ((13, .ireturn, 1, 0, 0, 0, 0, 0, []) : zm_E) := (congrArg (fun l => l[7]?) cd_8).trans rfl
theorem cd_9 : zm_cd 9 = zd_9 := rfl
theorem ml_9 : zm_ml 9 = 4 := rfl
theorem ht_9 : zm_ht 9 = [] := rfl
theorem c_9_0 : (zm_cd 9)[0]? = some ((0, .aload_n 0, 1, 0, 0, 0, 0, 0, []) : zm_E) := (congrArg (fun l => l[0]?) cd_9).trans rfl
theorem c_9_1 : (zm_cd 9)[1]? = some ((1, .invokevirtual 127, 3, 30, 0, 2, 0, 0, [7]) : zm_E) := (congrArg (fun l => l[1]?) cd_9).trans rfl
theorem c_9_2 : (zm_cd 9)[2]? = some ((4, .astore_n 3, 1, 3, 0, 0, 0, 0, []) : zm_E) := (congrArg (fun l => l[2]?) cd_9).trans rfl
theorem c_9_3 : (zm_cd 9)[3]? = some ((5, .aload_n 3, 1, 3, 0, 0, 0, 0, []) : zm_E) := (congrArg (fun l => l[3]?) cd_9).trans rfl
theorem c_9_4 : (zm_cd 9)[4]? = some ((6, .iload_n 1, 1, 1, 0, 0, 0, 0, []) : zm_E) := (congrArg (fun l => l[4]?) cd_9).trans rfl
theorem c_9_5 : (zm_cd 9)[5]? = some ((7, .invokestatic 188, 3, 34, 2, 0, 0, 0, []) : zm_E) := (congrArg (fun l => l[5]?) cd_9).trans rfl
theorem c_9_6 : (zm_cd 9)[6]? = some ((10, .iload_n 2, 1, 2, 0, 0, 0, 0, []) : zm_E) := (congrArg (fun l => l[6]?) cd_9).trans rfl
theorem c_9_7 : (zm_cd 9)[7]? = some ((11, .tableswitch 69 0 3 #[29, 38, 50, 59], 29, 30, 0, 0, 0, 0, [8, 13, 19, 24]) : zm_E) := (congrArg (fun l => l[7]?) cd_9).trans rfl
theorem c_9_8 : (zm_cd 9)[8]? = some ((40, .aload_n 3, 1, 3, 0, 0, 0, 0, []) : zm_E) := (congrArg (fun l => l[8]?) cd_9).trans rfl
theorem c_9_9 : (zm_cd 9)[9]? = some ((41, .getfield 192, 3, 6, 6, 1, 0, 0, []) : zm_E) := (congrArg (fun l => l[9]?) cd_9).trans rfl
theorem c_9_10 : (zm_cd 9)[10]? = some ((44, .iload_n 1, 1, 1, 0, 0, 0, 0, []) : zm_E) := (congrArg (fun l => l[10]?) cd_9).trans rfl
theorem c_9_11 : (zm_cd 9)[11]? = some ((45, .invokestatic 152, 3, 209, 2, 1, 0, 0, []) : zm_E) := (congrArg (fun l => l[11]?) cd_9).trans rfl
theorem c_9_12 : (zm_cd 9)[12]? = some ((48, .ireturn, 1, 0, 0, 0, 0, 0, []) : zm_E) := (congrArg (fun l => l[12]?) cd_9).trans rfl
theorem c_9_13 : (zm_cd 9)[13]? = some ((49, .aload_n 3, 1, 3, 0, 0, 0, 0, []) : zm_E) := (congrArg (fun l => l[13]?) cd_9).trans rfl
theorem c_9_14 : (zm_cd 9)[14]? = some ((50, .getfield 192, 3, 6, 6, 1, 0, 0, []) : zm_E) := (congrArg (fun l => l[14]?) cd_9).trans rfl
theorem c_9_15 : (zm_cd 9)[15]? = some ((53, .iload_n 1, 1, 1, 0, 0, 0, 0, []) : zm_E) := (congrArg (fun l => l[15]?) cd_9).trans rfl
theorem c_9_16 : (zm_cd 9)[16]? = some ((54, .invokestatic 152, 3, 209, 2, 1, 0, 0, []) : zm_E) := (congrArg (fun l => l[16]?) cd_9).trans rfl
theorem c_9_17 : (zm_cd 9)[17]? = some ((57, .invokestatic 195, 3, 207, 1, 1, 0, 0, []) : zm_E) := (congrArg (fun l => l[17]?) cd_9).trans rfl
theorem c_9_18 : (zm_cd 9)[18]? = some ((60, .ireturn, 1, 0, 0, 0, 0, 0, []) : zm_E) := (congrArg (fun l => l[18]?) cd_9).trans rfl
theorem c_9_19 : (zm_cd 9)[19]? = some ((61, .aload_n 3, 1, 3, 0, 0, 0, 0, []) : zm_E) := (congrArg (fun l => l[19]?) cd_9).trans rfl
theorem c_9_20 : (zm_cd 9)[20]? = some ((62, .getfield 200, 3, 6, 7, 1, 0, 0, []) : zm_E) := (congrArg (fun l => l[20]?) cd_9).trans rfl
theorem c_9_21 : (zm_cd 9)[21]? = some ((65, .iload_n 1, 1, 1, 0, 0, 0, 0, []) : zm_E) := (congrArg (fun l => l[21]?) cd_9).trans rfl
theorem c_9_22 : (zm_cd 9)[22]? = some ((66, .invokestatic 152, 3, 209, 2, 1, 0, 0, []) : zm_E) := (congrArg (fun l => l[22]?) cd_9).trans rfl
theorem c_9_23 : (zm_cd 9)[23]? = some ((69, .ireturn, 1, 0, 0, 0, 0, 0, []) : zm_E) := (congrArg (fun l => l[23]?) cd_9).trans rfl
theorem c_9_24 : (zm_cd 9)[24]? = some ((70, .aload_n 3, 1, 3, 0, 0, 0, 0, []) : zm_E) := (congrArg (fun l => l[24]?) cd_9).trans rfl
theorem c_9_25 : (zm_cd 9)[25]? = some ((71, .aload_n 0, 1, 0, 0, 0, 0, 0, []) : zm_E) := (congrArg (fun l => l[25]?) cd_9).trans rfl
theorem c_9_26 : (zm_cd 9)[26]? = some ((72, .getfield 19, 3, 7, 1, 1, 0, 0, []) : zm_E) := (congrArg (fun l => l[26]?) cd_9).trans rfl
theorem c_9_27 : (zm_cd 9)[27]? = some ((75, .iload_n 1, 1, 1, 0, 0, 0, 0, []) : zm_E) := (congrArg (fun l => l[27]?) cd_9).trans rfl
theorem c_9_28 : (zm_cd 9)[28]? = some ((76, .invokevirtual 203, 3, 178, 2, 1, 0, 0, [6]) : zm_E) := (congrArg (fun l => l[28]?) cd_9).trans rfl
theorem c_9_29 : (zm_cd 9)[29]? = some ((79, .ireturn, 1, 0, 0, 0, 0, 0, []) : zm_E) := (congrArg (fun l => l[29]?) cd_9).trans rfl
theorem c_9_30 : (zm_cd 9)[30]? = some ((80, .new 74, 3, 0, 0, 1, 0, 0, [207, 78, 0, 10]) : zm_E) := (congrArg (fun l => l[30]?) cd_9).trans rfl
theorem c_9_31 : (zm_cd 9)[31]? = some ((83, .dup, 1, 0, 0, 0, 0, 0, []) : zm_E) := (congrArg (fun l => l[31]?) cd_9).trans rfl
theorem c_9_32 : (zm_cd 9)[32]? = some ((84, .ldc 207, 2, 0, 0, 1, 0, 0, []) : zm_E) := (congrArg (fun l => l[32]?) cd_9).trans rfl
theorem c_9_33 : (zm_cd 9)[33]? = some ((86, .invokespecial 78, 3, 1002, 1, 0, 0, 0, []) : zm_E) := (congrArg (fun l => l[33]?) cd_9).trans rfl
theorem c_9_34 : (zm_cd 9)[34]? = some ((89, .athrow, 1, 0, 0, 0, 0, 0, []) : zm_E) := (congrArg (fun l => l[34]?) cd_9).trans rfl
theorem cd_10 : zm_cd 10 = zd_10 := rfl
theorem ml_10 : zm_ml 10 = 3 := rfl
theorem ht_10 : zm_ht 10 = [] := rfl
theorem c_10_0 : (zm_cd 10)[0]? = some ((0, .aload_n 0, 1, 0, 0, 0, 0, 0, []) : zm_E) := (congrArg (fun l => l[0]?) cd_10).trans rfl
theorem c_10_1 : (zm_cd 10)[1]? = some ((1, .iload_n 1, 1, 1, 0, 0, 0, 0, []) : zm_E) := (congrArg (fun l => l[1]?) cd_10).trans rfl
theorem c_10_2 : (zm_cd 10)[2]? = some ((2, .invokevirtual 145, 3, 31, 1, 0, 0, 0, [7]) : zm_E) := (congrArg (fun l => l[2]?) cd_10).trans rfl
theorem c_10_3 : (zm_cd 10)[3]? = some ((5, .aload_n 0, 1, 0, 0, 0, 0, 0, []) : zm_E) := (congrArg (fun l => l[3]?) cd_10).trans rfl
theorem c_10_4 : (zm_cd 10)[4]? = some ((6, .iload_n 2, 1, 2, 0, 0, 0, 0, []) : zm_E) := (congrArg (fun l => l[4]?) cd_10).trans rfl
theorem c_10_5 : (zm_cd 10)[5]? = some ((7, .invokevirtual 145, 3, 31, 1, 0, 0, 0, [7]) : zm_E) := (congrArg (fun l => l[5]?) cd_10).trans rfl
theorem c_10_6 : (zm_cd 10)[6]? = some ((10, .aload_n 0, 1, 0, 0, 0, 0, 0, []) : zm_E) := (congrArg (fun l => l[6]?) cd_10).trans rfl
theorem c_10_7 : (zm_cd 10)[7]? = some ((11, .getfield 19, 3, 7, 1, 1, 0, 0, []) : zm_E) := (congrArg (fun l => l[7]?) cd_10).trans rfl
theorem c_10_8 : (zm_cd 10)[8]? = some ((14, .iload_n 1, 1, 1, 0, 0, 0, 0, []) : zm_E) := (congrArg (fun l => l[8]?) cd_10).trans rfl
theorem c_10_9 : (zm_cd 10)[9]? = some ((15, .iload_n 2, 1, 2, 0, 0, 0, 0, []) : zm_E) := (congrArg (fun l => l[9]?) cd_10).trans rfl
theorem c_10_10 : (zm_cd 10)[10]? = some ((16, .invokevirtual 209, 3, 130, 2, 1, 0, 0, [1]) : zm_E) := (congrArg (fun l => l[10]?) cd_10).trans rfl
theorem c_10_11 : (zm_cd 10)[11]? = some ((19, .ireturn, 1, 0, 0, 0, 0, 0, []) : zm_E) := (congrArg (fun l => l[11]?) cd_10).trans rfl
theorem cd_11 : zm_cd 11 = zd_11 := rfl
theorem ml_11 : zm_ml 11 = 1 := rfl
theorem ht_11 : zm_ht 11 = [] := rfl
theorem c_11_0 : (zm_cd 11)[0]? = some ((0, .aload_n 0, 1, 0, 0, 0, 0, 0, []) : zm_E) := (congrArg (fun l => l[0]?) cd_11).trans rfl
theorem c_11_1 : (zm_cd 11)[1]? = some ((1, .getfield 19, 3, 7, 1, 1, 0, 0, []) : zm_E) := (congrArg (fun l => l[1]?) cd_11).trans rfl
theorem c_11_2 : (zm_cd 11)[2]? = some ((4, .getfield 118, 3, 1, 0, 0, 0, 0, []) : zm_E) := (congrArg (fun l => l[2]?) cd_11).trans rfl
theorem c_11_3 : (zm_cd 11)[3]? = some ((7, .bipush 7, 2, 0, 0, 0, 7, 0, []) : zm_E) := (congrArg (fun l => l[3]?) cd_11).trans rfl
theorem c_11_4 : (zm_cd 11)[4]? = some ((9, .if_icmp .lt 13, 3, 10, 0, 0, 0, 0, []) : zm_E) := (congrArg (fun l => l[4]?) cd_11).trans rfl
theorem c_11_5 : (zm_cd 11)[5]? = some ((12, .new 85, 3, 1, 0, 1, 0, 0, [212, 89, 0, 1]) : zm_E) := (congrArg (fun l => l[5]?) cd_11).trans rfl
theorem c_11_6 : (zm_cd 11)[6]? = some ((15, .dup, 1, 0, 0, 0, 0, 0, []) : zm_E) := (congrArg (fun l => l[6]?) cd_11).trans rfl
theorem c_11_7 : (zm_cd 11)[7]? = some ((16, .ldc 212, 2, 0, 0, 1, 0, 0, []) : zm_E) := (congrArg (fun l => l[7]?) cd_11).trans rfl
theorem c_11_8 : (zm_cd 11)[8]? = some ((18, .invokespecial 89, 3, 1002, 1, 0, 0, 0, []) : zm_E) := (congrArg (fun l => l[8]?) cd_11).trans rfl
theorem c_11_9 : (zm_cd 11)[9]? = some ((21, .athrow, 1, 0, 0, 0, 0, 0, []) : zm_E) := (congrArg (fun l => l[9]?) cd_11).trans rfl
theorem c_11_10 : (zm_cd 11)[10]? = some ((22, .aload_n 0, 1, 0, 0, 0, 0, 0, []) : zm_E) := (congrArg (fun l => l[10]?) cd_11).trans rfl
theorem c_11_11 : (zm_cd 11)[11]? = some ((23, .getfield 26, 3, 7, 2, 1, 0, 0, []) : zm_E) := (congrArg (fun l => l[11]?) cd_11).trans rfl
theorem c_11_12 : (zm_cd 11)[12]? = some ((26, .aload_n 0, 1, 0, 0, 0, 0, 0, []) : zm_E) := (congrArg (fun l => l[12]?) cd_11).trans rfl
theorem c_11_13 : (zm_cd 11)[13]? = some ((27, .getfield 19, 3, 7, 1, 1, 0, 0, []) : zm_E) := (congrArg (fun l => l[13]?) cd_11).trans rfl
theorem c_11_14 : (zm_cd 11)[14]? = some ((30, .invokevirtual 214, 3, 112, 1, 0, 0, 0, [0]) : zm_E) := (congrArg (fun l => l[14]?) cd_11).trans rfl
theorem c_11_15 : (zm_cd 11)[15]? = some ((33, .aload_n 0, 1, 0, 0, 0, 0, 0, []) : zm_E) := (congrArg (fun l => l[15]?) cd_11).trans rfl
theorem c_11_16 : (zm_cd 11)[16]? = some ((34, .getfield 19, 3, 7, 1, 1, 0, 0, []) : zm_E) := (congrArg (fun l => l[16]?) cd_11).trans rfl
theorem c_11_17 : (zm_cd 11)[17]? = some ((37, .invokevirtual 217, 3, 136, 0, 1, 0, 0, [1]) : zm_E) := (congrArg (fun l => l[17]?) cd_11).trans rfl
theorem c_11_18 : (zm_cd 11)[18]? = some ((40, .ireturn, 1, 0, 0, 0, 0, 0, []) : zm_E) := (congrArg (fun l => l[18]?) cd_11).trans rfl
theorem cd_12 : zm_cd 12 = zd_12 := rfl
theorem ml_12 : zm_ml 12 = 5 := rfl
theorem ht_12 : zm_ht 12 = [] := rfl
theorem c_12_0 : (zm_cd 12)[0]? = some ((0, .aload_n 0, 1, 0, 0, 0, 0, 0, []) : zm_E) := (congrArg (fun l => l[0]?) cd_12).trans rfl
theorem c_12_1 : (zm_cd 12)[1]? = some ((1, .iload_n 1, 1, 1, 0, 0, 0, 0, []) : zm_E) := (congrArg (fun l => l[1]?) cd_12).trans rfl
theorem c_12_2 : (zm_cd 12)[2]? = some ((2, .invokevirtual 145, 3, 31, 1, 0, 0, 0, [7]) : zm_E) := (congrArg (fun l => l[2]?) cd_12).trans rfl
theorem c_12_3 : (zm_cd 12)[3]? = some ((5, .aload_n 0, 1, 0, 0, 0, 0, 0, []) : zm_E) := (congrArg (fun l => l[3]?) cd_12).trans rfl
theorem c_12_4 : (zm_cd 12)[4]? = some ((6, .iload_n 2, 1, 2, 0, 0, 0, 0, []) : zm_E) := (congrArg (fun l => l[4]?) cd_12).trans rfl
theorem c_12_5 : (zm_cd 12)[5]? = some ((7, .invokevirtual 178, 3, 32, 1, 0, 0, 0, [7]) : zm_E) := (congrArg (fun l => l[5]?) cd_12).trans rfl
theorem c_12_6 : (zm_cd 12)[6]? = some ((10, .iload_n 3, 1, 3, 0, 0, 0, 0, []) : zm_E) := (congrArg (fun l => l[6]?) cd_12).trans rfl
theorem c_12_7 : (zm_cd 12)[7]? = some ((11, .ifCond .lt 9, 3, 11, 0, 0, 0, 0, []) : zm_E) := (congrArg (fun l => l[7]?) cd_12).trans rfl
theorem c_12_8 : (zm_cd 12)[8]? = some ((14, .iload_n 3, 1, 3, 0, 0, 0, 0, []) : zm_E) := (congrArg (fun l => l[8]?) cd_12).trans rfl
theorem c_12_9 : (zm_cd 12)[9]? = some ((15, .bipush 9, 2, 0, 0, 0, 9, 0, []) : zm_E) := (congrArg (fun l => l[9]?) cd_12).trans rfl
theorem c_12_10 : (zm_cd 12)[10]? = some ((17, .if_icmp .le 13, 3, 16, 0, 0, 0, 0, []) : zm_E) := (congrArg (fun l => l[10]?) cd_12).trans rfl
theorem c_12_11 : (zm_cd 12)[11]? = some ((20, .new 74, 3, 0, 0, 1, 0, 0, [220, 78, 0, 4]) : zm_E) := (congrArg (fun l => l[11]?) cd_12).trans rfl
theorem c_12_12 : (zm_cd 12)[12]? = some ((23, .dup, 1, 0, 0, 0, 0, 0, []) : zm_E) := (congrArg (fun l => l[12]?) cd_12).trans rfl
theorem c_12_13 : (zm_cd 12)[13]? = some ((24, .ldc 220, 2, 0, 0, 1, 0, 0, []) : zm_E) := (congrArg (fun l => l[13]?) cd_12).trans rfl
theorem c_12_14 : (zm_cd 12)[14]? = some ((26, .invokespecial 78, 3, 1002, 1, 0, 0, 0, []) : zm_E) := (congrArg (fun l => l[14]?) cd_12).trans rfl
theorem c_12_15 : (zm_cd 12)[15]? = some ((29, .athrow, 1, 0, 0, 0, 0, 0, []) : zm_E) := (congrArg (fun l => l[15]?) cd_12).trans rfl
theorem c_12_16 : (zm_cd 12)[16]? = some ((30, .aload_n 0, 1, 0, 0, 0, 0, 0, []) : zm_E) := (congrArg (fun l => l[16]?) cd_12).trans rfl
theorem c_12_17 : (zm_cd 12)[17]? = some ((31, .getfield 26, 3, 7, 2, 1, 0, 0, []) : zm_E) := (congrArg (fun l => l[17]?) cd_12).trans rfl
theorem c_12_18 : (zm_cd 12)[18]? = some ((34, .aload_n 0, 1, 0, 0, 0, 0, 0, []) : zm_E) := (congrArg (fun l => l[18]?) cd_12).trans rfl
theorem c_12_19 : (zm_cd 12)[19]? = some ((35, .getfield 19, 3, 7, 1, 1, 0, 0, []) : zm_E) := (congrArg (fun l => l[19]?) cd_12).trans rfl
theorem c_12_20 : (zm_cd 12)[20]? = some ((38, .invokevirtual 214, 3, 112, 1, 0, 0, 0, [0]) : zm_E) := (congrArg (fun l => l[20]?) cd_12).trans rfl
theorem c_12_21 : (zm_cd 12)[21]? = some ((41, .aload_n 0, 1, 0, 0, 0, 0, 0, []) : zm_E) := (congrArg (fun l => l[21]?) cd_12).trans rfl
theorem c_12_22 : (zm_cd 12)[22]? = some ((42, .getfield 19, 3, 7, 1, 1, 0, 0, []) : zm_E) := (congrArg (fun l => l[22]?) cd_12).trans rfl
theorem c_12_23 : (zm_cd 12)[23]? = some ((45, .iload_n 1, 1, 1, 0, 0, 0, 0, []) : zm_E) := (congrArg (fun l => l[23]?) cd_12).trans rfl
theorem c_12_24 : (zm_cd 12)[24]? = some ((46, .iload_n 2, 1, 2, 0, 0, 0, 0, []) : zm_E) := (congrArg (fun l => l[24]?) cd_12).trans rfl
theorem c_12_25 : (zm_cd 12)[25]? = some ((47, .invokevirtual 181, 3, 121, 2, 1, 0, 0, [1]) : zm_E) := (congrArg (fun l => l[25]?) cd_12).trans rfl
theorem c_12_26 : (zm_cd 12)[26]? = some ((50, .istore 4, 2, 4, 0, 0, 0, 0, []) : zm_E) := (congrArg (fun l => l[26]?) cd_12).trans rfl
theorem c_12_27 : (zm_cd 12)[27]? = some ((52, .aload_n 0, 1, 0, 0, 0, 0, 0, []) : zm_E) := (congrArg (fun l => l[27]?) cd_12).trans rfl
theorem c_12_28 : (zm_cd 12)[28]? = some ((53, .getfield 19, 3, 7, 1, 1, 0, 0, []) : zm_E) := (congrArg (fun l => l[28]?) cd_12).trans rfl
theorem c_12_29 : (zm_cd 12)[29]? = some ((56, .iload_n 1, 1, 1, 0, 0, 0, 0, []) : zm_E) := (congrArg (fun l => l[29]?) cd_12).trans rfl
theorem c_12_30 : (zm_cd 12)[30]? = some ((57, .iload_n 2, 1, 2, 0, 0, 0, 0, []) : zm_E) := (congrArg (fun l => l[30]?) cd_12).trans rfl
theorem c_12_31 : (zm_cd 12)[31]? = some ((58, .iload_n 3, 1, 3, 0, 0, 0, 0, []) : zm_E) := (congrArg (fun l => l[31]?) cd_12).trans rfl
theorem c_12_32 : (zm_cd 12)[32]? = some ((59, .invokevirtual 222, 3, 123, 3, 0, 0, 0, [1]) : zm_E) := (congrArg (fun l => l[32]?) cd_12).trans rfl
theorem c_12_33 : (zm_cd 12)[33]? = some ((62, .iload 4, 2, 4, 0, 0, 0, 0, []) : zm_E) := (congrArg (fun l => l[33]?) cd_12).trans rfl
theorem c_12_34 : (zm_cd 12)[34]? = some ((64, .ireturn, 1, 0, 0, 0, 0, 0, []) : zm_E) := (congrArg (fun l => l[34]?) cd_12).trans rfl
theorem cd_13 : zm_cd 13 = zd_13 := rfl
theorem ml_13 : zm_ml 13 = 3 := rfl
theorem ht_13 : zm_ht 13 = [] := rfl
theorem c_13_0 : (zm_cd 13)[0]? = some ((0, .aload_n 0, 1, 0, 0, 0, 0, 0, []) : zm_E) := (congrArg (fun l => l[0]?) cd_13).trans rfl
theorem c_13_1 : (zm_cd 13)[1]? = some ((1, .iload_n 1, 1, 1, 0, 0, 0, 0, []) : zm_E) := (congrArg (fun l => l[1]?) cd_13).trans rfl
theorem c_13_2 : (zm_cd 13)[2]? = some ((2, .invokevirtual 145, 3, 31, 1, 0, 0, 0, [7]) : zm_E) := (congrArg (fun l => l[2]?) cd_13).trans rfl
theorem c_13_3 : (zm_cd 13)[3]? = some ((5, .aload_n 0, 1, 0, 0, 0, 0, 0, []) : zm_E) := (congrArg (fun l => l[3]?) cd_13).trans rfl
theorem c_13_4 : (zm_cd 13)[4]? = some ((6, .iload_n 2, 1, 2, 0, 0, 0, 0, []) : zm_E) := (congrArg (fun l => l[4]?) cd_13).trans rfl
theorem c_13_5 : (zm_cd 13)[5]? = some ((7, .invokevirtual 145, 3, 31, 1, 0, 0, 0, [7]) : zm_E) := (congrArg (fun l => l[5]?) cd_13).trans rfl
theorem c_13_6 : (zm_cd 13)[6]? = some ((10, .aload_n 0, 1, 0, 0, 0, 0, 0, []) : zm_E) := (congrArg (fun l => l[6]?) cd_13).trans rfl
theorem c_13_7 : (zm_cd 13)[7]? = some ((11, .getfield 19, 3, 7, 1, 1, 0, 0, []) : zm_E) := (congrArg (fun l => l[7]?) cd_13).trans rfl
theorem c_13_8 : (zm_cd 13)[8]? = some ((14, .iload_n 1, 1, 1, 0, 0, 0, 0, []) : zm_E) := (congrArg (fun l => l[8]?) cd_13).trans rfl
theorem c_13_9 : (zm_cd 13)[9]? = some ((15, .iload_n 2, 1, 2, 0, 0, 0, 0, []) : zm_E) := (congrArg (fun l => l[9]?) cd_13).trans rfl
theorem c_13_10 : (zm_cd 13)[10]? = some ((16, .invokevirtual 209, 3, 130, 2, 1, 0, 0, [1]) : zm_E) := (congrArg (fun l => l[10]?) cd_13).trans rfl
theorem c_13_11 : (zm_cd 13)[11]? = some ((19, .ifCond .eq 13, 3, 17, 0, 0, 0, 0, []) : zm_E) := (congrArg (fun l => l[11]?) cd_13).trans rfl
theorem c_13_12 : (zm_cd 13)[12]? = some ((22, .new 85, 3, 1, 0, 1, 0, 0, [226, 89, 0, 11]) : zm_E) := (congrArg (fun l => l[12]?) cd_13).trans rfl
theorem c_13_13 : (zm_cd 13)[13]? = some ((25, .dup, 1, 0, 0, 0, 0, 0, []) : zm_E) := (congrArg (fun l => l[13]?) cd_13).trans rfl
theorem c_13_14 : (zm_cd 13)[14]? = some ((26, .ldc 226, 2, 0, 0, 1, 0, 0, []) : zm_E) := (congrArg (fun l => l[14]?) cd_13).trans rfl
theorem c_13_15 : (zm_cd 13)[15]? = some ((28, .invokespecial 89, 3, 1002, 1, 0, 0, 0, []) : zm_E) := (congrArg (fun l => l[15]?) cd_13).trans rfl
theorem c_13_16 : (zm_cd 13)[16]? = some ((31, .athrow, 1, 0, 0, 0, 0, 0, []) : zm_E) := (congrArg (fun l => l[16]?) cd_13).trans rfl
theorem c_13_17 : (zm_cd 13)[17]? = some ((32, .aload_n 0, 1, 0, 0, 0, 0, 0, []) : zm_E) := (congrArg (fun l => l[17]?) cd_13).trans rfl
theorem c_13_18 : (zm_cd 13)[18]? = some ((33, .getfield 26, 3, 7, 2, 1, 0, 0, []) : zm_E) := (congrArg (fun l => l[18]?) cd_13).trans rfl
theorem c_13_19 : (zm_cd 13)[19]? = some ((36, .aload_n 0, 1, 0, 0, 0, 0, 0, []) : zm_E) := (congrArg (fun l => l[19]?) cd_13).trans rfl
theorem c_13_20 : (zm_cd 13)[20]? = some ((37, .getfield 19, 3, 7, 1, 1, 0, 0, []) : zm_E) := (congrArg (fun l => l[20]?) cd_13).trans rfl
theorem c_13_21 : (zm_cd 13)[21]? = some ((40, .invokevirtual 214, 3, 112, 1, 0, 0, 0, [0]) : zm_E) := (congrArg (fun l => l[21]?) cd_13).trans rfl
theorem c_13_22 : (zm_cd 13)[22]? = some ((43, .aload_n 0, 1, 0, 0, 0, 0, 0, []) : zm_E) := (congrArg (fun l => l[22]?) cd_13).trans rfl
theorem c_13_23 : (zm_cd 13)[23]? = some ((44, .getfield 19, 3, 7, 1, 1, 0, 0, []) : zm_E) := (congrArg (fun l => l[23]?) cd_13).trans rfl
theorem c_13_24 : (zm_cd 13)[24]? = some ((47, .iload_n 1, 1, 1, 0, 0, 0, 0, []) : zm_E) := (congrArg (fun l => l[24]?) cd_13).trans rfl
theorem c_13_25 : (zm_cd 13)[25]? = some ((48, .iload_n 2, 1, 2, 0, 0, 0, 0, []) : zm_E) := (congrArg (fun l => l[25]?) cd_13).trans rfl
theorem c_13_26 : (zm_cd 13)[26]? = some ((49, .invokevirtual 228, 3, 131, 2, 0, 0, 0, [1]) : zm_E) := (congrArg (fun l => l[26]?) cd_13).trans rfl
theorem c_13_27 : (zm_cd 13)[27]? = some ((52, .aload_n 0, 1, 0, 0, 0, 0, 0, []) : zm_E) := (congrArg (fun l => l[27]?) cd_13).trans rfl
theorem c_13_28 : (zm_cd 13)[28]? = some ((53, .getfield 19, 3, 7, 1, 1, 0, 0, []) : zm_E) := (congrArg (fun l => l[28]?) cd_13).trans rfl
theorem c_13_29 : (zm_cd 13)[29]? = some ((56, .getfield 148, 3, 1, 3, 1, 0, 0, []) : zm_E) := (congrArg (fun l => l[29]?) cd_13).trans rfl
theorem c_13_30 : (zm_cd 13)[30]? = some ((59, .iload_n 1, 1, 1, 0, 0, 0, 0, []) : zm_E) := (congrArg (fun l => l[30]?) cd_13).trans rfl
theorem c_13_31 : (zm_cd 13)[31]? = some ((60, .invokestatic 152, 3, 209, 2, 1, 0, 0, []) : zm_E) := (congrArg (fun l => l[31]?) cd_13).trans rfl
theorem c_13_32 : (zm_cd 13)[32]? = some ((63, .ireturn, 1, 0, 0, 0, 0, 0, []) : zm_E) := (congrArg (fun l => l[32]?) cd_13).trans rfl
theorem cd_14 : zm_cd 14 = zd_14 := rfl
theorem ml_14 : zm_ml 14 = 3 := rfl
theorem ht_14 : zm_ht 14 = [] := rfl
theorem c_14_0 : (zm_cd 14)[0]? = some ((0, .aload_n 0, 1, 0, 0, 0, 0, 0, []) : zm_E) := (congrArg (fun l => l[0]?) cd_14).trans rfl
theorem c_14_1 : (zm_cd 14)[1]? = some ((1, .invokevirtual 127, 3, 30, 0, 2, 0, 0, [7]) : zm_E) := (congrArg (fun l => l[1]?) cd_14).trans rfl
theorem c_14_2 : (zm_cd 14)[2]? = some ((4, .astore_n 2, 1, 2, 0, 0, 0, 0, []) : zm_E) := (congrArg (fun l => l[2]?) cd_14).trans rfl
theorem c_14_3 : (zm_cd 14)[3]? = some ((5, .aload_n 2, 1, 2, 0, 0, 0, 0, []) : zm_E) := (congrArg (fun l => l[3]?) cd_14).trans rfl
theorem c_14_4 : (zm_cd 14)[4]? = some ((6, .iload_n 1, 1, 1, 0, 0, 0, 0, []) : zm_E) := (congrArg (fun l => l[4]?) cd_14).trans rfl
theorem c_14_5 : (zm_cd 14)[5]? = some ((7, .invokestatic 188, 3, 34, 2, 0, 0, 0, []) : zm_E) := (congrArg (fun l => l[5]?) cd_14).trans rfl
theorem c_14_6 : (zm_cd 14)[6]? = some ((10, .aload_n 0, 1, 0, 0, 0, 0, 0, []) : zm_E) := (congrArg (fun l => l[6]?) cd_14).trans rfl
theorem c_14_7 : (zm_cd 14)[7]? = some ((11, .getfield 26, 3, 7, 2, 1, 0, 0, []) : zm_E) := (congrArg (fun l => l[7]?) cd_14).trans rfl
theorem c_14_8 : (zm_cd 14)[8]? = some ((14, .aload_n 0, 1, 0, 0, 0, 0, 0, []) : zm_E) := (congrArg (fun l => l[8]?) cd_14).trans rfl
theorem c_14_9 : (zm_cd 14)[9]? = some ((15, .getfield 19, 3, 7, 1, 1, 0, 0, []) : zm_E) := (congrArg (fun l => l[9]?) cd_14).trans rfl
theorem c_14_10 : (zm_cd 14)[10]? = some ((18, .invokevirtual 214, 3, 112, 1, 0, 0, 0, [0]) : zm_E) := (congrArg (fun l => l[10]?) cd_14).trans rfl
theorem c_14_11 : (zm_cd 14)[11]? = some ((21, .aload_n 0, 1, 0, 0, 0, 0, 0, []) : zm_E) := (congrArg (fun l => l[11]?) cd_14).trans rfl
theorem c_14_12 : (zm_cd 14)[12]? = some ((22, .getfield 19, 3, 7, 1, 1, 0, 0, []) : zm_E) := (congrArg (fun l => l[12]?) cd_14).trans rfl
theorem c_14_13 : (zm_cd 14)[13]? = some ((25, .aload_n 2, 1, 2, 0, 0, 0, 0, []) : zm_E) := (congrArg (fun l => l[13]?) cd_14).trans rfl
theorem c_14_14 : (zm_cd 14)[14]? = some ((26, .aload_n 2, 1, 2, 0, 0, 0, 0, []) : zm_E) := (congrArg (fun l => l[14]?) cd_14).trans rfl
theorem c_14_15 : (zm_cd 14)[15]? = some ((27, .getfield 192, 3, 6, 6, 1, 0, 0, []) : zm_E) := (congrArg (fun l => l[15]?) cd_14).trans rfl
theorem c_14_16 : (zm_cd 14)[16]? = some ((30, .iload_n 1, 1, 1, 0, 0, 0, 0, []) : zm_E) := (congrArg (fun l => l[16]?) cd_14).trans rfl
theorem c_14_17 : (zm_cd 14)[17]? = some ((31, .invokestatic 152, 3, 209, 2, 1, 0, 0, []) : zm_E) := (congrArg (fun l => l[17]?) cd_14).trans rfl
theorem c_14_18 : (zm_cd 14)[18]? = some ((34, .invokevirtual 232, 3, 132, 2, 1, 0, 0, [1]) : zm_E) := (congrArg (fun l => l[18]?) cd_14).trans rfl
theorem c_14_19 : (zm_cd 14)[19]? = some ((37, .ireturn, 1, 0, 0, 0, 0, 0, []) : zm_E) := (congrArg (fun l => l[19]?) cd_14).trans rfl
theorem cd_15 : zm_cd 15 = zd_15 := rfl
theorem ml_15 : zm_ml 15 = 1 := rfl
theorem ht_15 : zm_ht 15 = [] := rfl
theorem c_15_0 : (zm_cd 15)[0]? = some ((0, .aload_n 0, 1, 0, 0, 0, 0, 0, []) : zm_E) := (congrArg (fun l => l[0]?) cd_15).trans rfl
theorem c_15_1 : (zm_cd 15)[1]? = some ((1, .getfield 26, 3, 7, 2, 1, 0, 0, []) : zm_E) := (congrArg (fun l => l[1]?) cd_15).trans rfl
theorem c_15_2 : (zm_cd 15)[2]? = some ((4, .aload_n 0, 1, 0, 0, 0, 0, 0, []) : zm_E) := (congrArg (fun l => l[2]?) cd_15).trans rfl
theorem c_15_3 : (zm_cd 15)[3]? = some ((5, .getfield 19, 3, 7, 1, 1, 0, 0, []) : zm_E) := (congrArg (fun l => l[3]?) cd_15).trans rfl
theorem c_15_4 : (zm_cd 15)[4]? = some ((8, .invokevirtual 214, 3, 112, 1, 0, 0, 0, [0]) : zm_E) := (congrArg (fun l => l[4]?) cd_15).trans rfl
theorem c_15_5 : (zm_cd 15)[5]? = some ((11, .aload_n 0, 1, 0, 0, 0, 0, 0, []) : zm_E) := (congrArg (fun l => l[5]?) cd_15).trans rfl
theorem c_15_6 : (zm_cd 15)[6]? = some ((12, .getfield 19, 3, 7, 1, 1, 0, 0, []) : zm_E) := (congrArg (fun l => l[6]?) cd_15).trans rfl
theorem c_15_7 : (zm_cd 15)[7]? = some ((15, .aload_n 0, 1, 0, 0, 0, 0, 0, []) : zm_E) := (congrArg (fun l => l[7]?) cd_15).trans rfl
theorem c_15_8 : (zm_cd 15)[8]? = some ((16, .invokevirtual 127, 3, 30, 0, 2, 0, 0, [7]) : zm_E) := (congrArg (fun l => l[8]?) cd_15).trans rfl
theorem c_15_9 : (zm_cd 15)[9]? = some ((19, .aload_n 0, 1, 0, 0, 0, 0, 0, []) : zm_E) := (congrArg (fun l => l[9]?) cd_15).trans rfl
theorem c_15_10 : (zm_cd 15)[10]? = some ((20, .getfield 19, 3, 7, 1, 1, 0, 0, []) : zm_E) := (congrArg (fun l => l[10]?) cd_15).trans rfl
theorem c_15_11 : (zm_cd 15)[11]? = some ((23, .invokevirtual 236, 3, 118, 0, 1, 0, 0, [1]) : zm_E) := (congrArg (fun l => l[11]?) cd_15).trans rfl
theorem c_15_12 : (zm_cd 15)[12]? = some ((26, .invokevirtual 232, 3, 132, 2, 1, 0, 0, [1]) : zm_E) := (congrArg (fun l => l[12]?) cd_15).trans rfl
theorem c_15_13 : (zm_cd 15)[13]? = some ((29, .ireturn, 1, 0, 0, 0, 0, 0, []) : zm_E) := (congrArg (fun l => l[13]?) cd_15).trans rfl
theorem cd_16 : zm_cd 16 = zd_16 := rfl
theorem ml_16 : zm_ml 16 = 2 := rfl
theorem ht_16 : zm_ht 16 = [] := rfl
theorem c_16_0 : (zm_cd 16)[0]? = some ((0, .aload_n 0, 1, 0, 0, 0, 0, 0, []) : zm_E) := (congrArg (fun l => l[0]?) cd_16).trans rfl
theorem c_16_1 : (zm_cd 16)[1]? = some ((1, .iload_n 1, 1, 1, 0, 0, 0, 0, []) : zm_E) := (congrArg (fun l => l[1]?) cd_16).trans rfl
theorem c_16_2 : (zm_cd 16)[2]? = some ((2, .invokevirtual 145, 3, 31, 1, 0, 0, 0, [7]) : zm_E) := (congrArg (fun l => l[2]?) cd_16).trans rfl
theorem c_16_3 : (zm_cd 16)[3]? = some ((5, .aload_n 0, 1, 0, 0, 0, 0, 0, []) : zm_E) := (congrArg (fun l => l[3]?) cd_16).trans rfl
theorem c_16_4 : (zm_cd 16)[4]? = some ((6, .getfield 19, 3, 7, 1, 1, 0, 0, []) : zm_E) := (congrArg (fun l => l[4]?) cd_16).trans rfl
theorem c_16_5 : (zm_cd 16)[5]? = some ((9, .iload_n 1, 1, 1, 0, 0, 0, 0, []) : zm_E) := (congrArg (fun l => l[5]?) cd_16).trans rfl
theorem c_16_6 : (zm_cd 16)[6]? = some ((10, .invokevirtual 160, 3, 119, 1, 1, 0, 0, [1]) : zm_E) := (congrArg (fun l => l[6]?) cd_16).trans rfl
theorem c_16_7 : (zm_cd 16)[7]? = some ((13, .ifCond .ne 13, 3, 13, 0, 0, 0, 0, []) : zm_E) := (congrArg (fun l => l[7]?) cd_16).trans rfl
theorem c_16_8 : (zm_cd 16)[8]? = some ((16, .new 85, 3, 1, 0, 1, 0, 0, [239, 89, 0, 12]) : zm_E) := (congrArg (fun l => l[8]?) cd_16).trans rfl
theorem c_16_9 : (zm_cd 16)[9]? = some ((19, .dup, 1, 0, 0, 0, 0, 0, []) : zm_E) := (congrArg (fun l => l[9]?) cd_16).trans rfl
theorem c_16_10 : (zm_cd 16)[10]? = some ((20, .ldc 239, 2, 0, 0, 1, 0, 0, []) : zm_E) := (congrArg (fun l => l[10]?) cd_16).trans rfl
theorem c_16_11 : (zm_cd 16)[11]? = some ((22, .invokespecial 89, 3, 1002, 1, 0, 0, 0, []) : zm_E) := (congrArg (fun l => l[11]?) cd_16).trans rfl
theorem c_16_12 : (zm_cd 16)[12]? = some ((25, .athrow, 1, 0, 0, 0, 0, 0, []) : zm_E) := (congrArg (fun l => l[12]?) cd_16).trans rfl
theorem c_16_13 : (zm_cd 16)[13]? = some ((26, .aload_n 0, 1, 0, 0, 0, 0, 0, []) : zm_E) := (congrArg (fun l => l[13]?) cd_16).trans rfl
theorem c_16_14 : (zm_cd 16)[14]? = some ((27, .getfield 26, 3, 7, 2, 1, 0, 0, []) : zm_E) := (congrArg (fun l => l[14]?) cd_16).trans rfl
theorem c_16_15 : (zm_cd 16)[15]? = some ((30, .aload_n 0, 1, 0, 0, 0, 0, 0, []) : zm_E) := (congrArg (fun l => l[15]?) cd_16).trans rfl
theorem c_16_16 : (zm_cd 16)[16]? = some ((31, .getfield 19, 3, 7, 1, 1, 0, 0, []) : zm_E) := (congrArg (fun l => l[16]?) cd_16).trans rfl
theorem c_16_17 : (zm_cd 16)[17]? = some ((34, .invokevirtual 214, 3, 112, 1, 0, 0, 0, [0]) : zm_E) := (congrArg (fun l => l[17]?) cd_16).trans rfl
theorem c_16_18 : (zm_cd 16)[18]? = some ((37, .aload_n 0, 1, 0, 0, 0, 0, 0, []) : zm_E) := (congrArg (fun l => l[18]?) cd_16).trans rfl
theorem c_16_19 : (zm_cd 16)[19]? = some ((38, .getfield 19, 3, 7, 1, 1, 0, 0, []) : zm_E) := (congrArg (fun l => l[19]?) cd_16).trans rfl
theorem c_16_20 : (zm_cd 16)[20]? = some ((41, .iload_n 1, 1, 1, 0, 0, 0, 0, []) : zm_E) := (congrArg (fun l => l[20]?) cd_16).trans rfl
theorem c_16_21 : (zm_cd 16)[21]? = some ((42, .invokevirtual 241, 3, 133, 1, 0, 0, 0, [1]) : zm_E) := (congrArg (fun l => l[21]?) cd_16).trans rfl
theorem c_16_22 : (zm_cd 16)[22]? = some ((45, .aload_n 0, 1, 0, 0, 0, 0, 0, []) : zm_E) := (congrArg (fun l => l[22]?) cd_16).trans rfl
theorem c_16_23 : (zm_cd 16)[23]? = some ((46, .getfield 19, 3, 7, 1, 1, 0, 0, []) : zm_E) := (congrArg (fun l => l[23]?) cd_16).trans rfl
theorem c_16_24 : (zm_cd 16)[24]? = some ((49, .invokevirtual 114, 3, 120, 0, 1, 0, 0, [1]) : zm_E) := (congrArg (fun l => l[24]?) cd_16).trans rfl
theorem c_16_25 : (zm_cd 16)[25]? = some ((52, .ireturn, 1, 0, 0, 0, 0, 0, []) : zm_E) := (congrArg (fun l => l[25]?) cd_16).trans rfl
theorem cd_17 : zm_cd 17 = zd_17 := rfl
theorem ml_17 : zm_ml 17 = 1 := rfl
theorem ht_17 : zm_ht 17 = [] := rfl
theorem c_17_0 : (zm_cd 17)[0]? = some ((0, .aload_n 0, 1, 0, 0, 0, 0, 0, []) : zm_E) := (congrArg (fun l => l[0]?) cd_17).trans rfl
theorem c_17_1 : (zm_cd 17)[1]? = some ((1, .getfield 26, 3, 7, 2, 1, 0, 0, []) : zm_E) := (congrArg (fun l => l[1]?) cd_17).trans rfl
theorem c_17_2 : (zm_cd 17)[2]? = some ((4, .aload_n 0, 1, 0, 0, 0, 0, 0, []) : zm_E) := (congrArg (fun l => l[2]?) cd_17).trans rfl
theorem c_17_3 : (zm_cd 17)[3]? = some ((5, .getfield 19, 3, 7, 1, 1, 0, 0, []) : zm_E) := (congrArg (fun l => l[3]?) cd_17).trans rfl
theorem c_17_4 : (zm_cd 17)[4]? = some ((8, .invokevirtual 214, 3, 112, 1, 0, 0, 0, [0]) : zm_E) := (congrArg (fun l => l[4]?) cd_17).trans rfl
theorem c_17_5 : (zm_cd 17)[5]? = some ((11, .aload_n 0, 1, 0, 0, 0, 0, 0, []) : zm_E) := (congrArg (fun l => l[5]?) cd_17).trans rfl
theorem c_17_6 : (zm_cd 17)[6]? = some ((12, .getfield 19, 3, 7, 1, 1, 0, 0, []) : zm_E) := (congrArg (fun l => l[6]?) cd_17).trans rfl
theorem c_17_7 : (zm_cd 17)[7]? = some ((15, .invokevirtual 244, 3, 134, 0, 1, 0, 0, [1]) : zm_E) := (congrArg (fun l => l[7]?) cd_17).trans rfl
theorem c_17_8 : (zm_cd 17)[8]? = some ((18, .ireturn, 1, 0, 0, 0, 0, 0, []) : zm_E) := (congrArg (fun l => l[8]?) cd_17).trans rfl
theorem cd_18 : zm_cd 18 = zd_18 := rfl
theorem ml_18 : zm_ml 18 = 1 := rfl
theorem ht_18 : zm_ht 18 = [] := rfl
theorem c_18_0 : (zm_cd 18)[0]? = some ((0, .aload_n 0, 1, 0, 0, 0, 0, 0, []) : zm_E) := (congrArg (fun l => l[0]?) cd_18).trans rfl
theorem c_18_1 : (zm_cd 18)[1]? = some ((1, .getfield 26, 3, 7, 2, 1, 0, 0, []) : zm_E) := (congrArg (fun l => l[1]?) cd_18).trans rfl
theorem c_18_2 : (zm_cd 18)[2]? = some ((4, .invokevirtual 247, 3, 212, 0, 1, 0, 0, [0]) : zm_E) := (congrArg (fun l => l[2]?) cd_18).trans rfl
theorem c_18_3 : (zm_cd 18)[3]? = some ((7, .ifCond .ne 13, 3, 9, 0, 0, 0, 0, []) : zm_E) := (congrArg (fun l => l[3]?) cd_18).trans rfl
theorem c_18_4 : (zm_cd 18)[4]? = some ((10, .new 85, 3, 1, 0, 1, 0, 0, [250, 89, 0, 5]) : zm_E) := (congrArg (fun l => l[4]?) cd_18).trans rfl
theorem c_18_5 : (zm_cd 18)[5]? = some ((13, .dup, 1, 0, 0, 0, 0, 0, []) : zm_E) := (congrArg (fun l => l[5]?) cd_18).trans rfl
theorem c_18_6 : (zm_cd 18)[6]? = some ((14, .ldc 250, 2, 0, 0, 1, 0, 0, []) : zm_E) := (congrArg (fun l => l[6]?) cd_18).trans rfl
theorem c_18_7 : (zm_cd 18)[7]? = some ((16, .invokespecial 89, 3, 1002, 1, 0, 0, 0, []) : zm_E) := (congrArg (fun l => l[7]?) cd_18).trans rfl
theorem c_18_8 : (zm_cd 18)[8]? = some ((19, .athrow, 1, 0, 0, 0, 0, 0, []) : zm_E) := (congrArg (fun l => l[8]?) cd_18).trans rfl
theorem c_18_9 : (zm_cd 18)[9]? = some ((20, .aload_n 0, 1, 0, 0, 0, 0, 0, []) : zm_E) := (congrArg (fun l => l[9]?) cd_18).trans rfl
theorem c_18_10 : (zm_cd 18)[10]? = some ((21, .getfield 26, 3, 7, 2, 1, 0, 0, []) : zm_E) := (congrArg (fun l => l[10]?) cd_18).trans rfl
theorem c_18_11 : (zm_cd 18)[11]? = some ((24, .aload_n 0, 1, 0, 0, 0, 0, 0, []) : zm_E) := (congrArg (fun l => l[11]?) cd_18).trans rfl
theorem c_18_12 : (zm_cd 18)[12]? = some ((25, .getfield 19, 3, 7, 1, 1, 0, 0, []) : zm_E) := (congrArg (fun l => l[12]?) cd_18).trans rfl
theorem c_18_13 : (zm_cd 18)[13]? = some ((28, .invokevirtual 252, 3, 113, 1, 0, 0, 0, [0]) : zm_E) := (congrArg (fun l => l[13]?) cd_18).trans rfl
theorem c_18_14 : (zm_cd 18)[14]? = some ((31, .aload_n 0, 1, 0, 0, 0, 0, 0, []) : zm_E) := (congrArg (fun l => l[14]?) cd_18).trans rfl
theorem c_18_15 : (zm_cd 18)[15]? = some ((32, .getfield 26, 3, 7, 2, 1, 0, 0, []) : zm_E) := (congrArg (fun l => l[15]?) cd_18).trans rfl
theorem c_18_16 : (zm_cd 18)[16]? = some ((35, .invokevirtual 247, 3, 212, 0, 1, 0, 0, [0]) : zm_E) := (congrArg (fun l => l[16]?) cd_18).trans rfl
theorem c_18_17 : (zm_cd 18)[17]? = some ((38, .ireturn, 1, 0, 0, 0, 0, 0, []) : zm_E) := (congrArg (fun l => l[17]?) cd_18).trans rfl
theorem cd_19 : zm_cd 19 = zd_19 := rfl
theorem ml_19 : zm_ml 19 = 2 := rfl
theorem ht_19 : zm_ht 19 = [] := rfl
theorem c_19_0 : (zm_cd 19)[0]? = some ((0, .aload_n 0, 1, 0, 0, 0, 0, 0, []) : zm_E) := (congrArg (fun l => l[0]?) cd_19).trans rfl
theorem c_19_1 : (zm_cd 19)[1]? = some ((1, .getfield 56, 3, 7, 8, 1, 0, 0, []) : zm_E) := (congrArg (fun l => l[1]?) cd_19).trans rfl
theorem c_19_2 : (zm_cd 19)[2]? = some ((4, .aload_n 0, 1, 0, 0, 0, 0, 0, []) : zm_E) := (congrArg (fun l => l[2]?) cd_19).trans rfl
theorem c_19_3 : (zm_cd 19)[3]? = some ((5, .getfield 19, 3, 7, 1, 1, 0, 0, []) : zm_E) := (congrArg (fun l => l[3]?) cd_19).trans rfl
theorem c_19_4 : (zm_cd 19)[4]? = some ((8, .iload_n 1, 1, 1, 0, 0, 0, 0, []) : zm_E) := (congrArg (fun l => l[4]?) cd_19).trans rfl
theorem c_19_5 : (zm_cd 19)[5]? = some ((9, .invokevirtual 255, 3, 154, 2, 1, 0, 0, [4]) : zm_E) := (congrArg (fun l => l[5]?) cd_19).trans rfl
theorem c_19_6 : (zm_cd 19)[6]? = some ((12, .ireturn, 1, 0, 0, 0, 0, 0, []) : zm_E) := (congrArg (fun l => l[6]?) cd_19).trans rfl
theorem cd_20 : zm_cd 20 = zd_20 := rfl
theorem ml_20 : zm_ml 20 = 2 := rfl
theorem ht_20 : zm_ht 20 = [] := rfl
theorem c_20_0 : (zm_cd 20)[0]? = some ((0, .aload_n 0, 1, 0, 0, 0, 0, 0, []) : zm_E) := (congrArg (fun l => l[0]?) cd_20).trans rfl
theorem c_20_1 : (zm_cd 20)[1]? = some ((1, .getfield 56, 3, 7, 8, 1, 0, 0, []) : zm_E) := (congrArg (fun l => l[1]?) cd_20).trans rfl
theorem c_20_2 : (zm_cd 20)[2]? = some ((4, .aload_n 0, 1, 0, 0, 0, 0, 0, []) : zm_E) := (congrArg (fun l => l[2]?) cd_20).trans rfl
theorem c_20_3 : (zm_cd 20)[3]? = some ((5, .getfield 19, 3, 7, 1, 1, 0, 0, []) : zm_E) := (congrArg (fun l => l[3]?) cd_20).trans rfl
theorem c_20_4 : (zm_cd 20)[4]? = some ((8, .iload_n 1, 1, 1, 0, 0, 0, 0, []) : zm_E) := (congrArg (fun l => l[4]?) cd_20).trans rfl
theorem c_20_5 : (zm_cd 20)[5]? = some ((9, .invokevirtual 259, 3, 155, 2, 1, 0, 0, [4]) : zm_E) := (congrArg (fun l => l[5]?) cd_20).trans rfl
theorem c_20_6 : (zm_cd 20)[6]? = some ((12, .ireturn, 1, 0, 0, 0, 0, 0, []) : zm_E) := (congrArg (fun l => l[6]?) cd_20).trans rfl
theorem cd_21 : zm_cd 21 = zd_21 := rfl
theorem ml_21 : zm_ml 21 = 1 := rfl
theorem ht_21 : zm_ht 21 = [] := rfl
theorem c_21_0 : (zm_cd 21)[0]? = some ((0, .aload_n 0, 1, 0, 0, 0, 0, 0, []) : zm_E) := (congrArg (fun l => l[0]?) cd_21).trans rfl
theorem c_21_1 : (zm_cd 21)[1]? = some ((1, .getfield 56, 3, 7, 8, 1, 0, 0, []) : zm_E) := (congrArg (fun l => l[1]?) cd_21).trans rfl
theorem c_21_2 : (zm_cd 21)[2]? = some ((4, .aload_n 0, 1, 0, 0, 0, 0, 0, []) : zm_E) := (congrArg (fun l => l[2]?) cd_21).trans rfl
theorem c_21_3 : (zm_cd 21)[3]? = some ((5, .getfield 19, 3, 7, 1, 1, 0, 0, []) : zm_E) := (congrArg (fun l => l[3]?) cd_21).trans rfl
theorem c_21_4 : (zm_cd 21)[4]? = some ((8, .invokevirtual 262, 3, 162, 1, 1, 0, 0, [4]) : zm_E) := (congrArg (fun l => l[4]?) cd_21).trans rfl
theorem c_21_5 : (zm_cd 21)[5]? = some ((11, .ireturn, 1, 0, 0, 0, 0, 0, []) : zm_E) := (congrArg (fun l => l[5]?) cd_21).trans rfl
theorem cd_22 : zm_cd 22 = zd_22 := rfl
theorem ml_22 : zm_ml 22 = 2 := rfl
theorem ht_22 : zm_ht 22 = [] := rfl
theorem c_22_0 : (zm_cd 22)[0]? = some ((0, .aload_n 0, 1, 0, 0, 0, 0, 0, []) : zm_E) := (congrArg (fun l => l[0]?) cd_22).trans rfl
theorem c_22_1 : (zm_cd 22)[1]? = some ((1, .iload_n 1, 1, 1, 0, 0, 0, 0, []) : zm_E) := (congrArg (fun l => l[1]?) cd_22).trans rfl
theorem c_22_2 : (zm_cd 22)[2]? = some ((2, .invokevirtual 145, 3, 31, 1, 0, 0, 0, [7]) : zm_E) := (congrArg (fun l => l[2]?) cd_22).trans rfl
theorem c_22_3 : (zm_cd 22)[3]? = some ((5, .aload_n 0, 1, 0, 0, 0, 0, 0, []) : zm_E) := (congrArg (fun l => l[3]?) cd_22).trans rfl
theorem c_22_4 : (zm_cd 22)[4]? = some ((6, .getfield 56, 3, 7, 8, 1, 0, 0, []) : zm_E) := (congrArg (fun l => l[4]?) cd_22).trans rfl
theorem c_22_5 : (zm_cd 22)[5]? = some ((9, .aload_n 0, 1, 0, 0, 0, 0, 0, []) : zm_E) := (congrArg (fun l => l[5]?) cd_22).trans rfl
theorem c_22_6 : (zm_cd 22)[6]? = some ((10, .getfield 19, 3, 7, 1, 1, 0, 0, []) : zm_E) := (congrArg (fun l => l[6]?) cd_22).trans rfl
theorem c_22_7 : (zm_cd 22)[7]? = some ((13, .iload_n 1, 1, 1, 0, 0, 0, 0, []) : zm_E) := (congrArg (fun l => l[7]?) cd_22).trans rfl
theorem c_22_8 : (zm_cd 22)[8]? = some ((14, .invokevirtual 265, 3, 163, 2, 1, 0, 0, [4]) : zm_E) := (congrArg (fun l => l[8]?) cd_22).trans rfl
theorem c_22_9 : (zm_cd 22)[9]? = some ((17, .ireturn, 1, 0, 0, 0, 0, 0, []) : zm_E) := (congrArg (fun l => l[9]?) cd_22).trans rfl
theorem cd_23 : zm_cd 23 = zd_23 := rfl
theorem ml_23 : zm_ml 23 = 1 := rfl
theorem ht_23 : zm_ht 23 = [] := rfl
theorem c_23_0 : (zm_cd 23)[0]? = some ((0, .aload_n 0, 1, 0, 0, 0, 0, 0, []) : zm_E) := (congrArg (fun l => l[0]?) cd_23).trans rfl
theorem c_23_1 : (zm_cd 23)[1]? = some ((1, .getfield 56, 3, 7, 8, 1, 0, 0, []) : zm_E) := (congrArg (fun l => l[1]?) cd_23).trans rfl
theorem c_23_2 : (zm_cd 23)[2]? = some ((4, .aload_n 0, 1, 0, 0, 0, 0, 0, []) : zm_E) := (congrArg (fun l => l[2]?) cd_23).trans rfl
theorem c_23_3 : (zm_cd 23)[3]? = some ((5, .getfield 19, 3, 7, 1, 1, 0, 0, []) : zm_E) := (congrArg (fun l => l[3]?) cd_23).trans rfl
theorem c_23_4 : (zm_cd 23)[4]? = some ((8, .invokevirtual 268, 3, 157, 1, 1, 0, 0, [4]) : zm_E) := (congrArg (fun l => l[4]?) cd_23).trans rfl
theorem c_23_5 : (zm_cd 23)[5]? = some ((11, .ireturn, 1, 0, 0, 0, 0, 0, []) : zm_E) := (congrArg (fun l => l[5]?) cd_23).trans rfl
theorem cd_24 : zm_cd 24 = zd_24 := rfl
theorem ml_24 : zm_ml 24 = 6 := rfl
theorem ht_24 : zm_ht 24 = [] := rfl
theorem c_24_0 : (zm_cd 24)[0]? = some ((0, .aload_n 0, 1, 0, 0, 0, 0, 0, []) : zm_E) := (congrArg (fun l => l[0]?) cd_24).trans rfl
theorem c_24_1 : (zm_cd 24)[1]? = some ((1, .iload_n 1, 1, 1, 0, 0, 0, 0, []) : zm_E) := (congrArg (fun l => l[1]?) cd_24).trans rfl
theorem c_24_2 : (zm_cd 24)[2]? = some ((2, .invokevirtual 145, 3, 31, 1, 0, 0, 0, [7]) : zm_E) := (congrArg (fun l => l[2]?) cd_24).trans rfl
theorem c_24_3 : (zm_cd 24)[3]? = some ((5, .aload_n 0, 1, 0, 0, 0, 0, 0, []) : zm_E) := (congrArg (fun l => l[3]?) cd_24).trans rfl
theorem c_24_4 : (zm_cd 24)[4]? = some ((6, .getfield 19, 3, 7, 1, 1, 0, 0, []) : zm_E) := (congrArg (fun l => l[4]?) cd_24).trans rfl
theorem c_24_5 : (zm_cd 24)[5]? = some ((9, .iload_n 1, 1, 1, 0, 0, 0, 0, []) : zm_E) := (congrArg (fun l => l[5]?) cd_24).trans rfl
theorem c_24_6 : (zm_cd 24)[6]? = some ((10, .invokevirtual 160, 3, 119, 1, 1, 0, 0, [1]) : zm_E) := (congrArg (fun l => l[6]?) cd_24).trans rfl
theorem c_24_7 : (zm_cd 24)[7]? = some ((13, .ifCond .ne 5, 3, 10, 0, 0, 0, 0, []) : zm_E) := (congrArg (fun l => l[7]?) cd_24).trans rfl
theorem c_24_8 : (zm_cd 24)[8]? = some ((16, .iconst 0, 1, 0, 0, 0, 0, 0, []) : zm_E) := (congrArg (fun l => l[8]?) cd_24).trans rfl
theorem c_24_9 : (zm_cd 24)[9]? = some ((17, .ireturn, 1, 0, 0, 0, 0, 0, []) : zm_E) := (congrArg (fun l => l[9]?) cd_24).trans rfl
theorem c_24_10 : (zm_cd 24)[10]? = some ((18, .aload_n 0, 1, 0, 0, 0, 0, 0, []) : zm_E) := (congrArg (fun l => l[10]?) cd_24).trans rfl
theorem c_24_11 : (zm_cd 24)[11]? = some ((19, .getfield 19, 3, 7, 1, 1, 0, 0, []) : zm_E) := (congrArg (fun l => l[11]?) cd_24).trans rfl
theorem c_24_12 : (zm_cd 24)[12]? = some ((22, .invokevirtual 236, 3, 118, 0, 1, 0, 0, [1]) : zm_E) := (congrArg (fun l => l[12]?) cd_24).trans rfl
theorem c_24_13 : (zm_cd 24)[13]? = some ((25, .iload_n 1, 1, 1, 0, 0, 0, 0, []) : zm_E) := (congrArg (fun l => l[13]?) cd_24).trans rfl
theorem c_24_14 : (zm_cd 24)[14]? = some ((26, .invokestatic 271, 3, 36, 1, 1, 0, 0, []) : zm_E) := (congrArg (fun l => l[14]?) cd_24).trans rfl
theorem c_24_15 : (zm_cd 24)[15]? = some ((29, .iconst (-1), 1, 0, 0, 0, (-1), 0, []) : zm_E) := (congrArg (fun l => l[15]?) cd_24).trans rfl
theorem c_24_16 : (zm_cd 24)[16]? = some ((30, .ixor, 1, 0, 0, 0, 0, 0, []) : zm_E) := (congrArg (fun l => l[16]?) cd_24).trans rfl
theorem c_24_17 : (zm_cd 24)[17]? = some ((31, .iand, 1, 0, 0, 0, 0, 0, []) : zm_E) := (congrArg (fun l => l[17]?) cd_24).trans rfl
theorem c_24_18 : (zm_cd 24)[18]? = some ((32, .istore_n 2, 1, 2, 0, 0, 0, 0, []) : zm_E) := (congrArg (fun l => l[18]?) cd_24).trans rfl
theorem c_24_19 : (zm_cd 24)[19]? = some ((33, .aload_n 0, 1, 0, 0, 0, 0, 0, []) : zm_E) := (congrArg (fun l => l[19]?) cd_24).trans rfl
theorem c_24_20 : (zm_cd 24)[20]? = some ((34, .invokevirtual 127, 3, 30, 0, 2, 0, 0, [7]) : zm_E) := (congrArg (fun l => l[20]?) cd_24).trans rfl
theorem c_24_21 : (zm_cd 24)[21]? = some ((37, .astore_n 3, 1, 3, 0, 0, 0, 0, []) : zm_E) := (congrArg (fun l => l[21]?) cd_24).trans rfl
theorem c_24_22 : (zm_cd 24)[22]? = some ((38, .aload_n 0, 1, 0, 0, 0, 0, 0, []) : zm_E) := (congrArg (fun l => l[22]?) cd_24).trans rfl
theorem c_24_23 : (zm_cd 24)[23]? = some ((39, .getfield 50, 3, 7, 7, 1, 0, 0, []) : zm_E) := (congrArg (fun l => l[23]?) cd_24).trans rfl
theorem c_24_24 : (zm_cd 24)[24]? = some ((42, .aload_n 0, 1, 0, 0, 0, 0, 0, []) : zm_E) := (congrArg (fun l => l[24]?) cd_24).trans rfl
theorem c_24_25 : (zm_cd 24)[25]? = some ((43, .getfield 19, 3, 7, 1, 1, 0, 0, []) : zm_E) := (congrArg (fun l => l[25]?) cd_24).trans rfl
theorem c_24_26 : (zm_cd 24)[26]? = some ((46, .iload_n 2, 1, 2, 0, 0, 0, 0, []) : zm_E) := (congrArg (fun l => l[26]?) cd_24).trans rfl
theorem c_24_27 : (zm_cd 24)[27]? = some ((47, .invokevirtual 274, 3, 175, 2, 0, 0, 0, [6]) : zm_E) := (congrArg (fun l => l[27]?) cd_24).trans rfl
theorem c_24_28 : (zm_cd 24)[28]? = some ((50, .iconst 0, 1, 0, 0, 0, 0, 0, []) : zm_E) := (congrArg (fun l => l[28]?) cd_24).trans rfl
theorem c_24_29 : (zm_cd 24)[29]? = some ((51, .istore 4, 2, 4, 0, 0, 0, 0, []) : zm_E) := (congrArg (fun l => l[29]?) cd_24).trans rfl
theorem c_24_30 : (zm_cd 24)[30]? = some ((53, .iconst 0, 1, 0, 0, 0, 0, 0, []) : zm_E) := (congrArg (fun l => l[30]?) cd_24).trans rfl
theorem c_24_31 : (zm_cd 24)[31]? = some ((54, .istore 5, 2, 5, 0, 0, 0, 0, []) : zm_E) := (congrArg (fun l => l[31]?) cd_24).trans rfl
theorem c_24_32 : (zm_cd 24)[32]? = some ((56, .iload 5, 2, 5, 0, 0, 0, 0, []) : zm_E) := (congrArg (fun l => l[32]?) cd_24).trans rfl
theorem c_24_33 : (zm_cd 24)[33]? = some ((58, .aload_n 0, 1, 0, 0, 0, 0, 0, []) : zm_E) := (congrArg (fun l => l[33]?) cd_24).trans rfl
theorem c_24_34 : (zm_cd 24)[34]? = some ((59, .getfield 19, 3, 7, 1, 1, 0, 0, []) : zm_E) := (congrArg (fun l => l[34]?) cd_24).trans rfl
theorem c_24_35 : (zm_cd 24)[35]? = some ((62, .getfield 118, 3, 1, 0, 0, 0, 0, []) : zm_E) := (congrArg (fun l => l[35]?) cd_24).trans rfl
theorem c_24_36 : (zm_cd 24)[36]? = some ((65, .if_icmp .ge 70, 3, 66, 0, 0, 0, 0, []) : zm_E) := (congrArg (fun l => l[36]?) cd_24).trans rfl
theorem c_24_37 : (zm_cd 24)[37]? = some ((68, .iload_n 2, 1, 2, 0, 0, 0, 0, []) : zm_E) := (congrArg (fun l => l[37]?) cd_24).trans rfl
theorem c_24_38 : (zm_cd 24)[38]? = some ((69, .iload 5, 2, 5, 0, 0, 0, 0, []) : zm_E) := (congrArg (fun l => l[38]?) cd_24).trans rfl
theorem c_24_39 : (zm_cd 24)[39]? = some ((71, .invokestatic 278, 3, 37, 2, 1, 0, 0, []) : zm_E) := (congrArg (fun l => l[39]?) cd_24).trans rfl
theorem c_24_40 : (zm_cd 24)[40]? = some ((74, .ifCond .eq 55, 3, 64, 0, 0, 0, 0, []) : zm_E) := (congrArg (fun l => l[40]?) cd_24).trans rfl
theorem c_24_41 : (zm_cd 24)[41]? = some ((77, .aload_n 0, 1, 0, 0, 0, 0, 0, []) : zm_E) := (congrArg (fun l => l[41]?) cd_24).trans rfl
theorem c_24_42 : (zm_cd 24)[42]? = some ((78, .getfield 19, 3, 7, 1, 1, 0, 0, []) : zm_E) := (congrArg (fun l => l[42]?) cd_24).trans rfl
theorem c_24_43 : (zm_cd 24)[43]? = some ((81, .iload 5, 2, 5, 0, 0, 0, 0, []) : zm_E) := (congrArg (fun l => l[43]?) cd_24).trans rfl
theorem c_24_44 : (zm_cd 24)[44]? = some ((83, .aload_n 0, 1, 0, 0, 0, 0, 0, []) : zm_E) := (congrArg (fun l => l[44]?) cd_24).trans rfl
theorem c_24_45 : (zm_cd 24)[45]? = some ((84, .getfield 50, 3, 7, 7, 1, 0, 0, []) : zm_E) := (congrArg (fun l => l[45]?) cd_24).trans rfl
theorem c_24_46 : (zm_cd 24)[46]? = some ((87, .getfield 164, 3, 6, 2, 1, 0, 0, []) : zm_E) := (congrArg (fun l => l[46]?) cd_24).trans rfl
theorem c_24_47 : (zm_cd 24)[47]? = some ((90, .iload 5, 2, 5, 0, 0, 0, 0, []) : zm_E) := (congrArg (fun l => l[47]?) cd_24).trans rfl
theorem c_24_48 : (zm_cd 24)[48]? = some ((92, .invokestatic 152, 3, 209, 2, 1, 0, 0, []) : zm_E) := (congrArg (fun l => l[48]?) cd_24).trans rfl
theorem c_24_49 : (zm_cd 24)[49]? = some ((95, .invokevirtual 282, 3, 124, 2, 1, 0, 0, [1]) : zm_E) := (congrArg (fun l => l[49]?) cd_24).trans rfl
theorem c_24_50 : (zm_cd 24)[50]? = some ((98, .aload_n 0, 1, 0, 0, 0, 0, 0, []) : zm_E) := (congrArg (fun l => l[50]?) cd_24).trans rfl
theorem c_24_51 : (zm_cd 24)[51]? = some ((99, .getfield 19, 3, 7, 1, 1, 0, 0, []) : zm_E) := (congrArg (fun l => l[51]?) cd_24).trans rfl
theorem c_24_52 : (zm_cd 24)[52]? = some ((102, .iload 5, 2, 5, 0, 0, 0, 0, []) : zm_E) := (congrArg (fun l => l[52]?) cd_24).trans rfl
theorem c_24_53 : (zm_cd 24)[53]? = some ((104, .aload_n 3, 1, 3, 0, 0, 0, 0, []) : zm_E) := (congrArg (fun l => l[53]?) cd_24).trans rfl
theorem c_24_54 : (zm_cd 24)[54]? = some ((105, .getfield 164, 3, 6, 2, 1, 0, 0, []) : zm_E) := (congrArg (fun l => l[54]?) cd_24).trans rfl
theorem c_24_55 : (zm_cd 24)[55]? = some ((108, .iload 5, 2, 5, 0, 0, 0, 0, []) : zm_E) := (congrArg (fun l => l[55]?) cd_24).trans rfl
theorem c_24_56 : (zm_cd 24)[56]? = some ((110, .invokestatic 152, 3, 209, 2, 1, 0, 0, []) : zm_E) := (congrArg (fun l => l[56]?) cd_24).trans rfl
theorem c_24_57 : (zm_cd 24)[57]? = some ((113, .invokevirtual 282, 3, 124, 2, 1, 0, 0, [1]) : zm_E) := (congrArg (fun l => l[57]?) cd_24).trans rfl
theorem c_24_58 : (zm_cd 24)[58]? = some ((116, .if_icmp .le 13, 3, 64, 0, 0, 0, 0, []) : zm_E) := (congrArg (fun l => l[58]?) cd_24).trans rfl
theorem c_24_59 : (zm_cd 24)[59]? = some ((119, .iload 4, 2, 4, 0, 0, 0, 0, []) : zm_E) := (congrArg (fun l => l[59]?) cd_24).trans rfl
theorem c_24_60 : (zm_cd 24)[60]? = some ((121, .iload 5, 2, 5, 0, 0, 0, 0, []) : zm_E) := (congrArg (fun l => l[60]?) cd_24).trans rfl
theorem c_24_61 : (zm_cd 24)[61]? = some ((123, .invokestatic 271, 3, 36, 1, 1, 0, 0, []) : zm_E) := (congrArg (fun l => l[61]?) cd_24).trans rfl
theorem c_24_62 : (zm_cd 24)[62]? = some ((126, .ior, 1, 0, 0, 0, 0, 0, []) : zm_E) := (congrArg (fun l => l[62]?) cd_24).trans rfl
theorem c_24_63 : (zm_cd 24)[63]? = some ((127, .istore 4, 2, 4, 0, 0, 0, 0, []) : zm_E) := (congrArg (fun l => l[63]?) cd_24).trans rfl
theorem c_24_64 : (zm_cd 24)[64]? = some ((129, .iinc 5 1, 3, 5, 0, 0, 1, 0, []) : zm_E) := (congrArg (fun l => l[64]?) cd_24).trans rfl
theorem c_24_65 : (zm_cd 24)[65]? = some ((132, .goto (-76), 3, 32, 0, 0, 0, 0, []) : zm_E) := (congrArg (fun l => l[65]?) cd_24).trans rfl
theorem c_24_66 : (zm_cd 24)[66]? = some ((135, .iload 4, 2, 4, 0, 0, 0, 0, []) : zm_E) := (congrArg (fun l => l[66]?) cd_24).trans rfl
theorem c_24_67 : (zm_cd 24)[67]? = some ((137, .ireturn, 1, 0, 0, 0, 0, 0, []) : zm_E) := (congrArg (fun l => l[67]?) cd_24).trans rfl
theorem cd_25 : zm_cd 25 = zd_25 := rfl
theorem ml_25 : zm_ml 25 = 3 := rfl
theorem ht_25 : zm_ht 25 = [] := rfl
theorem c_25_0 : (zm_cd 25)[0]? = some ((0, .aload_n 0, 1, 0, 0, 0, 0, 0, []) : zm_E) := (congrArg (fun l => l[0]?) cd_25).trans rfl
theorem c_25_1 : (zm_cd 25)[1]? = some ((1, .iload_n 1, 1, 1, 0, 0, 0, 0, []) : zm_E) := (congrArg (fun l => l[1]?) cd_25).trans rfl
theorem c_25_2 : (zm_cd 25)[2]? = some ((2, .invokevirtual 145, 3, 31, 1, 0, 0, 0, [7]) : zm_E) := (congrArg (fun l => l[2]?) cd_25).trans rfl
theorem c_25_3 : (zm_cd 25)[3]? = some ((5, .aload_n 0, 1, 0, 0, 0, 0, 0, []) : zm_E) := (congrArg (fun l => l[3]?) cd_25).trans rfl
theorem c_25_4 : (zm_cd 25)[4]? = some ((6, .iload_n 2, 1, 2, 0, 0, 0, 0, []) : zm_E) := (congrArg (fun l => l[4]?) cd_25).trans rfl
theorem c_25_5 : (zm_cd 25)[5]? = some ((7, .invokevirtual 178, 3, 32, 1, 0, 0, 0, [7]) : zm_E) := (congrArg (fun l => l[5]?) cd_25).trans rfl
theorem c_25_6 : (zm_cd 25)[6]? = some ((10, .aload_n 0, 1, 0, 0, 0, 0, 0, []) : zm_E) := (congrArg (fun l => l[6]?) cd_25).trans rfl
theorem c_25_7 : (zm_cd 25)[7]? = some ((11, .getfield 40, 3, 7, 5, 1, 0, 0, []) : zm_E) := (congrArg (fun l => l[7]?) cd_25).trans rfl
theorem c_25_8 : (zm_cd 25)[8]? = some ((14, .aload_n 0, 1, 0, 0, 0, 0, 0, []) : zm_E) := (congrArg (fun l => l[8]?) cd_25).trans rfl
theorem c_25_9 : (zm_cd 25)[9]? = some ((15, .getfield 19, 3, 7, 1, 1, 0, 0, []) : zm_E) := (congrArg (fun l => l[9]?) cd_25).trans rfl
theorem c_25_10 : (zm_cd 25)[10]? = some ((18, .invokevirtual 104, 3, 115, 1, 0, 0, 0, [1]) : zm_E) := (congrArg (fun l => l[10]?) cd_25).trans rfl
theorem c_25_11 : (zm_cd 25)[11]? = some ((21, .aload_n 0, 1, 0, 0, 0, 0, 0, []) : zm_E) := (congrArg (fun l => l[11]?) cd_25).trans rfl
theorem c_25_12 : (zm_cd 25)[12]? = some ((22, .getfield 63, 3, 7, 9, 1, 0, 0, []) : zm_E) := (congrArg (fun l => l[12]?) cd_25).trans rfl
theorem c_25_13 : (zm_cd 25)[13]? = some ((25, .aload_n 0, 1, 0, 0, 0, 0, 0, []) : zm_E) := (congrArg (fun l => l[13]?) cd_25).trans rfl
theorem c_25_14 : (zm_cd 25)[14]? = some ((26, .getfield 40, 3, 7, 5, 1, 0, 0, []) : zm_E) := (congrArg (fun l => l[14]?) cd_25).trans rfl
theorem c_25_15 : (zm_cd 25)[15]? = some ((29, .iload_n 1, 1, 1, 0, 0, 0, 0, []) : zm_E) := (congrArg (fun l => l[15]?) cd_25).trans rfl
theorem c_25_16 : (zm_cd 25)[16]? = some ((30, .iload_n 2, 1, 2, 0, 0, 0, 0, []) : zm_E) := (congrArg (fun l => l[16]?) cd_25).trans rfl
theorem c_25_17 : (zm_cd 25)[17]? = some ((31, .invokevirtual 285, 3, 147, 3, 1, 0, 0, [3]) : zm_E) := (congrArg (fun l => l[17]?) cd_25).trans rfl
theorem c_25_18 : (zm_cd 25)[18]? = some ((34, .ireturn, 1, 0, 0, 0, 0, 0, []) : zm_E) := (congrArg (fun l => l[18]?) cd_25).trans rfl
theorem cd_28 : zm_cd 28 = zd_28 := rfl
theorem ml_28 : zm_ml 28 = 3 := rfl
theorem ht_28 : zm_ht 28 = [] := rfl
theorem c_28_0 : (zm_cd 28)[0]? = some ((0, .aload_n 0, 1, 0, 0, 0, 0, 0, []) : zm_E) := (congrArg (fun l => l[0]?) cd_28).trans rfl
theorem c_28_1 : (zm_cd 28)[1]? = some ((1, .iload_n 1, 1, 1, 0, 0, 0, 0, []) : zm_E) := (congrArg (fun l => l[1]?) cd_28).trans rfl
theorem c_28_2 : (zm_cd 28)[2]? = some ((2, .invokevirtual 311, 3, 33, 1, 2, 0, 0, [7]) : zm_E) := (congrArg (fun l => l[2]?) cd_28).trans rfl
theorem c_28_3 : (zm_cd 28)[3]? = some ((5, .astore_n 2, 1, 2, 0, 0, 0, 0, []) : zm_E) := (congrArg (fun l => l[3]?) cd_28).trans rfl
theorem c_28_4 : (zm_cd 28)[4]? = some ((6, .aload_n 2, 1, 2, 0, 0, 0, 0, []) : zm_E) := (congrArg (fun l => l[4]?) cd_28).trans rfl
theorem c_28_5 : (zm_cd 28)[5]? = some ((7, .getfield 315, 3, 8, 0, 1, 0, 0, []) : zm_E) := (congrArg (fun l => l[5]?) cd_28).trans rfl
theorem c_28_6 : (zm_cd 28)[6]? = some ((10, .aload_n 0, 1, 0, 0, 0, 0, 0, []) : zm_E) := (congrArg (fun l => l[6]?) cd_28).trans rfl
theorem c_28_7 : (zm_cd 28)[7]? = some ((11, .getfield 19, 3, 7, 1, 1, 0, 0, []) : zm_E) := (congrArg (fun l => l[7]?) cd_28).trans rfl
theorem c_28_8 : (zm_cd 28)[8]? = some ((14, .invokevirtual 104, 3, 115, 1, 0, 0, 0, [1]) : zm_E) := (congrArg (fun l => l[8]?) cd_28).trans rfl
theorem c_28_9 : (zm_cd 28)[9]? = some ((17, .aload_n 2, 1, 2, 0, 0, 0, 0, []) : zm_E) := (congrArg (fun l => l[9]?) cd_28).trans rfl
theorem c_28_10 : (zm_cd 28)[10]? = some ((18, .iconst 1, 1, 0, 0, 0, 1, 0, []) : zm_E) := (congrArg (fun l => l[10]?) cd_28).trans rfl
theorem c_28_11 : (zm_cd 28)[11]? = some ((19, .putfield 111, 3, 8, 1, 2, 0, 0, []) : zm_E) := (congrArg (fun l => l[11]?) cd_28).trans rfl
theorem c_28_12 : (zm_cd 28)[12]? = some ((22, .aload_n 0, 1, 0, 0, 0, 0, 0, []) : zm_E) := (congrArg (fun l => l[12]?) cd_28).trans rfl
theorem c_28_13 : (zm_cd 28)[13]? = some ((23, .getfield 19, 3, 7, 1, 1, 0, 0, []) : zm_E) := (congrArg (fun l => l[13]?) cd_28).trans rfl
theorem c_28_14 : (zm_cd 28)[14]? = some ((26, .getfield 118, 3, 1, 0, 0, 0, 0, []) : zm_E) := (congrArg (fun l => l[14]?) cd_28).trans rfl
theorem c_28_15 : (zm_cd 28)[15]? = some ((29, .ireturn, 1, 0, 0, 0, 0, 0, []) : zm_E) := (congrArg (fun l => l[15]?) cd_28).trans rfl
theorem cd_29 : zm_cd 29 = zd_29 := rfl
theorem ml_29 : zm_ml 29 = 3 := rfl
theorem ht_29 : zm_ht 29 = [] := rfl
theorem c_29_0 : (zm_cd 29)[0]? = some ((0, .aload_n 0, 1, 0, 0, 0, 0, 0, []) : zm_E) := (congrArg (fun l => l[0]?) cd_29).trans rfl
theorem c_29_1 : (zm_cd 29)[1]? = some ((1, .iload_n 1, 1, 1, 0, 0, 0, 0, []) : zm_E) := (congrArg (fun l => l[1]?) cd_29).trans rfl
theorem c_29_2 : (zm_cd 29)[2]? = some ((2, .invokevirtual 311, 3, 33, 1, 2, 0, 0, [7]) : zm_E) := (congrArg (fun l => l[2]?) cd_29).trans rfl
theorem c_29_3 : (zm_cd 29)[3]? = some ((5, .astore_n 2, 1, 2, 0, 0, 0, 0, []) : zm_E) := (congrArg (fun l => l[3]?) cd_29).trans rfl
theorem c_29_4 : (zm_cd 29)[4]? = some ((6, .aload_n 2, 1, 2, 0, 0, 0, 0, []) : zm_E) := (congrArg (fun l => l[4]?) cd_29).trans rfl
theorem c_29_5 : (zm_cd 29)[5]? = some ((7, .getfield 111, 3, 8, 1, 2, 0, 0, []) : zm_E) := (congrArg (fun l => l[5]?) cd_29).trans rfl
theorem c_29_6 : (zm_cd 29)[6]? = some ((10, .ifCond .ne 14, 3, 12, 0, 0, 0, 0, []) : zm_E) := (congrArg (fun l => l[6]?) cd_29).trans rfl
theorem c_29_7 : (zm_cd 29)[7]? = some ((13, .new 85, 3, 1, 0, 1, 0, 0, [318, 89, 1, 7]) : zm_E) := (congrArg (fun l => l[7]?) cd_29).trans rfl
theorem c_29_8 : (zm_cd 29)[8]? = some ((16, .dup, 1, 0, 0, 0, 0, 0, []) : zm_E) := (congrArg (fun l => l[8]?) cd_29).trans rfl
theorem c_29_9 : (zm_cd 29)[9]? = some ((17, .ldc_w 318, 3, 0, 0, 1, 0, 0, []) : zm_E) := (congrArg (fun l => l[9]?) cd_29).trans rfl
theorem c_29_10 : (zm_cd 29)[10]? = some ((20, .invokespecial 89, 3, 1002, 1, 0, 0, 0, []) : zm_E) := (congrArg (fun l => l[10]?) cd_29).trans rfl
theorem c_29_11 : (zm_cd 29)[11]? = some ((23, .athrow, 1, 0, 0, 0, 0, 0, []) : zm_E) := (congrArg (fun l => l[11]?) cd_29).trans rfl
theorem c_29_12 : (zm_cd 29)[12]? = some ((24, .aload_n 0, 1, 0, 0, 0, 0, 0, []) : zm_E) := (congrArg (fun l => l[12]?) cd_29).trans rfl
theorem c_29_13 : (zm_cd 29)[13]? = some ((25, .getfield 19, 3, 7, 1, 1, 0, 0, []) : zm_E) := (congrArg (fun l => l[13]?) cd_29).trans rfl
theorem c_29_14 : (zm_cd 29)[14]? = some ((28, .aload_n 2, 1, 2, 0, 0, 0, 0, []) : zm_E) := (congrArg (fun l => l[14]?) cd_29).trans rfl
theorem c_29_15 : (zm_cd 29)[15]? = some ((29, .getfield 315, 3, 8, 0, 1, 0, 0, []) : zm_E) := (congrArg (fun l => l[15]?) cd_29).trans rfl
theorem c_29_16 : (zm_cd 29)[16]? = some ((32, .invokevirtual 104, 3, 115, 1, 0, 0, 0, [1]) : zm_E) := (congrArg (fun l => l[16]?) cd_29).trans rfl
theorem c_29_17 : (zm_cd 29)[17]? = some ((35, .aload_n 0, 1, 0, 0, 0, 0, 0, []) : zm_E) := (congrArg (fun l => l[17]?) cd_29).trans rfl
theorem c_29_18 : (zm_cd 29)[18]? = some ((36, .getfield 26, 3, 7, 2, 1, 0, 0, []) : zm_E) := (congrArg (fun l => l[18]?) cd_29).trans rfl
theorem c_29_19 : (zm_cd 29)[19]? = some ((39, .invokevirtual 108, 3, 111, 0, 0, 0, 0, [0]) : zm_E) := (congrArg (fun l => l[19]?) cd_29).trans rfl
theorem c_29_20 : (zm_cd 29)[20]? = some ((42, .aload_n 0, 1, 0, 0, 0, 0, 0, []) : zm_E) := (congrArg (fun l => l[20]?) cd_29).trans rfl
theorem c_29_21 : (zm_cd 29)[21]? = some ((43, .getfield 19, 3, 7, 1, 1, 0, 0, []) : zm_E) := (congrArg (fun l => l[21]?) cd_29).trans rfl
theorem c_29_22 : (zm_cd 29)[22]? = some ((46, .getfield 118, 3, 1, 0, 0, 0, 0, []) : zm_E) := (congrArg (fun l => l[22]?) cd_29).trans rfl
theorem c_29_23 : (zm_cd 29)[23]? = some ((49, .ireturn, 1, 0, 0, 0, 0, 0, []) : zm_E) := (congrArg (fun l => l[23]?) cd_29).trans rfl
theorem cd_30 : zm_cd 30 = zd_30 := rfl
theorem ml_30 : zm_ml 30 = 1 := rfl
theorem ht_30 : zm_ht 30 = [] := rfl
theorem c_30_0 : (zm_cd 30)[0]? = some ((0, .aload_n 0, 1, 0, 0, 0, 0, 0, []) : zm_E) := (congrArg (fun l => l[0]?) cd_30).trans rfl
theorem c_30_1 : (zm_cd 30)[1]? = some ((1, .getfield 46, 3, 7, 6, 1, 0, 0, []) : zm_E) := (congrArg (fun l => l[1]?) cd_30).trans rfl
theorem c_30_2 : (zm_cd 30)[2]? = some ((4, .aload_n 0, 1, 0, 0, 0, 0, 0, []) : zm_E) := (congrArg (fun l => l[2]?) cd_30).trans rfl
theorem c_30_3 : (zm_cd 30)[3]? = some ((5, .getfield 19, 3, 7, 1, 1, 0, 0, []) : zm_E) := (congrArg (fun l => l[3]?) cd_30).trans rfl
theorem c_30_4 : (zm_cd 30)[4]? = some ((8, .aload_n 0, 1, 0, 0, 0, 0, 0, []) : zm_E) := (congrArg (fun l => l[4]?) cd_30).trans rfl
theorem c_30_5 : (zm_cd 30)[5]? = some ((9, .getfield 19, 3, 7, 1, 1, 0, 0, []) : zm_E) := (congrArg (fun l => l[5]?) cd_30).trans rfl
theorem c_30_6 : (zm_cd 30)[6]? = some ((12, .invokevirtual 236, 3, 118, 0, 1, 0, 0, [1]) : zm_E) := (congrArg (fun l => l[6]?) cd_30).trans rfl
theorem c_30_7 : (zm_cd 30)[7]? = some ((15, .invokevirtual 274, 3, 175, 2, 0, 0, 0, [6]) : zm_E) := (congrArg (fun l => l[7]?) cd_30).trans rfl
theorem c_30_8 : (zm_cd 30)[8]? = some ((18, .aload_n 0, 1, 0, 0, 0, 0, 0, []) : zm_E) := (congrArg (fun l => l[8]?) cd_30).trans rfl
theorem c_30_9 : (zm_cd 30)[9]? = some ((19, .getfield 46, 3, 7, 6, 1, 0, 0, []) : zm_E) := (congrArg (fun l => l[9]?) cd_30).trans rfl
theorem c_30_10 : (zm_cd 30)[10]? = some ((22, .areturn, 1, 0, 0, 0, 0, 0, []) : zm_E) := (congrArg (fun l => l[10]?) cd_30).trans rfl
theorem cd_31 : zm_cd 31 = zd_31 := rfl
theorem ml_31 : zm_ml 31 = 2 := rfl
theorem ht_31 : zm_ht 31 = [] := rfl
theorem c_31_0 : (zm_cd 31)[0]? = some ((0, .aload_n 0, 1, 0, 0, 0, 0, 0, []) : zm_E) := (congrArg (fun l => l[0]?) cd_31).trans rfl
theorem c_31_1 : (zm_cd 31)[1]? = some ((1, .getfield 19, 3, 7, 1, 1, 0, 0, []) : zm_E) := (congrArg (fun l => l[1]?) cd_31).trans rfl
theorem c_31_2 : (zm_cd 31)[2]? = some ((4, .iload_n 1, 1, 1, 0, 0, 0, 0, []) : zm_E) := (congrArg (fun l => l[2]?) cd_31).trans rfl
theorem c_31_3 : (zm_cd 31)[3]? = some ((5, .invokevirtual 320, 3, 116, 1, 1, 0, 0, [1]) : zm_E) := (congrArg (fun l => l[3]?) cd_31).trans rfl
theorem c_31_4 : (zm_cd 31)[4]? = some ((8, .ifCond .ne 14, 3, 10, 0, 0, 0, 0, []) : zm_E) := (congrArg (fun l => l[4]?) cd_31).trans rfl
theorem c_31_5 : (zm_cd 31)[5]? = some ((11, .new 323, 3, 2, 0, 1, 0, 0, [325, 327, 1, 2]) : zm_E) := (congrArg (fun l => l[5]?) cd_31).trans rfl
theorem c_31_6 : (zm_cd 31)[6]? = some ((14, .dup, 1, 0, 0, 0, 0, 0, []) : zm_E) := (congrArg (fun l => l[6]?) cd_31).trans rfl
theorem c_31_7 : (zm_cd 31)[7]? = some ((15, .ldc_w 325, 3, 0, 0, 1, 0, 0, []) : zm_E) := (congrArg (fun l => l[7]?) cd_31).trans rfl
theorem c_31_8 : (zm_cd 31)[8]? = some ((18, .invokespecial 327, 3, 1002, 1, 0, 0, 0, []) : zm_E) := (congrArg (fun l => l[8]?) cd_31).trans rfl
theorem c_31_9 : (zm_cd 31)[9]? = some ((21, .athrow, 1, 0, 0, 0, 0, 0, []) : zm_E) := (congrArg (fun l => l[9]?) cd_31).trans rfl
theorem c_31_10 : (zm_cd 31)[10]? = some ((22, .return_, 1, 0, 0, 0, 0, 0, []) : zm_E) := (congrArg (fun l => l[10]?) cd_31).trans rfl
theorem cd_32 : zm_cd 32 = zd_32 := rfl
theorem ml_32 : zm_ml 32 = 2 := rfl
theorem ht_32 : zm_ht 32 = [] := rfl
theorem c_32_0 : (zm_cd 32)[0]? = some ((0, .aload_n 0, 1, 0, 0, 0, 0, 0, []) : zm_E) := (congrArg (fun l => l[0]?) cd_32).trans rfl
theorem c_32_1 : (zm_cd 32)[1]? = some ((1, .getfield 19, 3, 7, 1, 1, 0, 0, []) : zm_E) := (congrArg (fun l => l[1]?) cd_32).trans rfl
theorem c_32_2 : (zm_cd 32)[2]? = some ((4, .iload_n 1, 1, 1, 0, 0, 0, 0, []) : zm_E) := (congrArg (fun l => l[2]?) cd_32).trans rfl
theorem c_32_3 : (zm_cd 32)[3]? = some ((5, .invokevirtual 320, 3, 116, 1, 1, 0, 0, [1]) : zm_E) := (congrArg (fun l => l[3]?) cd_32).trans rfl
theorem c_32_4 : (zm_cd 32)[4]? = some ((8, .ifCond .ne 14, 3, 10, 0, 0, 0, 0, []) : zm_E) := (congrArg (fun l => l[4]?) cd_32).trans rfl
theorem c_32_5 : (zm_cd 32)[5]? = some ((11, .new 323, 3, 2, 0, 1, 0, 0, [328, 327, 1, 3]) : zm_E) := (congrArg (fun l => l[5]?) cd_32).trans rfl
theorem c_32_6 : (zm_cd 32)[6]? = some ((14, .dup, 1, 0, 0, 0, 0, 0, []) : zm_E) := (congrArg (fun l => l[6]?) cd_32).trans rfl
theorem c_32_7 : (zm_cd 32)[7]? = some ((15, .ldc_w 328, 3, 0, 0, 1, 0, 0, []) : zm_E) := (congrArg (fun l => l[7]?) cd_32).trans rfl
theorem c_32_8 : (zm_cd 32)[8]? = some ((18, .invokespecial 327, 3, 1002, 1, 0, 0, 0, []) : zm_E) := (congrArg (fun l => l[8]?) cd_32).trans rfl
theorem c_32_9 : (zm_cd 32)[9]? = some ((21, .athrow, 1, 0, 0, 0, 0, 0, []) : zm_E) := (congrArg (fun l => l[9]?) cd_32).trans rfl
theorem c_32_10 : (zm_cd 32)[10]? = some ((22, .return_, 1, 0, 0, 0, 0, 0, []) : zm_E) := (congrArg (fun l => l[10]?) cd_32).trans rfl
theorem cd_33 : zm_cd 33 = zd_33 := rfl
theorem ml_33 : zm_ml 33 = 2 := rfl
theorem ht_33 : zm_ht 33 = [] := rfl
theorem c_33_0 : (zm_cd 33)[0]? = some ((0, .iload_n 1, 1, 1, 0, 0, 0, 0, []) : zm_E) := (congrArg (fun l => l[0]?) cd_33).trans rfl
theorem c_33_1 : (zm_cd 33)[1]? = some ((1, .ifCond .eq 19, 3, 10, 0, 0, 0, 0, []) : zm_E) := (congrArg (fun l => l[1]?) cd_33).trans rfl
theorem c_33_2 : (zm_cd 33)[2]? = some ((4, .iload_n 1, 1, 1, 0, 0, 0, 0, []) : zm_E) := (congrArg (fun l => l[2]?) cd_33).trans rfl
theorem c_33_3 : (zm_cd 33)[3]? = some ((5, .iconst 1, 1, 0, 0, 0, 1, 0, []) : zm_E) := (congrArg (fun l => l[3]?) cd_33).trans rfl
theorem c_33_4 : (zm_cd 33)[4]? = some ((6, .if_icmp .eq 14, 3, 10, 0, 0, 0, 0, []) : zm_E) := (congrArg (fun l => l[4]?) cd_33).trans rfl
theorem c_33_5 : (zm_cd 33)[5]? = some ((9, .new 323, 3, 2, 0, 1, 0, 0, [330, 327, 1, 6]) : zm_E) := (congrArg (fun l => l[5]?) cd_33).trans rfl
theorem c_33_6 : (zm_cd 33)[6]? = some ((12, .dup, 1, 0, 0, 0, 0, 0, []) : zm_E) := (congrArg (fun l => l[6]?) cd_33).trans rfl
theorem c_33_7 : (zm_cd 33)[7]? = some ((13, .ldc_w 330, 3, 0, 0, 1, 0, 0, []) : zm_E) := (congrArg (fun l => l[7]?) cd_33).trans rfl
theorem c_33_8 : (zm_cd 33)[8]? = some ((16, .invokespecial 327, 3, 1002, 1, 0, 0, 0, []) : zm_E) := (congrArg (fun l => l[8]?) cd_33).trans rfl
theorem c_33_9 : (zm_cd 33)[9]? = some ((19, .athrow, 1, 0, 0, 0, 0, 0, []) : zm_E) := (congrArg (fun l => l[9]?) cd_33).trans rfl
theorem c_33_10 : (zm_cd 33)[10]? = some ((20, .iload_n 1, 1, 1, 0, 0, 0, 0, []) : zm_E) := (congrArg (fun l => l[10]?) cd_33).trans rfl
theorem c_33_11 : (zm_cd 33)[11]? = some ((21, .ifCond .ne 10, 3, 15, 0, 0, 0, 0, []) : zm_E) := (congrArg (fun l => l[11]?) cd_33).trans rfl
theorem c_33_12 : (zm_cd 33)[12]? = some ((24, .aload_n 0, 1, 0, 0, 0, 0, 0, []) : zm_E) := (congrArg (fun l => l[12]?) cd_33).trans rfl
theorem c_33_13 : (zm_cd 33)[13]? = some ((25, .getfield 33, 3, 7, 3, 1, 0, 0, []) : zm_E) := (congrArg (fun l => l[13]?) cd_33).trans rfl
theorem c_33_14 : (zm_cd 33)[14]? = some ((28, .goto 7, 3, 17, 0, 0, 0, 0, []) : zm_E) := (congrArg (fun l => l[14]?) cd_33).trans rfl
theorem c_33_15 : (zm_cd 33)[15]? = some ((31, .aload_n 0, 1, 0, 0, 0, 0, 0, []) : zm_E) := (congrArg (fun l => l[15]?) cd_33).trans rfl
theorem c_33_16 : (zm_cd 33)[16]? = some ((32, .getfield 37, 3, 7, 4, 1, 0, 0, []) : zm_E) := (congrArg (fun l => l[16]?) cd_33).trans rfl
theorem c_33_17 : (zm_cd 33)[17]? = some ((35, .areturn, 1, 0, 0, 0, 0, 0, []) : zm_E) := (congrArg (fun l => l[17]?) cd_33).trans rfl
theorem cd_34 : zm_cd 34 = zd_34 := rfl
theorem ml_34 : zm_ml 34 = 2 := rfl
theorem ht_34 : zm_ht 34 = [] := rfl
theorem c_34_0 : (zm_cd 34)[0]? = some ((0, .aload_n 0, 1, 0, 0, 0, 0, 0, []) : zm_E) := (congrArg (fun l => l[0]?) cd_34).trans rfl
theorem c_34_1 : (zm_cd 34)[1]? = some ((1, .iload_n 1, 1, 1, 0, 0, 0, 0, []) : zm_E) := (congrArg (fun l => l[1]?) cd_34).trans rfl
theorem c_34_2 : (zm_cd 34)[2]? = some ((2, .invokevirtual 332, 3, 176, 1, 1, 0, 0, [6]) : zm_E) := (congrArg (fun l => l[2]?) cd_34).trans rfl
theorem c_34_3 : (zm_cd 34)[3]? = some ((5, .ifCond .ne 14, 3, 9, 0, 0, 0, 0, []) : zm_E) := (congrArg (fun l => l[3]?) cd_34).trans rfl
theorem c_34_4 : (zm_cd 34)[4]? = some ((8, .new 323, 3, 2, 0, 1, 0, 0, [335, 327, 1, 9]) : zm_E) := (congrArg (fun l => l[4]?) cd_34).trans rfl
theorem c_34_5 : (zm_cd 34)[5]? = some ((11, .dup, 1, 0, 0, 0, 0, 0, []) : zm_E) := (congrArg (fun l => l[5]?) cd_34).trans rfl
theorem c_34_6 : (zm_cd 34)[6]? = some ((12, .ldc_w 335, 3, 0, 0, 1, 0, 0, []) : zm_E) := (congrArg (fun l => l[6]?) cd_34).trans rfl
theorem c_34_7 : (zm_cd 34)[7]? = some ((15, .invokespecial 327, 3, 1002, 1, 0, 0, 0, []) : zm_E) := (congrArg (fun l => l[7]?) cd_34).trans rfl
theorem c_34_8 : (zm_cd 34)[8]? = some ((18, .athrow, 1, 0, 0, 0, 0, 0, []) : zm_E) := (congrArg (fun l => l[8]?) cd_34).trans rfl
theorem c_34_9 : (zm_cd 34)[9]? = some ((19, .return_, 1, 0, 0, 0, 0, 0, []) : zm_E) := (congrArg (fun l => l[9]?) cd_34).trans rfl
theorem cd_36 : zm_cd 36 = zd_36 := rfl
theorem ml_36 : zm_ml 36 = 1 := rfl
theorem ht_36 : zm_ht 36 = [] := rfl
theorem c_36_0 : (zm_cd 36)[0]? = some ((0, .iconst 1, 1, 0, 0, 0, 1, 0, []) : zm_E) := (congrArg (fun l => l[0]?) cd_36).trans rfl
theorem c_36_1 : (zm_cd 36)[1]? = some ((1, .iload_n 0, 1, 0, 0, 0, 0, 0, []) : zm_E) := (congrArg (fun l => l[1]?) cd_36).trans rfl
theorem c_36_2 : (zm_cd 36)[2]? = some ((2, .ishl, 1, 0, 0, 0, 0, 0, []) : zm_E) := (congrArg (fun l => l[2]?) cd_36).trans rfl
theorem c_36_3 : (zm_cd 36)[3]? = some ((3, .ireturn, 1, 0, 0, 0, 0, 0, []) : zm_E) := (congrArg (fun l => l[3]?) cd_36).trans rfl
theorem cd_37 : zm_cd 37 = zd_37 := rfl
theorem ml_37 : zm_ml 37 = 2 := rfl
theorem ht_37 : zm_ht 37 = [] := rfl
theorem c_37_0 : (zm_cd 37)[0]? = some ((0, .iload_n 0, 1, 0, 0, 0, 0, 0, []) : zm_E) := (congrArg (fun l => l[0]?) cd_37).trans rfl
theorem c_37_1 : (zm_cd 37)[1]? = some ((1, .iload_n 1, 1, 1, 0, 0, 0, 0, []) : zm_E) := (congrArg (fun l => l[1]?) cd_37).trans rfl
theorem c_37_2 : (zm_cd 37)[2]? = some ((2, .ishr, 1, 0, 0, 0, 0, 0, []) : zm_E) := (congrArg (fun l => l[2]?) cd_37).trans rfl
theorem c_37_3 : (zm_cd 37)[3]? = some ((3, .iconst 1, 1, 0, 0, 0, 1, 0, []) : zm_E) := (congrArg (fun l => l[3]?) cd_37).trans rfl
theorem c_37_4 : (zm_cd 37)[4]? = some ((4, .iand, 1, 0, 0, 0, 0, 0, []) : zm_E) := (congrArg (fun l => l[4]?) cd_37).trans rfl
theorem c_37_5 : (zm_cd 37)[5]? = some ((5, .ifCond .eq 7, 3, 8, 0, 0, 0, 0, []) : zm_E) := (congrArg (fun l => l[5]?) cd_37).trans rfl
theorem c_37_6 : (zm_cd 37)[6]? = some ((8, .iconst 1, 1, 0, 0, 0, 1, 0, []) : zm_E) := (congrArg (fun l => l[6]?) cd_37).trans rfl
theorem c_37_7 : (zm_cd 37)[7]? = some ((9, .goto 4, 3, 9, 0, 0, 0, 0, []) : zm_E) := (congrArg (fun l => l[7]?) cd_37).trans rfl
theorem c_37_8 : (zm_cd 37)[8]? = some ((12, .iconst 0, 1, 0, 0, 0, 0, 0, []) : zm_E) := (congrArg (fun l => l[8]?) cd_37).trans rfl
theorem c_37_9 : (zm_cd 37)[9]? = some ((13, .ireturn, 1, 1, 0, 0, 0, 0, []) : zm_E) := (congrArg (fun l => l[9]?) cd_37).trans rfl
theorem cd_111 : zm_cd 111 = zd_111 := rfl
theorem ml_111 : zm_ml 111 = 1 := rfl
theorem ht_111 : zm_ht 111 = [] := rfl
theorem c_111_0 : (zm_cd 111)[0]? = some ((0, .aload_n 0, 1, 0, 0, 0, 0, 0, []) : zm_E) := (congrArg (fun l => l[0]?) cd_111).trans rfl
theorem c_111_1 : (zm_cd 111)[1]? = some ((1, .iconst 0, 1, 0, 0, 0, 0, 0, []) : zm_E) := (congrArg (fun l => l[1]?) cd_111).trans rfl
theorem c_111_2 : (zm_cd 111)[2]? = some ((2, .putfield 16, 3, 0, 1, 0, 0, 0, []) : zm_E) := (congrArg (fun l => l[2]?) cd_111).trans rfl
theorem c_111_3 : (zm_cd 111)[3]? = some ((5, .return_, 1, 0, 0, 0, 0, 0, []) : zm_E) := (congrArg (fun l => l[3]?) cd_111).trans rfl
theorem cd_112 : zm_cd 112 = zd_112 := rfl
theorem ml_112 : zm_ml 112 = 2 := rfl
theorem ht_112 : zm_ht 112 = [] := rfl
theorem c_112_0 : (zm_cd 112)[0]? = some ((0, .aload_n 0, 1, 0, 0, 0, 0, 0, []) : zm_E) := (congrArg (fun l => l[0]?) cd_112).trans rfl
theorem c_112_1 : (zm_cd 112)[1]? = some ((1, .getfield 20, 3, 0, 2, 0, 0, 0, []) : zm_E) := (congrArg (fun l => l[1]?) cd_112).trans rfl
theorem c_112_2 : (zm_cd 112)[2]? = some ((4, .ifCond .lt 68, 3, 38, 0, 0, 0, 0, []) : zm_E) := (congrArg (fun l => l[2]?) cd_112).trans rfl
theorem c_112_3 : (zm_cd 112)[3]? = some ((7, .aload_n 0, 1, 0, 0, 0, 0, 0, []) : zm_E) := (congrArg (fun l => l[3]?) cd_112).trans rfl
theorem c_112_4 : (zm_cd 112)[4]? = some ((8, .getfield 20, 3, 0, 2, 0, 0, 0, []) : zm_E) := (congrArg (fun l => l[4]?) cd_112).trans rfl
theorem c_112_5 : (zm_cd 112)[5]? = some ((11, .aload_n 0, 1, 0, 0, 0, 0, 0, []) : zm_E) := (congrArg (fun l => l[5]?) cd_112).trans rfl
theorem c_112_6 : (zm_cd 112)[6]? = some ((12, .getfield 11, 3, 0, 0, 1, 0, 0, []) : zm_E) := (congrArg (fun l => l[6]?) cd_112).trans rfl
theorem c_112_7 : (zm_cd 112)[7]? = some ((15, .arraylength, 1, 0, 0, 0, 0, 0, []) : zm_E) := (congrArg (fun l => l[7]?) cd_112).trans rfl
theorem c_112_8 : (zm_cd 112)[8]? = some ((16, .if_icmp .ge 56, 3, 38, 0, 0, 0, 0, []) : zm_E) := (congrArg (fun l => l[8]?) cd_112).trans rfl
theorem c_112_9 : (zm_cd 112)[9]? = some ((19, .aload_n 0, 1, 0, 0, 0, 0, 0, []) : zm_E) := (congrArg (fun l => l[9]?) cd_112).trans rfl
theorem c_112_10 : (zm_cd 112)[10]? = some ((20, .getfield 11, 3, 0, 0, 1, 0, 0, []) : zm_E) := (congrArg (fun l => l[10]?) cd_112).trans rfl
theorem c_112_11 : (zm_cd 112)[11]? = some ((23, .aload_n 0, 1, 0, 0, 0, 0, 0, []) : zm_E) := (congrArg (fun l => l[11]?) cd_112).trans rfl
theorem c_112_12 : (zm_cd 112)[12]? = some ((24, .getfield 20, 3, 0, 2, 0, 0, 0, []) : zm_E) := (congrArg (fun l => l[12]?) cd_112).trans rfl
theorem c_112_13 : (zm_cd 112)[13]? = some ((27, .aaload, 1, 0, 0, 0, 0, 0, []) : zm_E) := (congrArg (fun l => l[13]?) cd_112).trans rfl
theorem c_112_14 : (zm_cd 112)[14]? = some ((28, .ifnull 44, 3, 38, 0, 0, 0, 0, []) : zm_E) := (congrArg (fun l => l[14]?) cd_112).trans rfl
theorem c_112_15 : (zm_cd 112)[15]? = some ((31, .aload_n 0, 1, 0, 0, 0, 0, 0, []) : zm_E) := (congrArg (fun l => l[15]?) cd_112).trans rfl
theorem c_112_16 : (zm_cd 112)[16]? = some ((32, .getfield 11, 3, 0, 0, 1, 0, 0, []) : zm_E) := (congrArg (fun l => l[16]?) cd_112).trans rfl
theorem c_112_17 : (zm_cd 112)[17]? = some ((35, .aload_n 0, 1, 0, 0, 0, 0, 0, []) : zm_E) := (congrArg (fun l => l[17]?) cd_112).trans rfl
theorem c_112_18 : (zm_cd 112)[18]? = some ((36, .getfield 20, 3, 0, 2, 0, 0, 0, []) : zm_E) := (congrArg (fun l => l[18]?) cd_112).trans rfl
theorem c_112_19 : (zm_cd 112)[19]? = some ((39, .aaload, 1, 0, 0, 0, 0, 0, []) : zm_E) := (congrArg (fun l => l[19]?) cd_112).trans rfl
theorem c_112_20 : (zm_cd 112)[20]? = some ((40, .aload_n 1, 1, 1, 0, 0, 0, 0, []) : zm_E) := (congrArg (fun l => l[20]?) cd_112).trans rfl
theorem c_112_21 : (zm_cd 112)[21]? = some ((41, .invokevirtual 23, 3, 115, 1, 0, 0, 0, [1]) : zm_E) := (congrArg (fun l => l[21]?) cd_112).trans rfl
theorem c_112_22 : (zm_cd 112)[22]? = some ((44, .aload_n 0, 1, 0, 0, 0, 0, 0, []) : zm_E) := (congrArg (fun l => l[22]?) cd_112).trans rfl
theorem c_112_23 : (zm_cd 112)[23]? = some ((45, .aload_n 0, 1, 0, 0, 0, 0, 0, []) : zm_E) := (congrArg (fun l => l[23]?) cd_112).trans rfl
theorem c_112_24 : (zm_cd 112)[24]? = some ((46, .getfield 20, 3, 0, 2, 0, 0, 0, []) : zm_E) := (congrArg (fun l => l[24]?) cd_112).trans rfl
theorem c_112_25 : (zm_cd 112)[25]? = some ((49, .iconst 1, 1, 0, 0, 0, 1, 0, []) : zm_E) := (congrArg (fun l => l[25]?) cd_112).trans rfl
theorem c_112_26 : (zm_cd 112)[26]? = some ((50, .iadd, 1, 0, 0, 0, 0, 0, []) : zm_E) := (congrArg (fun l => l[26]?) cd_112).trans rfl
theorem c_112_27 : (zm_cd 112)[27]? = some ((51, .bipush 14, 2, 0, 0, 0, 14, 0, []) : zm_E) := (congrArg (fun l => l[27]?) cd_112).trans rfl
theorem c_112_28 : (zm_cd 112)[28]? = some ((53, .irem, 1, 0, 0, 0, 0, 0, []) : zm_E) := (congrArg (fun l => l[28]?) cd_112).trans rfl
theorem c_112_29 : (zm_cd 112)[29]? = some ((54, .putfield 20, 3, 0, 2, 0, 0, 0, []) : zm_E) := (congrArg (fun l => l[29]?) cd_112).trans rfl
theorem c_112_30 : (zm_cd 112)[30]? = some ((57, .aload_n 0, 1, 0, 0, 0, 0, 0, []) : zm_E) := (congrArg (fun l => l[30]?) cd_112).trans rfl
theorem c_112_31 : (zm_cd 112)[31]? = some ((58, .aload_n 0, 1, 0, 0, 0, 0, 0, []) : zm_E) := (congrArg (fun l => l[31]?) cd_112).trans rfl
theorem c_112_32 : (zm_cd 112)[32]? = some ((59, .getfield 16, 3, 0, 1, 0, 0, 0, []) : zm_E) := (congrArg (fun l => l[32]?) cd_112).trans rfl
theorem c_112_33 : (zm_cd 112)[33]? = some ((62, .iconst 1, 1, 0, 0, 0, 1, 0, []) : zm_E) := (congrArg (fun l => l[33]?) cd_112).trans rfl
theorem c_112_34 : (zm_cd 112)[34]? = some ((63, .iadd, 1, 0, 0, 0, 0, 0, []) : zm_E) := (congrArg (fun l => l[34]?) cd_112).trans rfl
theorem c_112_35 : (zm_cd 112)[35]? = some ((64, .bipush 14, 2, 0, 0, 0, 14, 0, []) : zm_E) := (congrArg (fun l => l[35]?) cd_112).trans rfl
theorem c_112_36 : (zm_cd 112)[36]? = some ((66, .invokestatic 27, 3, 1003, 2, 1, 0, 0, []) : zm_E) := (congrArg (fun l => l[36]?) cd_112).trans rfl
theorem c_112_37 : (zm_cd 112)[37]? = some ((69, .putfield 16, 3, 0, 1, 0, 0, 0, []) : zm_E) := (congrArg (fun l => l[37]?) cd_112).trans rfl
theorem c_112_38 : (zm_cd 112)[38]? = some ((72, .return_, 1, 0, 0, 0, 0, 0, []) : zm_E) := (congrArg (fun l => l[38]?) cd_112).trans rfl
theorem cd_113 : zm_cd 113 = zd_113 := rfl
theorem ml_113 : zm_ml 113 = 3 := rfl
theorem ht_113 : zm_ht 113 = [] := rfl
theorem c_113_0 : (zm_cd 113)[0]? = some ((0, .aload_n 0, 1, 0, 0, 0, 0, 0, []) : zm_E) := (congrArg (fun l => l[0]?) cd_113).trans rfl
theorem c_113_1 : (zm_cd 113)[1]? = some ((1, .getfield 20, 3, 0, 2, 0, 0, 0, []) : zm_E) := (congrArg (fun l => l[1]?) cd_113).trans rfl
theorem c_113_2 : (zm_cd 113)[2]? = some ((4, .bipush 14, 2, 0, 0, 0, 14, 0, []) : zm_E) := (congrArg (fun l => l[2]?) cd_113).trans rfl
theorem c_113_3 : (zm_cd 113)[3]? = some ((6, .iadd, 1, 0, 0, 0, 0, 0, []) : zm_E) := (congrArg (fun l => l[3]?) cd_113).trans rfl
theorem c_113_4 : (zm_cd 113)[4]? = some ((7, .iconst 1, 1, 0, 0, 0, 1, 0, []) : zm_E) := (congrArg (fun l => l[4]?) cd_113).trans rfl
theorem c_113_5 : (zm_cd 113)[5]? = some ((8, .isub, 1, 0, 0, 0, 0, 0, []) : zm_E) := (congrArg (fun l => l[5]?) cd_113).trans rfl
theorem c_113_6 : (zm_cd 113)[6]? = some ((9, .bipush 14, 2, 0, 0, 0, 14, 0, []) : zm_E) := (congrArg (fun l => l[6]?) cd_113).trans rfl
theorem c_113_7 : (zm_cd 113)[7]? = some ((11, .irem, 1, 0, 0, 0, 0, 0, []) : zm_E) := (congrArg (fun l => l[7]?) cd_113).trans rfl
theorem c_113_8 : (zm_cd 113)[8]? = some ((12, .istore_n 2, 1, 2, 0, 0, 0, 0, []) : zm_E) := (congrArg (fun l => l[8]?) cd_113).trans rfl
theorem c_113_9 : (zm_cd 113)[9]? = some ((13, .aload_n 0, 1, 0, 0, 0, 0, 0, []) : zm_E) := (congrArg (fun l => l[9]?) cd_113).trans rfl
theorem c_113_10 : (zm_cd 113)[10]? = some ((14, .getfield 16, 3, 0, 1, 0, 0, 0, []) : zm_E) := (congrArg (fun l => l[10]?) cd_113).trans rfl
theorem c_113_11 : (zm_cd 113)[11]? = some ((17, .ifCond .le 50, 3, 39, 0, 0, 0, 0, []) : zm_E) := (congrArg (fun l => l[11]?) cd_113).trans rfl
theorem c_113_12 : (zm_cd 113)[12]? = some ((20, .iload_n 2, 1, 2, 0, 0, 0, 0, []) : zm_E) := (congrArg (fun l => l[12]?) cd_113).trans rfl
theorem c_113_13 : (zm_cd 113)[13]? = some ((21, .ifCond .lt 46, 3, 39, 0, 0, 0, 0, []) : zm_E) := (congrArg (fun l => l[13]?) cd_113).trans rfl
theorem c_113_14 : (zm_cd 113)[14]? = some ((24, .iload_n 2, 1, 2, 0, 0, 0, 0, []) : zm_E) := (congrArg (fun l => l[14]?) cd_113).trans rfl
theorem c_113_15 : (zm_cd 113)[15]? = some ((25, .aload_n 0, 1, 0, 0, 0, 0, 0, []) : zm_E) := (congrArg (fun l => l[15]?) cd_113).trans rfl
theorem c_113_16 : (zm_cd 113)[16]? = some ((26, .getfield 11, 3, 0, 0, 1, 0, 0, []) : zm_E) := (congrArg (fun l => l[16]?) cd_113).trans rfl
theorem c_113_17 : (zm_cd 113)[17]? = some ((29, .arraylength, 1, 0, 0, 0, 0, 0, []) : zm_E) := (congrArg (fun l => l[17]?) cd_113).trans rfl
theorem c_113_18 : (zm_cd 113)[18]? = some ((30, .if_icmp .ge 37, 3, 39, 0, 0, 0, 0, []) : zm_E) := (congrArg (fun l => l[18]?) cd_113).trans rfl
theorem c_113_19 : (zm_cd 113)[19]? = some ((33, .aload_n 0, 1, 0, 0, 0, 0, 0, []) : zm_E) := (congrArg (fun l => l[19]?) cd_113).trans rfl
theorem c_113_20 : (zm_cd 113)[20]? = some ((34, .getfield 11, 3, 0, 0, 1, 0, 0, []) : zm_E) := (congrArg (fun l => l[20]?) cd_113).trans rfl
theorem c_113_21 : (zm_cd 113)[21]? = some ((37, .iload_n 2, 1, 2, 0, 0, 0, 0, []) : zm_E) := (congrArg (fun l => l[21]?) cd_113).trans rfl
theorem c_113_22 : (zm_cd 113)[22]? = some ((38, .aaload, 1, 0, 0, 0, 0, 0, []) : zm_E) := (congrArg (fun l => l[22]?) cd_113).trans rfl
theorem c_113_23 : (zm_cd 113)[23]? = some ((39, .ifnull 28, 3, 39, 0, 0, 0, 0, []) : zm_E) := (congrArg (fun l => l[23]?) cd_113).trans rfl
theorem c_113_24 : (zm_cd 113)[24]? = some ((42, .aload_n 1, 1, 1, 0, 0, 0, 0, []) : zm_E) := (congrArg (fun l => l[24]?) cd_113).trans rfl
theorem c_113_25 : (zm_cd 113)[25]? = some ((43, .aload_n 0, 1, 0, 0, 0, 0, 0, []) : zm_E) := (congrArg (fun l => l[25]?) cd_113).trans rfl
theorem c_113_26 : (zm_cd 113)[26]? = some ((44, .getfield 11, 3, 0, 0, 1, 0, 0, []) : zm_E) := (congrArg (fun l => l[26]?) cd_113).trans rfl
theorem c_113_27 : (zm_cd 113)[27]? = some ((47, .iload_n 2, 1, 2, 0, 0, 0, 0, []) : zm_E) := (congrArg (fun l => l[27]?) cd_113).trans rfl
theorem c_113_28 : (zm_cd 113)[28]? = some ((48, .aaload, 1, 0, 0, 0, 0, 0, []) : zm_E) := (congrArg (fun l => l[28]?) cd_113).trans rfl
theorem c_113_29 : (zm_cd 113)[29]? = some ((49, .invokevirtual 23, 3, 115, 1, 0, 0, 0, [1]) : zm_E) := (congrArg (fun l => l[29]?) cd_113).trans rfl
theorem c_113_30 : (zm_cd 113)[30]? = some ((52, .aload_n 0, 1, 0, 0, 0, 0, 0, []) : zm_E) := (congrArg (fun l => l[30]?) cd_113).trans rfl
theorem c_113_31 : (zm_cd 113)[31]? = some ((53, .iload_n 2, 1, 2, 0, 0, 0, 0, []) : zm_E) := (congrArg (fun l => l[31]?) cd_113).trans rfl
theorem c_113_32 : (zm_cd 113)[32]? = some ((54, .putfield 20, 3, 0, 2, 0, 0, 0, []) : zm_E) := (congrArg (fun l => l[32]?) cd_113).trans rfl
theorem c_113_33 : (zm_cd 113)[33]? = some ((57, .aload_n 0, 1, 0, 0, 0, 0, 0, []) : zm_E) := (congrArg (fun l => l[33]?) cd_113).trans rfl
theorem c_113_34 : (zm_cd 113)[34]? = some ((58, .dup, 1, 0, 0, 0, 0, 0, []) : zm_E) := (congrArg (fun l => l[34]?) cd_113).trans rfl
theorem c_113_35 : (zm_cd 113)[35]? = some ((59, .getfield 16, 3, 0, 1, 0, 0, 0, []) : zm_E) := (congrArg (fun l => l[35]?) cd_113).trans rfl
theorem c_113_36 : (zm_cd 113)[36]? = some ((62, .iconst 1, 1, 0, 0, 0, 1, 0, []) : zm_E) := (congrArg (fun l => l[36]?) cd_113).trans rfl
theorem c_113_37 : (zm_cd 113)[37]? = some ((63, .isub, 1, 0, 0, 0, 0, 0, []) : zm_E) := (congrArg (fun l => l[37]?) cd_113).trans rfl
theorem c_113_38 : (zm_cd 113)[38]? = some ((64, .putfield 16, 3, 0, 1, 0, 0, 0, []) : zm_E) := (congrArg (fun l => l[38]?) cd_113).trans rfl
theorem c_113_39 : (zm_cd 113)[39]? = some ((67, .return_, 1, 0, 0, 0, 0, 0, []) : zm_E) := (congrArg (fun l => l[39]?) cd_113).trans rfl
theorem cd_115 : zm_cd 115 = zd_115 := rfl
theorem ml_115 : zm_ml 115 = 2 := rfl
theorem ht_115 : zm_ht 115 = [] := rfl
theorem c_115_0 : (zm_cd 115)[0]? = some ((0, .aload_n 0, 1, 0, 0, 0, 0, 0, []) : zm_E) := (congrArg (fun l => l[0]?) cd_115).trans rfl
theorem c_115_1 : (zm_cd 115)[1]? = some ((1, .aload_n 1, 1, 1, 0, 0, 0, 0, []) : zm_E) := (congrArg (fun l => l[1]?) cd_115).trans rfl
theorem c_115_2 : (zm_cd 115)[2]? = some ((2, .getfield 18, 3, 1, 0, 0, 0, 0, []) : zm_E) := (congrArg (fun l => l[2]?) cd_115).trans rfl
theorem c_115_3 : (zm_cd 115)[3]? = some ((5, .putfield 18, 3, 1, 0, 0, 0, 0, []) : zm_E) := (congrArg (fun l => l[3]?) cd_115).trans rfl
theorem c_115_4 : (zm_cd 115)[4]? = some ((8, .aload_n 0, 1, 0, 0, 0, 0, 0, []) : zm_E) := (congrArg (fun l => l[4]?) cd_115).trans rfl
theorem c_115_5 : (zm_cd 115)[5]? = some ((9, .aload_n 1, 1, 1, 0, 0, 0, 0, []) : zm_E) := (congrArg (fun l => l[5]?) cd_115).trans rfl
theorem c_115_6 : (zm_cd 115)[6]? = some ((10, .getfield 22, 3, 1, 1, 0, 0, 0, []) : zm_E) := (congrArg (fun l => l[6]?) cd_115).trans rfl
theorem c_115_7 : (zm_cd 115)[7]? = some ((13, .putfield 22, 3, 1, 1, 0, 0, 0, []) : zm_E) := (congrArg (fun l => l[7]?) cd_115).trans rfl
theorem c_115_8 : (zm_cd 115)[8]? = some ((16, .aload_n 1, 1, 1, 0, 0, 0, 0, []) : zm_E) := (congrArg (fun l => l[8]?) cd_115).trans rfl
theorem c_115_9 : (zm_cd 115)[9]? = some ((17, .getfield 9, 3, 1, 2, 1, 0, 0, []) : zm_E) := (congrArg (fun l => l[9]?) cd_115).trans rfl
theorem c_115_10 : (zm_cd 115)[10]? = some ((20, .aload_n 0, 1, 0, 0, 0, 0, 0, []) : zm_E) := (congrArg (fun l => l[10]?) cd_115).trans rfl
theorem c_115_11 : (zm_cd 115)[11]? = some ((21, .getfield 9, 3, 1, 2, 1, 0, 0, []) : zm_E) := (congrArg (fun l => l[11]?) cd_115).trans rfl
theorem c_115_12 : (zm_cd 115)[12]? = some ((24, .invokestatic 25, 3, 211, 2, 0, 1, 0, []) : zm_E) := (congrArg (fun l => l[12]?) cd_115).trans rfl
theorem c_115_13 : (zm_cd 115)[13]? = some ((27, .aload_n 1, 1, 1, 0, 0, 0, 0, []) : zm_E) := (congrArg (fun l => l[13]?) cd_115).trans rfl
theorem c_115_14 : (zm_cd 115)[14]? = some ((28, .getfield 15, 3, 1, 3, 1, 0, 0, []) : zm_E) := (congrArg (fun l => l[14]?) cd_115).trans rfl
theorem c_115_15 : (zm_cd 115)[15]? = some ((31, .aload_n 0, 1, 0, 0, 0, 0, 0, []) : zm_E) := (congrArg (fun l => l[15]?) cd_115).trans rfl
theorem c_115_16 : (zm_cd 115)[16]? = some ((32, .getfield 15, 3, 1, 3, 1, 0, 0, []) : zm_E) := (congrArg (fun l => l[16]?) cd_115).trans rfl
theorem c_115_17 : (zm_cd 115)[17]? = some ((35, .invokestatic 25, 3, 211, 2, 0, 1, 0, []) : zm_E) := (congrArg (fun l => l[17]?) cd_115).trans rfl
theorem c_115_18 : (zm_cd 115)[18]? = some ((38, .return_, 1, 0, 0, 0, 0, 0, []) : zm_E) := (congrArg (fun l => l[18]?) cd_115).trans rfl
theorem cd_116 : zm_cd 116 = zd_116 := rfl
theorem ml_116 : zm_ml 116 = 2 := rfl
theorem ht_116 : zm_ht 116 = [] := rfl
theorem c_116_0 : (zm_cd 116)[0]? = some ((0, .iload_n 1, 1, 1, 0, 0, 0, 0, []) : zm_E) := (congrArg (fun l => l[0]?) cd_116).trans rfl
theorem c_116_1 : (zm_cd 116)[1]? = some ((1, .ifCond .lt 15, 3, 8, 0, 0, 0, 0, []) : zm_E) := (congrArg (fun l => l[1]?) cd_116).trans rfl
theorem c_116_2 : (zm_cd 116)[2]? = some ((4, .iload_n 1, 1, 1, 0, 0, 0, 0, []) : zm_E) := (congrArg (fun l => l[2]?) cd_116).trans rfl
theorem c_116_3 : (zm_cd 116)[3]? = some ((5, .aload_n 0, 1, 0, 0, 0, 0, 0, []) : zm_E) := (congrArg (fun l => l[3]?) cd_116).trans rfl
theorem c_116_4 : (zm_cd 116)[4]? = some ((6, .getfield 18, 3, 1, 0, 0, 0, 0, []) : zm_E) := (congrArg (fun l => l[4]?) cd_116).trans rfl
theorem c_116_5 : (zm_cd 116)[5]? = some ((9, .if_icmp .ge 7, 3, 8, 0, 0, 0, 0, []) : zm_E) := (congrArg (fun l => l[5]?) cd_116).trans rfl
theorem c_116_6 : (zm_cd 116)[6]? = some ((12, .iconst 1, 1, 0, 0, 0, 1, 0, []) : zm_E) := (congrArg (fun l => l[6]?) cd_116).trans rfl
theorem c_116_7 : (zm_cd 116)[7]? = some ((13, .goto 4, 3, 9, 0, 0, 0, 0, []) : zm_E) := (congrArg (fun l => l[7]?) cd_116).trans rfl
theorem c_116_8 : (zm_cd 116)[8]? = some ((16, .iconst 0, 1, 0, 0, 0, 0, 0, []) : zm_E) := (congrArg (fun l => l[8]?) cd_116).trans rfl
theorem c_116_9 : (zm_cd 116)[9]? = some ((17, .ireturn, 1, 1, 0, 0, 0, 0, []) : zm_E) := (congrArg (fun l => l[9]?) cd_116).trans rfl
theorem cd_117 : zm_cd 117 = zd_117 := rfl
theorem ml_117 : zm_ml 117 = 1 := rfl
theorem ht_117 : zm_ht 117 = [] := rfl
theorem c_117_0 : (zm_cd 117)[0]? = some ((0, .aload_n 0, 1, 0, 0, 0, 0, 0, []) : zm_E) := (congrArg (fun l => l[0]?) cd_117).trans rfl
theorem c_117_1 : (zm_cd 117)[1]? = some ((1, .getfield 18, 3, 1, 0, 0, 0, 0, []) : zm_E) := (congrArg (fun l => l[1]?) cd_117).trans rfl
theorem c_117_2 : (zm_cd 117)[2]? = some ((4, .invokestatic 29, 3, 36, 1, 1, 1, 0, []) : zm_E) := (congrArg (fun l => l[2]?) cd_117).trans rfl
theorem c_117_3 : (zm_cd 117)[3]? = some ((7, .iconst 1, 1, 0, 0, 0, 1, 0, []) : zm_E) := (congrArg (fun l => l[3]?) cd_117).trans rfl
theorem c_117_4 : (zm_cd 117)[4]? = some ((8, .isub, 1, 0, 0, 0, 0, 0, []) : zm_E) := (congrArg (fun l => l[4]?) cd_117).trans rfl
theorem c_117_5 : (zm_cd 117)[5]? = some ((9, .ireturn, 1, 0, 0, 0, 0, 0, []) : zm_E) := (congrArg (fun l => l[5]?) cd_117).trans rfl
theorem cd_118 : zm_cd 118 = zd_118 := rfl
theorem ml_118 : zm_ml 118 = 1 := rfl
theorem ht_118 : zm_ht 118 = [] := rfl
theorem c_118_0 : (zm_cd 118)[0]? = some ((0, .aload_n 0, 1, 0, 0, 0, 0, 0, []) : zm_E) := (congrArg (fun l => l[0]?) cd_118).trans rfl
theorem c_118_1 : (zm_cd 118)[1]? = some ((1, .invokevirtual 33, 3, 117, 0, 1, 0, 0, [1]) : zm_E) := (congrArg (fun l => l[1]?) cd_118).trans rfl
theorem c_118_2 : (zm_cd 118)[2]? = some ((4, .aload_n 0, 1, 0, 0, 0, 0, 0, []) : zm_E) := (congrArg (fun l => l[2]?) cd_118).trans rfl
theorem c_118_3 : (zm_cd 118)[3]? = some ((5, .getfield 22, 3, 1, 1, 0, 0, 0, []) : zm_E) := (congrArg (fun l => l[3]?) cd_118).trans rfl
theorem c_118_4 : (zm_cd 118)[4]? = some ((8, .iconst (-1), 1, 0, 0, 0, (-1), 0, []) : zm_E) := (congrArg (fun l => l[4]?) cd_118).trans rfl
theorem c_118_5 : (zm_cd 118)[5]? = some ((9, .ixor, 1, 0, 0, 0, 0, 0, []) : zm_E) := (congrArg (fun l => l[5]?) cd_118).trans rfl
theorem c_118_6 : (zm_cd 118)[6]? = some ((10, .iand, 1, 0, 0, 0, 0, 0, []) : zm_E) := (congrArg (fun l => l[6]?) cd_118).trans rfl
theorem c_118_7 : (zm_cd 118)[7]? = some ((11, .ireturn, 1, 0, 0, 0, 0, 0, []) : zm_E) := (congrArg (fun l => l[7]?) cd_118).trans rfl
theorem cd_119 : zm_cd 119 = zd_119 := rfl
theorem ml_119 : zm_ml 119 = 2 := rfl
theorem ht_119 : zm_ht 119 = [] := rfl
theorem c_119_0 : (zm_cd 119)[0]? = some ((0, .aload_n 0, 1, 0, 0, 0, 0, 0, []) : zm_E) := (congrArg (fun l => l[0]?) cd_119).trans rfl
theorem c_119_1 : (zm_cd 119)[1]? = some ((1, .getfield 22, 3, 1, 1, 0, 0, 0, []) : zm_E) := (congrArg (fun l => l[1]?) cd_119).trans rfl
theorem c_119_2 : (zm_cd 119)[2]? = some ((4, .iload_n 1, 1, 1, 0, 0, 0, 0, []) : zm_E) := (congrArg (fun l => l[2]?) cd_119).trans rfl
theorem c_119_3 : (zm_cd 119)[3]? = some ((5, .invokestatic 37, 3, 37, 2, 1, 1, 0, []) : zm_E) := (congrArg (fun l => l[3]?) cd_119).trans rfl
theorem c_119_4 : (zm_cd 119)[4]? = some ((8, .ifCond .ne 7, 3, 7, 0, 0, 0, 0, []) : zm_E) := (congrArg (fun l => l[4]?) cd_119).trans rfl
theorem c_119_5 : (zm_cd 119)[5]? = some ((11, .iconst 1, 1, 0, 0, 0, 1, 0, []) : zm_E) := (congrArg (fun l => l[5]?) cd_119).trans rfl
theorem c_119_6 : (zm_cd 119)[6]? = some ((12, .goto 4, 3, 8, 0, 0, 0, 0, []) : zm_E) := (congrArg (fun l => l[6]?) cd_119).trans rfl
theorem c_119_7 : (zm_cd 119)[7]? = some ((15, .iconst 0, 1, 0, 0, 0, 0, 0, []) : zm_E) := (congrArg (fun l => l[7]?) cd_119).trans rfl
theorem c_119_8 : (zm_cd 119)[8]? = some ((16, .ireturn, 1, 1, 0, 0, 0, 0, []) : zm_E) := (congrArg (fun l => l[8]?) cd_119).trans rfl
theorem cd_120 : zm_cd 120 = zd_120 := rfl
theorem ml_120 : zm_ml 120 = 1 := rfl
theorem ht_120 : zm_ht 120 = [] := rfl
theorem c_120_0 : (zm_cd 120)[0]? = some ((0, .aload_n 0, 1, 0, 0, 0, 0, 0, []) : zm_E) := (congrArg (fun l => l[0]?) cd_120).trans rfl
theorem c_120_1 : (zm_cd 120)[1]? = some ((1, .invokevirtual 41, 3, 118, 0, 1, 0, 0, [1]) : zm_E) := (congrArg (fun l => l[1]?) cd_120).trans rfl
theorem c_120_2 : (zm_cd 120)[2]? = some ((4, .invokestatic 44, 3, 207, 1, 1, 0, 0, []) : zm_E) := (congrArg (fun l => l[2]?) cd_120).trans rfl
theorem c_120_3 : (zm_cd 120)[3]? = some ((7, .ireturn, 1, 0, 0, 0, 0, 0, []) : zm_E) := (congrArg (fun l => l[3]?) cd_120).trans rfl
theorem cd_121 : zm_cd 121 = zd_121 := rfl
theorem ml_121 : zm_ml 121 = 4 := rfl
theorem ht_121 : zm_ht 121 = [] := rfl
theorem c_121_0 : (zm_cd 121)[0]? = some ((0, .iload_n 1, 1, 1, 0, 0, 0, 0, []) : zm_E) := (congrArg (fun l => l[0]?) cd_121).trans rfl
theorem c_121_1 : (zm_cd 121)[1]? = some ((1, .bipush 7, 2, 0, 0, 0, 7, 0, []) : zm_E) := (congrArg (fun l => l[1]?) cd_121).trans rfl
theorem c_121_2 : (zm_cd 121)[2]? = some ((3, .imul, 1, 0, 0, 0, 0, 0, []) : zm_E) := (congrArg (fun l => l[2]?) cd_121).trans rfl
theorem c_121_3 : (zm_cd 121)[3]? = some ((4, .iload_n 2, 1, 2, 0, 0, 0, 0, []) : zm_E) := (congrArg (fun l => l[3]?) cd_121).trans rfl
theorem c_121_4 : (zm_cd 121)[4]? = some ((5, .iadd, 1, 0, 0, 0, 0, 0, []) : zm_E) := (congrArg (fun l => l[4]?) cd_121).trans rfl
theorem c_121_5 : (zm_cd 121)[5]? = some ((6, .istore_n 3, 1, 3, 0, 0, 0, 0, []) : zm_E) := (congrArg (fun l => l[5]?) cd_121).trans rfl
theorem c_121_6 : (zm_cd 121)[6]? = some ((7, .iload_n 3, 1, 3, 0, 0, 0, 0, []) : zm_E) := (congrArg (fun l => l[6]?) cd_121).trans rfl
theorem c_121_7 : (zm_cd 121)[7]? = some ((8, .ifCond .lt 21, 3, 18, 0, 0, 0, 0, []) : zm_E) := (congrArg (fun l => l[7]?) cd_121).trans rfl
theorem c_121_8 : (zm_cd 121)[8]? = some ((11, .iload_n 3, 1, 3, 0, 0, 0, 0, []) : zm_E) := (congrArg (fun l => l[8]?) cd_121).trans rfl
theorem c_121_9 : (zm_cd 121)[9]? = some ((12, .aload_n 0, 1, 0, 0, 0, 0, 0, []) : zm_E) := (congrArg (fun l => l[9]?) cd_121).trans rfl
theorem c_121_10 : (zm_cd 121)[10]? = some ((13, .getfield 9, 3, 1, 2, 1, 0, 0, []) : zm_E) := (congrArg (fun l => l[10]?) cd_121).trans rfl
theorem c_121_11 : (zm_cd 121)[11]? = some ((16, .arraylength, 1, 0, 0, 0, 0, 0, []) : zm_E) := (congrArg (fun l => l[11]?) cd_121).trans rfl
theorem c_121_12 : (zm_cd 121)[12]? = some ((17, .if_icmp .ge 12, 3, 18, 0, 0, 0, 0, []) : zm_E) := (congrArg (fun l => l[12]?) cd_121).trans rfl
theorem c_121_13 : (zm_cd 121)[13]? = some ((20, .aload_n 0, 1, 0, 0, 0, 0, 0, []) : zm_E) := (congrArg (fun l => l[13]?) cd_121).trans rfl
theorem c_121_14 : (zm_cd 121)[14]? = some ((21, .getfield 9, 3, 1, 2, 1, 0, 0, []) : zm_E) := (congrArg (fun l => l[14]?) cd_121).trans rfl
theorem c_121_15 : (zm_cd 121)[15]? = some ((24, .iload_n 3, 1, 3, 0, 0, 0, 0, []) : zm_E) := (congrArg (fun l => l[15]?) cd_121).trans rfl
theorem c_121_16 : (zm_cd 121)[16]? = some ((25, .iaload, 1, 0, 0, 0, 0, 0, []) : zm_E) := (congrArg (fun l => l[16]?) cd_121).trans rfl
theorem c_121_17 : (zm_cd 121)[17]? = some ((26, .goto 5, 3, 19, 0, 0, 0, 0, []) : zm_E) := (congrArg (fun l => l[17]?) cd_121).trans rfl
theorem c_121_18 : (zm_cd 121)[18]? = some ((29, .bipush (-9), 2, 0, 0, 0, (-9), 0, []) : zm_E) := (congrArg (fun l => l[18]?) cd_121).trans rfl
theorem c_121_19 : (zm_cd 121)[19]? = some ((31, .ireturn, 1, 0, 0, 0, 0, 0, []) : zm_E) := (congrArg (fun l => l[19]?) cd_121).trans rfl
theorem cd_122 : zm_cd 122 = zd_122 := rfl
theorem ml_122 : zm_ml 122 = 2 := rfl
theorem ht_122 : zm_ht 122 = [] := rfl
theorem c_122_0 : (zm_cd 122)[0]? = some ((0, .aload_n 0, 1, 0, 0, 0, 0, 0, []) : zm_E) := (congrArg (fun l => l[0]?) cd_122).trans rfl
theorem c_122_1 : (zm_cd 122)[1]? = some ((1, .iload_n 1, 1, 1, 0, 0, 0, 0, []) : zm_E) := (congrArg (fun l => l[1]?) cd_122).trans rfl
theorem c_122_2 : (zm_cd 122)[2]? = some ((2, .aload_n 0, 1, 0, 0, 0, 0, 0, []) : zm_E) := (congrArg (fun l => l[2]?) cd_122).trans rfl
theorem c_122_3 : (zm_cd 122)[3]? = some ((3, .getfield 15, 3, 1, 3, 1, 0, 0, []) : zm_E) := (congrArg (fun l => l[3]?) cd_122).trans rfl
theorem c_122_4 : (zm_cd 122)[4]? = some ((6, .iload_n 1, 1, 1, 0, 0, 0, 0, []) : zm_E) := (congrArg (fun l => l[4]?) cd_122).trans rfl
theorem c_122_5 : (zm_cd 122)[5]? = some ((7, .invokestatic 49, 3, 209, 2, 1, 1, 0, []) : zm_E) := (congrArg (fun l => l[5]?) cd_122).trans rfl
theorem c_122_6 : (zm_cd 122)[6]? = some ((10, .invokevirtual 53, 3, 121, 2, 1, 0, 0, [1]) : zm_E) := (congrArg (fun l => l[6]?) cd_122).trans rfl
theorem c_122_7 : (zm_cd 122)[7]? = some ((13, .ireturn, 1, 0, 0, 0, 0, 0, []) : zm_E) := (congrArg (fun l => l[7]?) cd_122).trans rfl
theorem cd_123 : zm_cd 123 = zd_123 := rfl
theorem ml_123 : zm_ml 123 = 4 := rfl
theorem ht_123 : zm_ht 123 = [] := rfl
theorem c_123_0 : (zm_cd 123)[0]? = some ((0, .aload_n 0, 1, 0, 0, 0, 0, 0, []) : zm_E) := (congrArg (fun l => l[0]?) cd_123).trans rfl
theorem c_123_1 : (zm_cd 123)[1]? = some ((1, .getfield 9, 3, 1, 2, 1, 0, 0, []) : zm_E) := (congrArg (fun l => l[1]?) cd_123).trans rfl
theorem c_123_2 : (zm_cd 123)[2]? = some ((4, .iload_n 1, 1, 1, 0, 0, 0, 0, []) : zm_E) := (congrArg (fun l => l[2]?) cd_123).trans rfl
theorem c_123_3 : (zm_cd 123)[3]? = some ((5, .bipush 7, 2, 0, 0, 0, 7, 0, []) : zm_E) := (congrArg (fun l => l[3]?) cd_123).trans rfl
theorem c_123_4 : (zm_cd 123)[4]? = some ((7, .imul, 1, 0, 0, 0, 0, 0, []) : zm_E) := (congrArg (fun l => l[4]?) cd_123).trans rfl
theorem c_123_5 : (zm_cd 123)[5]? = some ((8, .iload_n 2, 1, 2, 0, 0, 0, 0, []) : zm_E) := (congrArg (fun l => l[5]?) cd_123).trans rfl
theorem c_123_6 : (zm_cd 123)[6]? = some ((9, .iadd, 1, 0, 0, 0, 0, 0, []) : zm_E) := (congrArg (fun l => l[6]?) cd_123).trans rfl
theorem c_123_7 : (zm_cd 123)[7]? = some ((10, .iload_n 3, 1, 3, 0, 0, 0, 0, []) : zm_E) := (congrArg (fun l => l[7]?) cd_123).trans rfl
theorem c_123_8 : (zm_cd 123)[8]? = some ((11, .invokestatic 57, 3, 210, 3, 0, 1, 0, []) : zm_E) := (congrArg (fun l => l[8]?) cd_123).trans rfl
theorem c_123_9 : (zm_cd 123)[9]? = some ((14, .return_, 1, 0, 0, 0, 0, 0, []) : zm_E) := (congrArg (fun l => l[9]?) cd_123).trans rfl
theorem cd_124 : zm_cd 124 = zd_124 := rfl
theorem ml_124 : zm_ml 124 = 3 := rfl
theorem ht_124 : zm_ht 124 = [] := rfl
theorem c_124_0 : (zm_cd 124)[0]? = some ((0, .aload_n 0, 1, 0, 0, 0, 0, 0, []) : zm_E) := (congrArg (fun l => l[0]?) cd_124).trans rfl
theorem c_124_1 : (zm_cd 124)[1]? = some ((1, .iload_n 1, 1, 1, 0, 0, 0, 0, []) : zm_E) := (congrArg (fun l => l[1]?) cd_124).trans rfl
theorem c_124_2 : (zm_cd 124)[2]? = some ((2, .iload_n 2, 1, 2, 0, 0, 0, 0, []) : zm_E) := (congrArg (fun l => l[2]?) cd_124).trans rfl
theorem c_124_3 : (zm_cd 124)[3]? = some ((3, .invokevirtual 53, 3, 121, 2, 1, 0, 0, [1]) : zm_E) := (congrArg (fun l => l[3]?) cd_124).trans rfl
theorem c_124_4 : (zm_cd 124)[4]? = some ((6, .aload_n 0, 1, 0, 0, 0, 0, 0, []) : zm_E) := (congrArg (fun l => l[4]?) cd_124).trans rfl
theorem c_124_5 : (zm_cd 124)[5]? = some ((7, .iload_n 1, 1, 1, 0, 0, 0, 0, []) : zm_E) := (congrArg (fun l => l[5]?) cd_124).trans rfl
theorem c_124_6 : (zm_cd 124)[6]? = some ((8, .invokevirtual 61, 3, 122, 1, 1, 0, 0, [1]) : zm_E) := (congrArg (fun l => l[6]?) cd_124).trans rfl
theorem c_124_7 : (zm_cd 124)[7]? = some ((11, .isub, 1, 0, 0, 0, 0, 0, []) : zm_E) := (congrArg (fun l => l[7]?) cd_124).trans rfl
theorem c_124_8 : (zm_cd 124)[8]? = some ((12, .ireturn, 1, 0, 0, 0, 0, 0, []) : zm_E) := (congrArg (fun l => l[8]?) cd_124).trans rfl
theorem cd_125 : zm_cd 125 = zd_125 := rfl
theorem ml_125 : zm_ml 125 = 3 := rfl
theorem ht_125 : zm_ht 125 = [] := rfl
theorem c_125_0 : (zm_cd 125)[0]? = some ((0, .iconst 0, 1, 0, 0, 0, 0, 0, []) : zm_E) := (congrArg (fun l => l[0]?) cd_125).trans rfl
theorem c_125_1 : (zm_cd 125)[1]? = some ((1, .istore_n 2, 1, 2, 0, 0, 0, 0, []) : zm_E) := (congrArg (fun l => l[1]?) cd_125).trans rfl
theorem c_125_2 : (zm_cd 125)[2]? = some ((2, .iload_n 2, 1, 2, 0, 0, 0, 0, []) : zm_E) := (congrArg (fun l => l[2]?) cd_125).trans rfl
theorem c_125_3 : (zm_cd 125)[3]? = some ((3, .aload_n 0, 1, 0, 0, 0, 0, 0, []) : zm_E) := (congrArg (fun l => l[3]?) cd_125).trans rfl
theorem c_125_4 : (zm_cd 125)[4]? = some ((4, .getfield 18, 3, 1, 0, 0, 0, 0, []) : zm_E) := (congrArg (fun l => l[4]?) cd_125).trans rfl
theorem c_125_5 : (zm_cd 125)[5]? = some ((7, .if_icmp .ge 23, 3, 16, 0, 0, 0, 0, []) : zm_E) := (congrArg (fun l => l[5]?) cd_125).trans rfl
theorem c_125_6 : (zm_cd 125)[6]? = some ((10, .aload_n 0, 1, 0, 0, 0, 0, 0, []) : zm_E) := (congrArg (fun l => l[6]?) cd_125).trans rfl
theorem c_125_7 : (zm_cd 125)[7]? = some ((11, .getfield 15, 3, 1, 3, 1, 0, 0, []) : zm_E) := (congrArg (fun l => l[7]?) cd_125).trans rfl
theorem c_125_8 : (zm_cd 125)[8]? = some ((14, .iload_n 2, 1, 2, 0, 0, 0, 0, []) : zm_E) := (congrArg (fun l => l[8]?) cd_125).trans rfl
theorem c_125_9 : (zm_cd 125)[9]? = some ((15, .invokestatic 49, 3, 209, 2, 1, 1, 0, []) : zm_E) := (congrArg (fun l => l[9]?) cd_125).trans rfl
theorem c_125_10 : (zm_cd 125)[10]? = some ((18, .iload_n 1, 1, 1, 0, 0, 0, 0, []) : zm_E) := (congrArg (fun l => l[10]?) cd_125).trans rfl
theorem c_125_11 : (zm_cd 125)[11]? = some ((19, .if_icmp .ne 5, 3, 14, 0, 0, 0, 0, []) : zm_E) := (congrArg (fun l => l[11]?) cd_125).trans rfl
theorem c_125_12 : (zm_cd 125)[12]? = some ((22, .iload_n 2, 1, 2, 0, 0, 0, 0, []) : zm_E) := (congrArg (fun l => l[12]?) cd_125).trans rfl
theorem c_125_13 : (zm_cd 125)[13]? = some ((23, .ireturn, 1, 0, 0, 0, 0, 0, []) : zm_E) := (congrArg (fun l => l[13]?) cd_125).trans rfl
theorem c_125_14 : (zm_cd 125)[14]? = some ((24, .iinc 2 1, 3, 2, 0, 0, 1, 0, []) : zm_E) := (congrArg (fun l => l[14]?) cd_125).trans rfl
theorem c_125_15 : (zm_cd 125)[15]? = some ((27, .goto (-25), 3, 2, 0, 0, 0, 0, []) : zm_E) := (congrArg (fun l => l[15]?) cd_125).trans rfl
theorem c_125_16 : (zm_cd 125)[16]? = some ((30, .bipush (-9), 2, 0, 0, 0, (-9), 0, []) : zm_E) := (congrArg (fun l => l[16]?) cd_125).trans rfl
theorem c_125_17 : (zm_cd 125)[17]? = some ((32, .ireturn, 1, 0, 0, 0, 0, 0, []) : zm_E) := (congrArg (fun l => l[17]?) cd_125).trans rfl
theorem cd_126 : zm_cd 126 = zd_126 := rfl
theorem ml_126 : zm_ml 126 = 4 := rfl
theorem ht_126 : zm_ht 126 = [] := rfl
theorem c_126_0 : (zm_cd 126)[0]? = some ((0, .iconst 0, 1, 0, 0, 0, 0, 0, []) : zm_E) := (congrArg (fun l => l[0]?) cd_126).trans rfl
theorem c_126_1 : (zm_cd 126)[1]? = some ((1, .istore_n 2, 1, 2, 0, 0, 0, 0, []) : zm_E) := (congrArg (fun l => l[1]?) cd_126).trans rfl
theorem c_126_2 : (zm_cd 126)[2]? = some ((2, .iconst 0, 1, 0, 0, 0, 0, 0, []) : zm_E) := (congrArg (fun l => l[2]?) cd_126).trans rfl
theorem c_126_3 : (zm_cd 126)[3]? = some ((3, .istore_n 3, 1, 3, 0, 0, 0, 0, []) : zm_E) := (congrArg (fun l => l[3]?) cd_126).trans rfl
theorem c_126_4 : (zm_cd 126)[4]? = some ((4, .iload_n 3, 1, 3, 0, 0, 0, 0, []) : zm_E) := (congrArg (fun l => l[4]?) cd_126).trans rfl
theorem c_126_5 : (zm_cd 126)[5]? = some ((5, .aload_n 0, 1, 0, 0, 0, 0, 0, []) : zm_E) := (congrArg (fun l => l[5]?) cd_126).trans rfl
theorem c_126_6 : (zm_cd 126)[6]? = some ((6, .getfield 18, 3, 1, 0, 0, 0, 0, []) : zm_E) := (congrArg (fun l => l[6]?) cd_126).trans rfl
theorem c_126_7 : (zm_cd 126)[7]? = some ((9, .if_icmp .ge 31, 3, 22, 0, 0, 0, 0, []) : zm_E) := (congrArg (fun l => l[7]?) cd_126).trans rfl
theorem c_126_8 : (zm_cd 126)[8]? = some ((12, .iload_n 1, 1, 1, 0, 0, 0, 0, []) : zm_E) := (congrArg (fun l => l[8]?) cd_126).trans rfl
theorem c_126_9 : (zm_cd 126)[9]? = some ((13, .iload_n 3, 1, 3, 0, 0, 0, 0, []) : zm_E) := (congrArg (fun l => l[9]?) cd_126).trans rfl
theorem c_126_10 : (zm_cd 126)[10]? = some ((14, .invokestatic 37, 3, 37, 2, 1, 1, 0, []) : zm_E) := (congrArg (fun l => l[10]?) cd_126).trans rfl
theorem c_126_11 : (zm_cd 126)[11]? = some ((17, .ifCond .eq 17, 3, 20, 0, 0, 0, 0, []) : zm_E) := (congrArg (fun l => l[11]?) cd_126).trans rfl
theorem c_126_12 : (zm_cd 126)[12]? = some ((20, .iload_n 2, 1, 2, 0, 0, 0, 0, []) : zm_E) := (congrArg (fun l => l[12]?) cd_126).trans rfl
theorem c_126_13 : (zm_cd 126)[13]? = some ((21, .aload_n 0, 1, 0, 0, 0, 0, 0, []) : zm_E) := (congrArg (fun l => l[13]?) cd_126).trans rfl
theorem c_126_14 : (zm_cd 126)[14]? = some ((22, .getfield 15, 3, 1, 3, 1, 0, 0, []) : zm_E) := (congrArg (fun l => l[14]?) cd_126).trans rfl
theorem c_126_15 : (zm_cd 126)[15]? = some ((25, .iload_n 3, 1, 3, 0, 0, 0, 0, []) : zm_E) := (congrArg (fun l => l[15]?) cd_126).trans rfl
theorem c_126_16 : (zm_cd 126)[16]? = some ((26, .invokestatic 49, 3, 209, 2, 1, 1, 0, []) : zm_E) := (congrArg (fun l => l[16]?) cd_126).trans rfl
theorem c_126_17 : (zm_cd 126)[17]? = some ((29, .invokestatic 29, 3, 36, 1, 1, 1, 0, []) : zm_E) := (congrArg (fun l => l[17]?) cd_126).trans rfl
theorem c_126_18 : (zm_cd 126)[18]? = some ((32, .ior, 1, 0, 0, 0, 0, 0, []) : zm_E) := (congrArg (fun l => l[18]?) cd_126).trans rfl
theorem c_126_19 : (zm_cd 126)[19]? = some ((33, .istore_n 2, 1, 2, 0, 0, 0, 0, []) : zm_E) := (congrArg (fun l => l[19]?) cd_126).trans rfl
theorem c_126_20 : (zm_cd 126)[20]? = some ((34, .iinc 3 1, 3, 3, 0, 0, 1, 0, []) : zm_E) := (congrArg (fun l => l[20]?) cd_126).trans rfl
theorem c_126_21 : (zm_cd 126)[21]? = some ((37, .goto (-33), 3, 4, 0, 0, 0, 0, []) : zm_E) := (congrArg (fun l => l[21]?) cd_126).trans rfl
theorem c_126_22 : (zm_cd 126)[22]? = some ((40, .iload_n 2, 1, 2, 0, 0, 0, 0, []) : zm_E) := (congrArg (fun l => l[22]?) cd_126).trans rfl
theorem c_126_23 : (zm_cd 126)[23]? = some ((41, .ireturn, 1, 0, 0, 0, 0, 0, []) : zm_E) := (congrArg (fun l => l[23]?) cd_126).trans rfl
theorem cd_127 : zm_cd 127 = zd_127 := rfl
theorem ml_127 : zm_ml 127 = 3 := rfl
theorem ht_127 : zm_ht 127 = [] := rfl
theorem c_127_0 : (zm_cd 127)[0]? = some ((0, .iconst 0, 1, 0, 0, 0, 0, 0, []) : zm_E) := (congrArg (fun l => l[0]?) cd_127).trans rfl
theorem c_127_1 : (zm_cd 127)[1]? = some ((1, .istore_n 1, 1, 1, 0, 0, 0, 0, []) : zm_E) := (congrArg (fun l => l[1]?) cd_127).trans rfl
theorem c_127_2 : (zm_cd 127)[2]? = some ((2, .iconst 0, 1, 0, 0, 0, 0, 0, []) : zm_E) := (congrArg (fun l => l[2]?) cd_127).trans rfl
theorem c_127_3 : (zm_cd 127)[3]? = some ((3, .istore_n 2, 1, 2, 0, 0, 0, 0, []) : zm_E) := (congrArg (fun l => l[3]?) cd_127).trans rfl
theorem c_127_4 : (zm_cd 127)[4]? = some ((4, .iload_n 2, 1, 2, 0, 0, 0, 0, []) : zm_E) := (congrArg (fun l => l[4]?) cd_127).trans rfl
theorem c_127_5 : (zm_cd 127)[5]? = some ((5, .aload_n 0, 1, 0, 0, 0, 0, 0, []) : zm_E) := (congrArg (fun l => l[5]?) cd_127).trans rfl
theorem c_127_6 : (zm_cd 127)[6]? = some ((6, .getfield 18, 3, 1, 0, 0, 0, 0, []) : zm_E) := (congrArg (fun l => l[6]?) cd_127).trans rfl
theorem c_127_7 : (zm_cd 127)[7]? = some ((9, .if_icmp .ge 24, 3, 17, 0, 0, 0, 0, []) : zm_E) := (congrArg (fun l => l[7]?) cd_127).trans rfl
theorem c_127_8 : (zm_cd 127)[8]? = some ((12, .aload_n 0, 1, 0, 0, 0, 0, 0, []) : zm_E) := (congrArg (fun l => l[8]?) cd_127).trans rfl
theorem c_127_9 : (zm_cd 127)[9]? = some ((13, .getfield 15, 3, 1, 3, 1, 0, 0, []) : zm_E) := (congrArg (fun l => l[9]?) cd_127).trans rfl
theorem c_127_10 : (zm_cd 127)[10]? = some ((16, .iload_n 2, 1, 2, 0, 0, 0, 0, []) : zm_E) := (congrArg (fun l => l[10]?) cd_127).trans rfl
theorem c_127_11 : (zm_cd 127)[11]? = some ((17, .invokestatic 49, 3, 209, 2, 1, 1, 0, []) : zm_E) := (congrArg (fun l => l[11]?) cd_127).trans rfl
theorem c_127_12 : (zm_cd 127)[12]? = some ((20, .iload_n 2, 1, 2, 0, 0, 0, 0, []) : zm_E) := (congrArg (fun l => l[12]?) cd_127).trans rfl
theorem c_127_13 : (zm_cd 127)[13]? = some ((21, .if_icmp .ne 6, 3, 15, 0, 0, 0, 0, []) : zm_E) := (congrArg (fun l => l[13]?) cd_127).trans rfl
theorem c_127_14 : (zm_cd 127)[14]? = some ((24, .iinc 1 1, 3, 1, 0, 0, 1, 0, []) : zm_E) := (congrArg (fun l => l[14]?) cd_127).trans rfl
theorem c_127_15 : (zm_cd 127)[15]? = some ((27, .iinc 2 1, 3, 2, 0, 0, 1, 0, []) : zm_E) := (congrArg (fun l => l[15]?) cd_127).trans rfl
theorem c_127_16 : (zm_cd 127)[16]? = some ((30, .goto (-26), 3, 4, 0, 0, 0, 0, []) : zm_E) := (congrArg (fun l => l[16]?) cd_127).trans rfl
theorem c_127_17 : (zm_cd 127)[17]? = some ((33, .iload_n 1, 1, 1, 0, 0, 0, 0, []) : zm_E) := (congrArg (fun l => l[17]?) cd_127).trans rfl
theorem c_127_18 : (zm_cd 127)[18]? = some ((34, .ireturn, 1, 0, 0, 0, 0, 0, []) : zm_E) := (congrArg (fun l => l[18]?) cd_127).trans rfl
theorem cd_128 : zm_cd 128 = zd_128 := rfl
theorem ml_128 : zm_ml 128 = 3 := rfl
theorem ht_128 : zm_ht 128 = [] := rfl
theorem c_128_0 : (zm_cd 128)[0]? = some ((0, .iconst 0, 1, 0, 0, 0, 0, 0, []) : zm_E) := (congrArg (fun l => l[0]?) cd_128).trans rfl
theorem c_128_1 : (zm_cd 128)[1]? = some ((1, .istore_n 1, 1, 1, 0, 0, 0, 0, []) : zm_E) := (congrArg (fun l => l[1]?) cd_128).trans rfl
theorem c_128_2 : (zm_cd 128)[2]? = some ((2, .iconst 0, 1, 0, 0, 0, 0, 0, []) : zm_E) := (congrArg (fun l => l[2]?) cd_128).trans rfl
theorem c_128_3 : (zm_cd 128)[3]? = some ((3, .istore_n 2, 1, 2, 0, 0, 0, 0, []) : zm_E) := (congrArg (fun l => l[3]?) cd_128).trans rfl
theorem c_128_4 : (zm_cd 128)[4]? = some ((4, .iload_n 2, 1, 2, 0, 0, 0, 0, []) : zm_E) := (congrArg (fun l => l[4]?) cd_128).trans rfl
theorem c_128_5 : (zm_cd 128)[5]? = some ((5, .aload_n 0, 1, 0, 0, 0, 0, 0, []) : zm_E) := (congrArg (fun l => l[5]?) cd_128).trans rfl
theorem c_128_6 : (zm_cd 128)[6]? = some ((6, .getfield 18, 3, 1, 0, 0, 0, 0, []) : zm_E) := (congrArg (fun l => l[6]?) cd_128).trans rfl
theorem c_128_7 : (zm_cd 128)[7]? = some ((9, .if_icmp .ge 17, 3, 16, 0, 0, 0, 0, []) : zm_E) := (congrArg (fun l => l[7]?) cd_128).trans rfl
theorem c_128_8 : (zm_cd 128)[8]? = some ((12, .iload_n 1, 1, 1, 0, 0, 0, 0, []) : zm_E) := (congrArg (fun l => l[8]?) cd_128).trans rfl
theorem c_128_9 : (zm_cd 128)[9]? = some ((13, .aload_n 0, 1, 0, 0, 0, 0, 0, []) : zm_E) := (congrArg (fun l => l[9]?) cd_128).trans rfl
theorem c_128_10 : (zm_cd 128)[10]? = some ((14, .iload_n 2, 1, 2, 0, 0, 0, 0, []) : zm_E) := (congrArg (fun l => l[10]?) cd_128).trans rfl
theorem c_128_11 : (zm_cd 128)[11]? = some ((15, .invokevirtual 61, 3, 122, 1, 1, 0, 0, [1]) : zm_E) := (congrArg (fun l => l[11]?) cd_128).trans rfl
theorem c_128_12 : (zm_cd 128)[12]? = some ((18, .iadd, 1, 0, 0, 0, 0, 0, []) : zm_E) := (congrArg (fun l => l[12]?) cd_128).trans rfl
theorem c_128_13 : (zm_cd 128)[13]? = some ((19, .istore_n 1, 1, 1, 0, 0, 0, 0, []) : zm_E) := (congrArg (fun l => l[13]?) cd_128).trans rfl
theorem c_128_14 : (zm_cd 128)[14]? = some ((20, .iinc 2 1, 3, 2, 0, 0, 1, 0, []) : zm_E) := (congrArg (fun l => l[14]?) cd_128).trans rfl
theorem c_128_15 : (zm_cd 128)[15]? = some ((23, .goto (-19), 3, 4, 0, 0, 0, 0, []) : zm_E) := (congrArg (fun l => l[15]?) cd_128).trans rfl
theorem c_128_16 : (zm_cd 128)[16]? = some ((26, .iload_n 1, 1, 1, 0, 0, 0, 0, []) : zm_E) := (congrArg (fun l => l[16]?) cd_128).trans rfl
theorem c_128_17 : (zm_cd 128)[17]? = some ((27, .ireturn, 1, 0, 0, 0, 0, 0, []) : zm_E) := (congrArg (fun l => l[17]?) cd_128).trans rfl
theorem cd_129 : zm_cd 129 = zd_129 := rfl
theorem ml_129 : zm_ml 129 = 4 := rfl
theorem ht_129 : zm_ht 129 = [] := rfl
theorem c_129_0 : (zm_cd 129)[0]? = some ((0, .iconst 0, 1, 0, 0, 0, 0, 0, []) : zm_E) := (congrArg (fun l => l[0]?) cd_129).trans rfl
theorem c_129_1 : (zm_cd 129)[1]? = some ((1, .istore_n 1, 1, 1, 0, 0, 0, 0, []) : zm_E) := (congrArg (fun l => l[1]?) cd_129).trans rfl
theorem c_129_2 : (zm_cd 129)[2]? = some ((2, .iconst 0, 1, 0, 0, 0, 0, 0, []) : zm_E) := (congrArg (fun l => l[2]?) cd_129).trans rfl
theorem c_129_3 : (zm_cd 129)[3]? = some ((3, .istore_n 2, 1, 2, 0, 0, 0, 0, []) : zm_E) := (congrArg (fun l => l[3]?) cd_129).trans rfl
theorem c_129_4 : (zm_cd 129)[4]? = some ((4, .iload_n 2, 1, 2, 0, 0, 0, 0, []) : zm_E) := (congrArg (fun l => l[4]?) cd_129).trans rfl
theorem c_129_5 : (zm_cd 129)[5]? = some ((5, .aload_n 0, 1, 0, 0, 0, 0, 0, []) : zm_E) := (congrArg (fun l => l[5]?) cd_129).trans rfl
theorem c_129_6 : (zm_cd 129)[6]? = some ((6, .getfield 18, 3, 1, 0, 0, 0, 0, []) : zm_E) := (congrArg (fun l => l[6]?) cd_129).trans rfl
theorem c_129_7 : (zm_cd 129)[7]? = some ((9, .if_icmp .ge 60, 3, 35, 0, 0, 0, 0, []) : zm_E) := (congrArg (fun l => l[7]?) cd_129).trans rfl
theorem c_129_8 : (zm_cd 129)[8]? = some ((12, .iconst 0, 1, 0, 0, 0, 0, 0, []) : zm_E) := (congrArg (fun l => l[8]?) cd_129).trans rfl
theorem c_129_9 : (zm_cd 129)[9]? = some ((13, .istore_n 3, 1, 3, 0, 0, 0, 0, []) : zm_E) := (congrArg (fun l => l[9]?) cd_129).trans rfl
theorem c_129_10 : (zm_cd 129)[10]? = some ((14, .iload_n 3, 1, 3, 0, 0, 0, 0, []) : zm_E) := (congrArg (fun l => l[10]?) cd_129).trans rfl
theorem c_129_11 : (zm_cd 129)[11]? = some ((15, .aload_n 0, 1, 0, 0, 0, 0, 0, []) : zm_E) := (congrArg (fun l => l[11]?) cd_129).trans rfl
theorem c_129_12 : (zm_cd 129)[12]? = some ((16, .getfield 18, 3, 1, 0, 0, 0, 0, []) : zm_E) := (congrArg (fun l => l[12]?) cd_129).trans rfl
theorem c_129_13 : (zm_cd 129)[13]? = some ((19, .if_icmp .ge 44, 3, 33, 0, 0, 0, 0, []) : zm_E) := (congrArg (fun l => l[13]?) cd_129).trans rfl
theorem c_129_14 : (zm_cd 129)[14]? = some ((22, .aload_n 0, 1, 0, 0, 0, 0, 0, []) : zm_E) := (congrArg (fun l => l[14]?) cd_129).trans rfl
theorem c_129_15 : (zm_cd 129)[15]? = some ((23, .iload_n 2, 1, 2, 0, 0, 0, 0, []) : zm_E) := (congrArg (fun l => l[15]?) cd_129).trans rfl
theorem c_129_16 : (zm_cd 129)[16]? = some ((24, .invokevirtual 64, 3, 119, 1, 1, 0, 0, [1]) : zm_E) := (congrArg (fun l => l[16]?) cd_129).trans rfl
theorem c_129_17 : (zm_cd 129)[17]? = some ((27, .ifCond .eq 30, 3, 31, 0, 0, 0, 0, []) : zm_E) := (congrArg (fun l => l[17]?) cd_129).trans rfl
theorem c_129_18 : (zm_cd 129)[18]? = some ((30, .aload_n 0, 1, 0, 0, 0, 0, 0, []) : zm_E) := (congrArg (fun l => l[18]?) cd_129).trans rfl
theorem c_129_19 : (zm_cd 129)[19]? = some ((31, .iload_n 3, 1, 3, 0, 0, 0, 0, []) : zm_E) := (congrArg (fun l => l[19]?) cd_129).trans rfl
theorem c_129_20 : (zm_cd 129)[20]? = some ((32, .invokevirtual 64, 3, 119, 1, 1, 0, 0, [1]) : zm_E) := (congrArg (fun l => l[20]?) cd_129).trans rfl
theorem c_129_21 : (zm_cd 129)[21]? = some ((35, .ifCond .eq 22, 3, 31, 0, 0, 0, 0, []) : zm_E) := (congrArg (fun l => l[21]?) cd_129).trans rfl
theorem c_129_22 : (zm_cd 129)[22]? = some ((38, .aload_n 0, 1, 0, 0, 0, 0, 0, []) : zm_E) := (congrArg (fun l => l[22]?) cd_129).trans rfl
theorem c_129_23 : (zm_cd 129)[23]? = some ((39, .iload_n 2, 1, 2, 0, 0, 0, 0, []) : zm_E) := (congrArg (fun l => l[23]?) cd_129).trans rfl
theorem c_129_24 : (zm_cd 129)[24]? = some ((40, .aload_n 0, 1, 0, 0, 0, 0, 0, []) : zm_E) := (congrArg (fun l => l[24]?) cd_129).trans rfl
theorem c_129_25 : (zm_cd 129)[25]? = some ((41, .getfield 15, 3, 1, 3, 1, 0, 0, []) : zm_E) := (congrArg (fun l => l[25]?) cd_129).trans rfl
theorem c_129_26 : (zm_cd 129)[26]? = some ((44, .iload_n 3, 1, 3, 0, 0, 0, 0, []) : zm_E) := (congrArg (fun l => l[26]?) cd_129).trans rfl
theorem c_129_27 : (zm_cd 129)[27]? = some ((45, .invokestatic 49, 3, 209, 2, 1, 1, 0, []) : zm_E) := (congrArg (fun l => l[27]?) cd_129).trans rfl
theorem c_129_28 : (zm_cd 129)[28]? = some ((48, .invokevirtual 68, 3, 124, 2, 1, 0, 0, [1]) : zm_E) := (congrArg (fun l => l[28]?) cd_129).trans rfl
theorem c_129_29 : (zm_cd 129)[29]? = some ((51, .ifCond .ge 6, 3, 31, 0, 0, 0, 0, []) : zm_E) := (congrArg (fun l => l[29]?) cd_129).trans rfl
theorem c_129_30 : (zm_cd 129)[30]? = some ((54, .iinc 1 1, 3, 1, 0, 0, 1, 0, []) : zm_E) := (congrArg (fun l => l[30]?) cd_129).trans rfl
theorem c_129_31 : (zm_cd 129)[31]? = some ((57, .iinc 3 1, 3, 3, 0, 0, 1, 0, []) : zm_E) := (congrArg (fun l => l[31]?) cd_129).trans rfl
theorem c_129_32 : (zm_cd 129)[32]? = some ((60, .goto (-46), 3, 10, 0, 0, 0, 0, []) : zm_E) := (congrArg (fun l => l[32]?) cd_129).trans rfl
theorem c_129_33 : (zm_cd 129)[33]? = some ((63, .iinc 2 1, 3, 2, 0, 0, 1, 0, []) : zm_E) := (congrArg (fun l => l[33]?) cd_129).trans rfl
theorem c_129_34 : (zm_cd 129)[34]? = some ((66, .goto (-62), 3, 4, 0, 0, 0, 0, []) : zm_E) := (congrArg (fun l => l[34]?) cd_129).trans rfl
theorem c_129_35 : (zm_cd 129)[35]? = some ((69, .iload_n 1, 1, 1, 0, 0, 0, 0, []) : zm_E) := (congrArg (fun l => l[35]?) cd_129).trans rfl
theorem c_129_36 : (zm_cd 129)[36]? = some ((70, .ireturn, 1, 0, 0, 0, 0, 0, []) : zm_E) := (congrArg (fun l => l[36]?) cd_129).trans rfl
theorem cd_130 : zm_cd 130 = zd_130 := rfl
theorem ml_130 : zm_ml 130 = 5 := rfl
theorem ht_130 : zm_ht 130 = [] := rfl
theorem c_130_0 : (zm_cd 130)[0]? = some ((0, .iload_n 1, 1, 1, 0, 0, 0, 0, []) : zm_E) := (congrArg (fun l => l[0]?) cd_130).trans rfl
theorem c_130_1 : (zm_cd 130)[1]? = some ((1, .iload_n 2, 1, 2, 0, 0, 0, 0, []) : zm_E) := (congrArg (fun l => l[1]?) cd_130).trans rfl
theorem c_130_2 : (zm_cd 130)[2]? = some ((2, .if_icmp .ne 5, 3, 5, 0, 0, 0, 0, []) : zm_E) := (congrArg (fun l => l[2]?) cd_130).trans rfl
theorem c_130_3 : (zm_cd 130)[3]? = some ((5, .iconst 1, 1, 0, 0, 0, 1, 0, []) : zm_E) := (congrArg (fun l => l[3]?) cd_130).trans rfl
theorem c_130_4 : (zm_cd 130)[4]? = some ((6, .ireturn, 1, 0, 0, 0, 0, 0, []) : zm_E) := (congrArg (fun l => l[4]?) cd_130).trans rfl
theorem c_130_5 : (zm_cd 130)[5]? = some ((7, .aload_n 0, 1, 0, 0, 0, 0, 0, []) : zm_E) := (congrArg (fun l => l[5]?) cd_130).trans rfl
theorem c_130_6 : (zm_cd 130)[6]? = some ((8, .iload_n 1, 1, 1, 0, 0, 0, 0, []) : zm_E) := (congrArg (fun l => l[6]?) cd_130).trans rfl
theorem c_130_7 : (zm_cd 130)[7]? = some ((9, .invokevirtual 64, 3, 119, 1, 1, 0, 0, [1]) : zm_E) := (congrArg (fun l => l[7]?) cd_130).trans rfl
theorem c_130_8 : (zm_cd 130)[8]? = some ((12, .ifCond .ne 5, 3, 11, 0, 0, 0, 0, []) : zm_E) := (congrArg (fun l => l[8]?) cd_130).trans rfl
theorem c_130_9 : (zm_cd 130)[9]? = some ((15, .iconst 2, 1, 0, 0, 0, 2, 0, []) : zm_E) := (congrArg (fun l => l[9]?) cd_130).trans rfl
theorem c_130_10 : (zm_cd 130)[10]? = some ((16, .ireturn, 1, 0, 0, 0, 0, 0, []) : zm_E) := (congrArg (fun l => l[10]?) cd_130).trans rfl
theorem c_130_11 : (zm_cd 130)[11]? = some ((17, .aload_n 0, 1, 0, 0, 0, 0, 0, []) : zm_E) := (congrArg (fun l => l[11]?) cd_130).trans rfl
theorem c_130_12 : (zm_cd 130)[12]? = some ((18, .iload_n 2, 1, 2, 0, 0, 0, 0, []) : zm_E) := (congrArg (fun l => l[12]?) cd_130).trans rfl
theorem c_130_13 : (zm_cd 130)[13]? = some ((19, .invokevirtual 64, 3, 119, 1, 1, 0, 0, [1]) : zm_E) := (congrArg (fun l => l[13]?) cd_130).trans rfl
theorem c_130_14 : (zm_cd 130)[14]? = some ((22, .ifCond .ne 5, 3, 17, 0, 0, 0, 0, []) : zm_E) := (congrArg (fun l => l[14]?) cd_130).trans rfl
theorem c_130_15 : (zm_cd 130)[15]? = some ((25, .iconst 3, 1, 0, 0, 0, 3, 0, []) : zm_E) := (congrArg (fun l => l[15]?) cd_130).trans rfl
theorem c_130_16 : (zm_cd 130)[16]? = some ((26, .ireturn, 1, 0, 0, 0, 0, 0, []) : zm_E) := (congrArg (fun l => l[16]?) cd_130).trans rfl
theorem c_130_17 : (zm_cd 130)[17]? = some ((27, .aload_n 0, 1, 0, 0, 0, 0, 0, []) : zm_E) := (congrArg (fun l => l[17]?) cd_130).trans rfl
theorem c_130_18 : (zm_cd 130)[18]? = some ((28, .iload_n 1, 1, 1, 0, 0, 0, 0, []) : zm_E) := (congrArg (fun l => l[18]?) cd_130).trans rfl
theorem c_130_19 : (zm_cd 130)[19]? = some ((29, .aload_n 0, 1, 0, 0, 0, 0, 0, []) : zm_E) := (congrArg (fun l => l[19]?) cd_130).trans rfl
theorem c_130_20 : (zm_cd 130)[20]? = some ((30, .getfield 15, 3, 1, 3, 1, 0, 0, []) : zm_E) := (congrArg (fun l => l[20]?) cd_130).trans rfl
theorem c_130_21 : (zm_cd 130)[21]? = some ((33, .iload_n 2, 1, 2, 0, 0, 0, 0, []) : zm_E) := (congrArg (fun l => l[21]?) cd_130).trans rfl
theorem c_130_22 : (zm_cd 130)[22]? = some ((34, .invokestatic 49, 3, 209, 2, 1, 1, 0, []) : zm_E) := (congrArg (fun l => l[22]?) cd_130).trans rfl
theorem c_130_23 : (zm_cd 130)[23]? = some ((37, .invokevirtual 68, 3, 124, 2, 1, 0, 0, [1]) : zm_E) := (congrArg (fun l => l[23]?) cd_130).trans rfl
theorem c_130_24 : (zm_cd 130)[24]? = some ((40, .istore_n 3, 1, 3, 0, 0, 0, 0, []) : zm_E) := (congrArg (fun l => l[24]?) cd_130).trans rfl
theorem c_130_25 : (zm_cd 130)[25]? = some ((41, .iload_n 3, 1, 3, 0, 0, 0, 0, []) : zm_E) := (congrArg (fun l => l[25]?) cd_130).trans rfl
theorem c_130_26 : (zm_cd 130)[26]? = some ((42, .ifCond .le 5, 3, 29, 0, 0, 0, 0, []) : zm_E) := (congrArg (fun l => l[26]?) cd_130).trans rfl
theorem c_130_27 : (zm_cd 130)[27]? = some ((45, .iconst 4, 1, 0, 0, 0, 4, 0, []) : zm_E) := (congrArg (fun l => l[27]?) cd_130).trans rfl
theorem c_130_28 : (zm_cd 130)[28]? = some ((46, .ireturn, 1, 0, 0, 0, 0, 0, []) : zm_E) := (congrArg (fun l => l[28]?) cd_130).trans rfl
theorem c_130_29 : (zm_cd 130)[29]? = some ((47, .aload_n 0, 1, 0, 0, 0, 0, 0, []) : zm_E) := (congrArg (fun l => l[29]?) cd_130).trans rfl
theorem c_130_30 : (zm_cd 130)[30]? = some ((48, .iload_n 2, 1, 2, 0, 0, 0, 0, []) : zm_E) := (congrArg (fun l => l[30]?) cd_130).trans rfl
theorem c_130_31 : (zm_cd 130)[31]? = some ((49, .aload_n 0, 1, 0, 0, 0, 0, 0, []) : zm_E) := (congrArg (fun l => l[31]?) cd_130).trans rfl
theorem c_130_32 : (zm_cd 130)[32]? = some ((50, .getfield 15, 3, 1, 3, 1, 0, 0, []) : zm_E) := (congrArg (fun l => l[32]?) cd_130).trans rfl
theorem c_130_33 : (zm_cd 130)[33]? = some ((53, .iload_n 1, 1, 1, 0, 0, 0, 0, []) : zm_E) := (congrArg (fun l => l[33]?) cd_130).trans rfl
theorem c_130_34 : (zm_cd 130)[34]? = some ((54, .invokestatic 49, 3, 209, 2, 1, 1, 0, []) : zm_E) := (congrArg (fun l => l[34]?) cd_130).trans rfl
theorem c_130_35 : (zm_cd 130)[35]? = some ((57, .invokevirtual 68, 3, 124, 2, 1, 0, 0, [1]) : zm_E) := (congrArg (fun l => l[35]?) cd_130).trans rfl
theorem c_130_36 : (zm_cd 130)[36]? = some ((60, .istore 4, 2, 4, 0, 0, 0, 0, []) : zm_E) := (congrArg (fun l => l[36]?) cd_130).trans rfl
theorem c_130_37 : (zm_cd 130)[37]? = some ((62, .iload 4, 2, 4, 0, 0, 0, 0, []) : zm_E) := (congrArg (fun l => l[37]?) cd_130).trans rfl
theorem c_130_38 : (zm_cd 130)[38]? = some ((64, .ifCond .le 5, 3, 41, 0, 0, 0, 0, []) : zm_E) := (congrArg (fun l => l[38]?) cd_130).trans rfl
theorem c_130_39 : (zm_cd 130)[39]? = some ((67, .iconst 5, 1, 0, 0, 0, 5, 0, []) : zm_E) := (congrArg (fun l => l[39]?) cd_130).trans rfl
theorem c_130_40 : (zm_cd 130)[40]? = some ((68, .ireturn, 1, 0, 0, 0, 0, 0, []) : zm_E) := (congrArg (fun l => l[40]?) cd_130).trans rfl
theorem c_130_41 : (zm_cd 130)[41]? = some ((69, .iload_n 3, 1, 3, 0, 0, 0, 0, []) : zm_E) := (congrArg (fun l => l[41]?) cd_130).trans rfl
theorem c_130_42 : (zm_cd 130)[42]? = some ((70, .ifCond .ne 13, 3, 47, 0, 0, 0, 0, []) : zm_E) := (congrArg (fun l => l[42]?) cd_130).trans rfl
theorem c_130_43 : (zm_cd 130)[43]? = some ((73, .iload 4, 2, 4, 0, 0, 0, 0, []) : zm_E) := (congrArg (fun l => l[43]?) cd_130).trans rfl
theorem c_130_44 : (zm_cd 130)[44]? = some ((75, .ifCond .ne 8, 3, 47, 0, 0, 0, 0, []) : zm_E) := (congrArg (fun l => l[44]?) cd_130).trans rfl
theorem c_130_45 : (zm_cd 130)[45]? = some ((78, .bipush 6, 2, 0, 0, 0, 6, 0, []) : zm_E) := (congrArg (fun l => l[45]?) cd_130).trans rfl
theorem c_130_46 : (zm_cd 130)[46]? = some ((80, .goto 4, 3, 48, 0, 0, 0, 0, []) : zm_E) := (congrArg (fun l => l[46]?) cd_130).trans rfl
theorem c_130_47 : (zm_cd 130)[47]? = some ((83, .iconst 0, 1, 0, 0, 0, 0, 0, []) : zm_E) := (congrArg (fun l => l[47]?) cd_130).trans rfl
theorem c_130_48 : (zm_cd 130)[48]? = some ((84, .ireturn, 1, 0, 0, 0, 0, 0, []) : zm_E) := (congrArg (fun l => l[48]?) cd_130).trans rfl
theorem cd_131 : zm_cd 131 = zd_131 := rfl
theorem ml_131 : zm_ml 131 = 4 := rfl
theorem ht_131 : zm_ht 131 = [] := rfl
theorem c_131_0 : (zm_cd 131)[0]? = some ((0, .aload_n 0, 1, 0, 0, 0, 0, 0, []) : zm_E) := (congrArg (fun l => l[0]?) cd_131).trans rfl
theorem c_131_1 : (zm_cd 131)[1]? = some ((1, .getfield 15, 3, 1, 3, 1, 0, 0, []) : zm_E) := (congrArg (fun l => l[1]?) cd_131).trans rfl
theorem c_131_2 : (zm_cd 131)[2]? = some ((4, .iload_n 1, 1, 1, 0, 0, 0, 0, []) : zm_E) := (congrArg (fun l => l[2]?) cd_131).trans rfl
theorem c_131_3 : (zm_cd 131)[3]? = some ((5, .invokestatic 49, 3, 209, 2, 1, 1, 0, []) : zm_E) := (congrArg (fun l => l[3]?) cd_131).trans rfl
theorem c_131_4 : (zm_cd 131)[4]? = some ((8, .istore_n 3, 1, 3, 0, 0, 0, 0, []) : zm_E) := (congrArg (fun l => l[4]?) cd_131).trans rfl
theorem c_131_5 : (zm_cd 131)[5]? = some ((9, .aload_n 0, 1, 0, 0, 0, 0, 0, []) : zm_E) := (congrArg (fun l => l[5]?) cd_131).trans rfl
theorem c_131_6 : (zm_cd 131)[6]? = some ((10, .getfield 15, 3, 1, 3, 1, 0, 0, []) : zm_E) := (congrArg (fun l => l[6]?) cd_131).trans rfl
theorem c_131_7 : (zm_cd 131)[7]? = some ((13, .iload_n 1, 1, 1, 0, 0, 0, 0, []) : zm_E) := (congrArg (fun l => l[7]?) cd_131).trans rfl
theorem c_131_8 : (zm_cd 131)[8]? = some ((14, .aload_n 0, 1, 0, 0, 0, 0, 0, []) : zm_E) := (congrArg (fun l => l[8]?) cd_131).trans rfl
theorem c_131_9 : (zm_cd 131)[9]? = some ((15, .getfield 15, 3, 1, 3, 1, 0, 0, []) : zm_E) := (congrArg (fun l => l[9]?) cd_131).trans rfl
theorem c_131_10 : (zm_cd 131)[10]? = some ((18, .iload_n 2, 1, 2, 0, 0, 0, 0, []) : zm_E) := (congrArg (fun l => l[10]?) cd_131).trans rfl
theorem c_131_11 : (zm_cd 131)[11]? = some ((19, .invokestatic 49, 3, 209, 2, 1, 1, 0, []) : zm_E) := (congrArg (fun l => l[11]?) cd_131).trans rfl
theorem c_131_12 : (zm_cd 131)[12]? = some ((22, .invokestatic 57, 3, 210, 3, 0, 1, 0, []) : zm_E) := (congrArg (fun l => l[12]?) cd_131).trans rfl
theorem c_131_13 : (zm_cd 131)[13]? = some ((25, .aload_n 0, 1, 0, 0, 0, 0, 0, []) : zm_E) := (congrArg (fun l => l[13]?) cd_131).trans rfl
theorem c_131_14 : (zm_cd 131)[14]? = some ((26, .getfield 15, 3, 1, 3, 1, 0, 0, []) : zm_E) := (congrArg (fun l => l[14]?) cd_131).trans rfl
theorem c_131_15 : (zm_cd 131)[15]? = some ((29, .iload_n 2, 1, 2, 0, 0, 0, 0, []) : zm_E) := (congrArg (fun l => l[15]?) cd_131).trans rfl
theorem c_131_16 : (zm_cd 131)[16]? = some ((30, .iload_n 3, 1, 3, 0, 0, 0, 0, []) : zm_E) := (congrArg (fun l => l[16]?) cd_131).trans rfl
theorem c_131_17 : (zm_cd 131)[17]? = some ((31, .invokestatic 57, 3, 210, 3, 0, 1, 0, []) : zm_E) := (congrArg (fun l => l[17]?) cd_131).trans rfl
theorem c_131_18 : (zm_cd 131)[18]? = some ((34, .return_, 1, 0, 0, 0, 0, 0, []) : zm_E) := (congrArg (fun l => l[18]?) cd_131).trans rfl
theorem cd_132 : zm_cd 132 = zd_132 := rfl
theorem ml_132 : zm_ml 132 = 6 := rfl
theorem ht_132 : zm_ht 132 = [] := rfl
theorem c_132_0 : (zm_cd 132)[0]? = some ((0, .iconst 0, 1, 0, 0, 0, 0, 0, []) : zm_E) := (congrArg (fun l => l[0]?) cd_132).trans rfl
theorem c_132_1 : (zm_cd 132)[1]? = some ((1, .istore_n 3, 1, 3, 0, 0, 0, 0, []) : zm_E) := (congrArg (fun l => l[1]?) cd_132).trans rfl
theorem c_132_2 : (zm_cd 132)[2]? = some ((2, .iconst 0, 1, 0, 0, 0, 0, 0, []) : zm_E) := (congrArg (fun l => l[2]?) cd_132).trans rfl
theorem c_132_3 : (zm_cd 132)[3]? = some ((3, .istore 4, 2, 4, 0, 0, 0, 0, []) : zm_E) := (congrArg (fun l => l[3]?) cd_132).trans rfl
theorem c_132_4 : (zm_cd 132)[4]? = some ((5, .iload 4, 2, 4, 0, 0, 0, 0, []) : zm_E) := (congrArg (fun l => l[4]?) cd_132).trans rfl
theorem c_132_5 : (zm_cd 132)[5]? = some ((7, .aload_n 0, 1, 0, 0, 0, 0, 0, []) : zm_E) := (congrArg (fun l => l[5]?) cd_132).trans rfl
theorem c_132_6 : (zm_cd 132)[6]? = some ((8, .getfield 18, 3, 1, 0, 0, 0, 0, []) : zm_E) := (congrArg (fun l => l[6]?) cd_132).trans rfl
theorem c_132_7 : (zm_cd 132)[7]? = some ((11, .if_icmp .ge 57, 3, 31, 0, 0, 0, 0, []) : zm_E) := (congrArg (fun l => l[7]?) cd_132).trans rfl
theorem c_132_8 : (zm_cd 132)[8]? = some ((14, .aload_n 1, 1, 1, 0, 0, 0, 0, []) : zm_E) := (congrArg (fun l => l[8]?) cd_132).trans rfl
theorem c_132_9 : (zm_cd 132)[9]? = some ((15, .getfield 71, 3, 6, 2, 1, 0, 0, []) : zm_E) := (congrArg (fun l => l[9]?) cd_132).trans rfl
theorem c_132_10 : (zm_cd 132)[10]? = some ((18, .iload 4, 2, 4, 0, 0, 0, 0, []) : zm_E) := (congrArg (fun l => l[10]?) cd_132).trans rfl
theorem c_132_11 : (zm_cd 132)[11]? = some ((20, .invokestatic 49, 3, 209, 2, 1, 1, 0, []) : zm_E) := (congrArg (fun l => l[11]?) cd_132).trans rfl
theorem c_132_12 : (zm_cd 132)[12]? = some ((23, .istore 5, 2, 5, 0, 0, 0, 0, []) : zm_E) := (congrArg (fun l => l[12]?) cd_132).trans rfl
theorem c_132_13 : (zm_cd 132)[13]? = some ((25, .iload_n 2, 1, 2, 0, 0, 0, 0, []) : zm_E) := (congrArg (fun l => l[13]?) cd_132).trans rfl
theorem c_132_14 : (zm_cd 132)[14]? = some ((26, .iload 4, 2, 4, 0, 0, 0, 0, []) : zm_E) := (congrArg (fun l => l[14]?) cd_132).trans rfl
theorem c_132_15 : (zm_cd 132)[15]? = some ((28, .invokestatic 37, 3, 37, 2, 1, 1, 0, []) : zm_E) := (congrArg (fun l => l[15]?) cd_132).trans rfl
theorem c_132_16 : (zm_cd 132)[16]? = some ((31, .ifCond .eq 31, 3, 29, 0, 0, 0, 0, []) : zm_E) := (congrArg (fun l => l[16]?) cd_132).trans rfl
theorem c_132_17 : (zm_cd 132)[17]? = some ((34, .aload_n 0, 1, 0, 0, 0, 0, 0, []) : zm_E) := (congrArg (fun l => l[17]?) cd_132).trans rfl
theorem c_132_18 : (zm_cd 132)[18]? = some ((35, .getfield 15, 3, 1, 3, 1, 0, 0, []) : zm_E) := (congrArg (fun l => l[18]?) cd_132).trans rfl
theorem c_132_19 : (zm_cd 132)[19]? = some ((38, .iload 4, 2, 4, 0, 0, 0, 0, []) : zm_E) := (congrArg (fun l => l[19]?) cd_132).trans rfl
theorem c_132_20 : (zm_cd 132)[20]? = some ((40, .invokestatic 49, 3, 209, 2, 1, 1, 0, []) : zm_E) := (congrArg (fun l => l[20]?) cd_132).trans rfl
theorem c_132_21 : (zm_cd 132)[21]? = some ((43, .iload 5, 2, 5, 0, 0, 0, 0, []) : zm_E) := (congrArg (fun l => l[21]?) cd_132).trans rfl
theorem c_132_22 : (zm_cd 132)[22]? = some ((45, .if_icmp .eq 17, 3, 29, 0, 0, 0, 0, []) : zm_E) := (congrArg (fun l => l[22]?) cd_132).trans rfl
theorem c_132_23 : (zm_cd 132)[23]? = some ((48, .aload_n 0, 1, 0, 0, 0, 0, 0, []) : zm_E) := (congrArg (fun l => l[23]?) cd_132).trans rfl
theorem c_132_24 : (zm_cd 132)[24]? = some ((49, .getfield 15, 3, 1, 3, 1, 0, 0, []) : zm_E) := (congrArg (fun l => l[24]?) cd_132).trans rfl
theorem c_132_25 : (zm_cd 132)[25]? = some ((52, .iload 4, 2, 4, 0, 0, 0, 0, []) : zm_E) := (congrArg (fun l => l[25]?) cd_132).trans rfl
theorem c_132_26 : (zm_cd 132)[26]? = some ((54, .iload 5, 2, 5, 0, 0, 0, 0, []) : zm_E) := (congrArg (fun l => l[26]?) cd_132).trans rfl
theorem c_132_27 : (zm_cd 132)[27]? = some ((56, .invokestatic 57, 3, 210, 3, 0, 1, 0, []) : zm_E) := (congrArg (fun l => l[27]?) cd_132).trans rfl
theorem c_132_28 : (zm_cd 132)[28]? = some ((59, .iinc 3 1, 3, 3, 0, 0, 1, 0, []) : zm_E) := (congrArg (fun l => l[28]?) cd_132).trans rfl
theorem c_132_29 : (zm_cd 132)[29]? = some ((62, .iinc 4 1, 3, 4, 0, 0, 1, 0, []) : zm_E) := (congrArg (fun l => l[29]?) cd_132).trans rfl
theorem c_132_30 : (zm_cd 132)[30]? = some ((65, .goto (-60), 3, 4, 0, 0, 0, 0, []) : zm_E) := (congrArg (fun l => l[30]?) cd_132).trans rfl
theorem c_132_31 : (zm_cd 132)[31]? = some ((68, .iload_n 3, 1, 3, 0, 0, 0, 0, []) : zm_E) := (congrArg (fun l => l[31]?) cd_132).trans rfl
theorem c_132_32 : (zm_cd 132)[32]? = some ((69, .ireturn, 1, 0, 0, 0, 0, 0, []) : zm_E) := (congrArg (fun l => l[32]?) cd_132).trans rfl
theorem cd_133 : zm_cd 133 = zd_133 := rfl
theorem ml_133 : zm_ml 133 = 2 := rfl
theorem ht_133 : zm_ht 133 = [] := rfl
theorem c_133_0 : (zm_cd 133)[0]? = some ((0, .aload_n 0, 1, 0, 0, 0, 0, 0, []) : zm_E) := (congrArg (fun l => l[0]?) cd_133).trans rfl
theorem c_133_1 : (zm_cd 133)[1]? = some ((1, .dup, 1, 0, 0, 0, 0, 0, []) : zm_E) := (congrArg (fun l => l[1]?) cd_133).trans rfl
theorem c_133_2 : (zm_cd 133)[2]? = some ((2, .getfield 22, 3, 1, 1, 0, 0, 0, []) : zm_E) := (congrArg (fun l => l[2]?) cd_133).trans rfl
theorem c_133_3 : (zm_cd 133)[3]? = some ((5, .iload_n 1, 1, 1, 0, 0, 0, 0, []) : zm_E) := (congrArg (fun l => l[3]?) cd_133).trans rfl
theorem c_133_4 : (zm_cd 133)[4]? = some ((6, .invokestatic 29, 3, 36, 1, 1, 1, 0, []) : zm_E) := (congrArg (fun l => l[4]?) cd_133).trans rfl
theorem c_133_5 : (zm_cd 133)[5]? = some ((9, .ior, 1, 0, 0, 0, 0, 0, []) : zm_E) := (congrArg (fun l => l[5]?) cd_133).trans rfl
theorem c_133_6 : (zm_cd 133)[6]? = some ((10, .putfield 22, 3, 1, 1, 0, 0, 0, []) : zm_E) := (congrArg (fun l => l[6]?) cd_133).trans rfl
theorem c_133_7 : (zm_cd 133)[7]? = some ((13, .return_, 1, 0, 0, 0, 0, 0, []) : zm_E) := (congrArg (fun l => l[7]?) cd_133).trans rfl
theorem cd_134 : zm_cd 134 = zd_134 := rfl
theorem ml_134 : zm_ml 134 = 3 := rfl
theorem ht_134 : zm_ht 134 = [] := rfl
theorem c_134_0 : (zm_cd 134)[0]? = some ((0, .aload_n 0, 1, 0, 0, 0, 0, 0, []) : zm_E) := (congrArg (fun l => l[0]?) cd_134).trans rfl
theorem c_134_1 : (zm_cd 134)[1]? = some ((1, .iconst 0, 1, 0, 0, 0, 0, 0, []) : zm_E) := (congrArg (fun l => l[1]?) cd_134).trans rfl
theorem c_134_2 : (zm_cd 134)[2]? = some ((2, .putfield 22, 3, 1, 1, 0, 0, 0, []) : zm_E) := (congrArg (fun l => l[2]?) cd_134).trans rfl
theorem c_134_3 : (zm_cd 134)[3]? = some ((5, .iconst 0, 1, 0, 0, 0, 0, 0, []) : zm_E) := (congrArg (fun l => l[3]?) cd_134).trans rfl
theorem c_134_4 : (zm_cd 134)[4]? = some ((6, .istore_n 1, 1, 1, 0, 0, 0, 0, []) : zm_E) := (congrArg (fun l => l[4]?) cd_134).trans rfl
theorem c_134_5 : (zm_cd 134)[5]? = some ((7, .iconst 0, 1, 0, 0, 0, 0, 0, []) : zm_E) := (congrArg (fun l => l[5]?) cd_134).trans rfl
theorem c_134_6 : (zm_cd 134)[6]? = some ((8, .istore_n 2, 1, 2, 0, 0, 0, 0, []) : zm_E) := (congrArg (fun l => l[6]?) cd_134).trans rfl
theorem c_134_7 : (zm_cd 134)[7]? = some ((9, .iload_n 2, 1, 2, 0, 0, 0, 0, []) : zm_E) := (congrArg (fun l => l[7]?) cd_134).trans rfl
theorem c_134_8 : (zm_cd 134)[8]? = some ((10, .aload_n 0, 1, 0, 0, 0, 0, 0, []) : zm_E) := (congrArg (fun l => l[8]?) cd_134).trans rfl
theorem c_134_9 : (zm_cd 134)[9]? = some ((11, .getfield 18, 3, 1, 0, 0, 0, 0, []) : zm_E) := (congrArg (fun l => l[9]?) cd_134).trans rfl
theorem c_134_10 : (zm_cd 134)[10]? = some ((14, .if_icmp .ge 33, 3, 25, 0, 0, 0, 0, []) : zm_E) := (congrArg (fun l => l[10]?) cd_134).trans rfl
theorem c_134_11 : (zm_cd 134)[11]? = some ((17, .aload_n 0, 1, 0, 0, 0, 0, 0, []) : zm_E) := (congrArg (fun l => l[11]?) cd_134).trans rfl
theorem c_134_12 : (zm_cd 134)[12]? = some ((18, .getfield 15, 3, 1, 3, 1, 0, 0, []) : zm_E) := (congrArg (fun l => l[12]?) cd_134).trans rfl
theorem c_134_13 : (zm_cd 134)[13]? = some ((21, .iload_n 2, 1, 2, 0, 0, 0, 0, []) : zm_E) := (congrArg (fun l => l[13]?) cd_134).trans rfl
theorem c_134_14 : (zm_cd 134)[14]? = some ((22, .invokestatic 49, 3, 209, 2, 1, 1, 0, []) : zm_E) := (congrArg (fun l => l[14]?) cd_134).trans rfl
theorem c_134_15 : (zm_cd 134)[15]? = some ((25, .iload_n 2, 1, 2, 0, 0, 0, 0, []) : zm_E) := (congrArg (fun l => l[15]?) cd_134).trans rfl
theorem c_134_16 : (zm_cd 134)[16]? = some ((26, .if_icmp .eq 15, 3, 23, 0, 0, 0, 0, []) : zm_E) := (congrArg (fun l => l[16]?) cd_134).trans rfl
theorem c_134_17 : (zm_cd 134)[17]? = some ((29, .aload_n 0, 1, 0, 0, 0, 0, 0, []) : zm_E) := (congrArg (fun l => l[17]?) cd_134).trans rfl
theorem c_134_18 : (zm_cd 134)[18]? = some ((30, .getfield 15, 3, 1, 3, 1, 0, 0, []) : zm_E) := (congrArg (fun l => l[18]?) cd_134).trans rfl
theorem c_134_19 : (zm_cd 134)[19]? = some ((33, .iload_n 2, 1, 2, 0, 0, 0, 0, []) : zm_E) := (congrArg (fun l => l[19]?) cd_134).trans rfl
theorem c_134_20 : (zm_cd 134)[20]? = some ((34, .iload_n 2, 1, 2, 0, 0, 0, 0, []) : zm_E) := (congrArg (fun l => l[20]?) cd_134).trans rfl
theorem c_134_21 : (zm_cd 134)[21]? = some ((35, .invokestatic 57, 3, 210, 3, 0, 1, 0, []) : zm_E) := (congrArg (fun l => l[21]?) cd_134).trans rfl
theorem c_134_22 : (zm_cd 134)[22]? = some ((38, .iinc 1 1, 3, 1, 0, 0, 1, 0, []) : zm_E) := (congrArg (fun l => l[22]?) cd_134).trans rfl
theorem c_134_23 : (zm_cd 134)[23]? = some ((41, .iinc 2 1, 3, 2, 0, 0, 1, 0, []) : zm_E) := (congrArg (fun l => l[23]?) cd_134).trans rfl
theorem c_134_24 : (zm_cd 134)[24]? = some ((44, .goto (-35), 3, 7, 0, 0, 0, 0, []) : zm_E) := (congrArg (fun l => l[24]?) cd_134).trans rfl
theorem c_134_25 : (zm_cd 134)[25]? = some ((47, .iload_n 1, 1, 1, 0, 0, 0, 0, []) : zm_E) := (congrArg (fun l => l[25]?) cd_134).trans rfl
theorem c_134_26 : (zm_cd 134)[26]? = some ((48, .ireturn, 1, 0, 0, 0, 0, 0, []) : zm_E) := (congrArg (fun l => l[26]?) cd_134).trans rfl
theorem cd_136 : zm_cd 136 = zd_136 := rfl
theorem ml_136 : zm_ml 136 = 3 := rfl
theorem ht_136 : zm_ht 136 = [] := rfl
theorem c_136_0 : (zm_cd 136)[0]? = some ((0, .aload_n 0, 1, 0, 0, 0, 0, 0, []) : zm_E) := (congrArg (fun l => l[0]?) cd_136).trans rfl
theorem c_136_1 : (zm_cd 136)[1]? = some ((1, .getfield 18, 3, 1, 0, 0, 0, 0, []) : zm_E) := (congrArg (fun l => l[1]?) cd_136).trans rfl
theorem c_136_2 : (zm_cd 136)[2]? = some ((4, .istore_n 1, 1, 1, 0, 0, 0, 0, []) : zm_E) := (congrArg (fun l => l[2]?) cd_136).trans rfl
theorem c_136_3 : (zm_cd 136)[3]? = some ((5, .aload_n 0, 1, 0, 0, 0, 0, 0, []) : zm_E) := (congrArg (fun l => l[3]?) cd_136).trans rfl
theorem c_136_4 : (zm_cd 136)[4]? = some ((6, .dup, 1, 0, 0, 0, 0, 0, []) : zm_E) := (congrArg (fun l => l[4]?) cd_136).trans rfl
theorem c_136_5 : (zm_cd 136)[5]? = some ((7, .getfield 18, 3, 1, 0, 0, 0, 0, []) : zm_E) := (congrArg (fun l => l[5]?) cd_136).trans rfl
theorem c_136_6 : (zm_cd 136)[6]? = some ((10, .iconst 1, 1, 0, 0, 0, 1, 0, []) : zm_E) := (congrArg (fun l => l[6]?) cd_136).trans rfl
theorem c_136_7 : (zm_cd 136)[7]? = some ((11, .iadd, 1, 0, 0, 0, 0, 0, []) : zm_E) := (congrArg (fun l => l[7]?) cd_136).trans rfl
theorem c_136_8 : (zm_cd 136)[8]? = some ((12, .putfield 18, 3, 1, 0, 0, 0, 0, []) : zm_E) := (congrArg (fun l => l[8]?) cd_136).trans rfl
theorem c_136_9 : (zm_cd 136)[9]? = some ((15, .aload_n 0, 1, 0, 0, 0, 0, 0, []) : zm_E) := (congrArg (fun l => l[9]?) cd_136).trans rfl
theorem c_136_10 : (zm_cd 136)[10]? = some ((16, .getfield 15, 3, 1, 3, 1, 0, 0, []) : zm_E) := (congrArg (fun l => l[10]?) cd_136).trans rfl
theorem c_136_11 : (zm_cd 136)[11]? = some ((19, .iload_n 1, 1, 1, 0, 0, 0, 0, []) : zm_E) := (congrArg (fun l => l[11]?) cd_136).trans rfl
theorem c_136_12 : (zm_cd 136)[12]? = some ((20, .iload_n 1, 1, 1, 0, 0, 0, 0, []) : zm_E) := (congrArg (fun l => l[12]?) cd_136).trans rfl
theorem c_136_13 : (zm_cd 136)[13]? = some ((21, .invokestatic 57, 3, 210, 3, 0, 1, 0, []) : zm_E) := (congrArg (fun l => l[13]?) cd_136).trans rfl
theorem c_136_14 : (zm_cd 136)[14]? = some ((24, .iconst 0, 1, 0, 0, 0, 0, 0, []) : zm_E) := (congrArg (fun l => l[14]?) cd_136).trans rfl
theorem c_136_15 : (zm_cd 136)[15]? = some ((25, .istore_n 2, 1, 2, 0, 0, 0, 0, []) : zm_E) := (congrArg (fun l => l[15]?) cd_136).trans rfl
theorem c_136_16 : (zm_cd 136)[16]? = some ((26, .iload_n 2, 1, 2, 0, 0, 0, 0, []) : zm_E) := (congrArg (fun l => l[16]?) cd_136).trans rfl
theorem c_136_17 : (zm_cd 136)[17]? = some ((27, .iload_n 1, 1, 1, 0, 0, 0, 0, []) : zm_E) := (congrArg (fun l => l[17]?) cd_136).trans rfl
theorem c_136_18 : (zm_cd 136)[18]? = some ((28, .if_icmp .ge 23, 3, 31, 0, 0, 0, 0, []) : zm_E) := (congrArg (fun l => l[18]?) cd_136).trans rfl
theorem c_136_19 : (zm_cd 136)[19]? = some ((31, .aload_n 0, 1, 0, 0, 0, 0, 0, []) : zm_E) := (congrArg (fun l => l[19]?) cd_136).trans rfl
theorem c_136_20 : (zm_cd 136)[20]? = some ((32, .iload_n 1, 1, 1, 0, 0, 0, 0, []) : zm_E) := (congrArg (fun l => l[20]?) cd_136).trans rfl
theorem c_136_21 : (zm_cd 136)[21]? = some ((33, .iload_n 2, 1, 2, 0, 0, 0, 0, []) : zm_E) := (congrArg (fun l => l[21]?) cd_136).trans rfl
theorem c_136_22 : (zm_cd 136)[22]? = some ((34, .iconst 5, 1, 0, 0, 0, 5, 0, []) : zm_E) := (congrArg (fun l => l[22]?) cd_136).trans rfl
theorem c_136_23 : (zm_cd 136)[23]? = some ((35, .invokevirtual 79, 3, 123, 3, 0, 0, 0, [1]) : zm_E) := (congrArg (fun l => l[23]?) cd_136).trans rfl
theorem c_136_24 : (zm_cd 136)[24]? = some ((38, .aload_n 0, 1, 0, 0, 0, 0, 0, []) : zm_E) := (congrArg (fun l => l[24]?) cd_136).trans rfl
theorem c_136_25 : (zm_cd 136)[25]? = some ((39, .iload_n 2, 1, 2, 0, 0, 0, 0, []) : zm_E) := (congrArg (fun l => l[25]?) cd_136).trans rfl
theorem c_136_26 : (zm_cd 136)[26]? = some ((40, .iload_n 1, 1, 1, 0, 0, 0, 0, []) : zm_E) := (congrArg (fun l => l[26]?) cd_136).trans rfl
theorem c_136_27 : (zm_cd 136)[27]? = some ((41, .iconst 5, 1, 0, 0, 0, 5, 0, []) : zm_E) := (congrArg (fun l => l[27]?) cd_136).trans rfl
theorem c_136_28 : (zm_cd 136)[28]? = some ((42, .invokevirtual 79, 3, 123, 3, 0, 0, 0, [1]) : zm_E) := (congrArg (fun l => l[28]?) cd_136).trans rfl
theorem c_136_29 : (zm_cd 136)[29]? = some ((45, .iinc 2 1, 3, 2, 0, 0, 1, 0, []) : zm_E) := (congrArg (fun l => l[29]?) cd_136).trans rfl
theorem c_136_30 : (zm_cd 136)[30]? = some ((48, .goto (-22), 3, 16, 0, 0, 0, 0, []) : zm_E) := (congrArg (fun l => l[30]?) cd_136).trans rfl
theorem c_136_31 : (zm_cd 136)[31]? = some ((51, .aload_n 0, 1, 0, 0, 0, 0, 0, []) : zm_E) := (congrArg (fun l => l[31]?) cd_136).trans rfl
theorem c_136_32 : (zm_cd 136)[32]? = some ((52, .iload_n 1, 1, 1, 0, 0, 0, 0, []) : zm_E) := (congrArg (fun l => l[32]?) cd_136).trans rfl
theorem c_136_33 : (zm_cd 136)[33]? = some ((53, .iload_n 1, 1, 1, 0, 0, 0, 0, []) : zm_E) := (congrArg (fun l => l[33]?) cd_136).trans rfl
theorem c_136_34 : (zm_cd 136)[34]? = some ((54, .bipush 6, 2, 0, 0, 0, 6, 0, []) : zm_E) := (congrArg (fun l => l[34]?) cd_136).trans rfl
theorem c_136_35 : (zm_cd 136)[35]? = some ((56, .invokevirtual 79, 3, 123, 3, 0, 0, 0, [1]) : zm_E) := (congrArg (fun l => l[35]?) cd_136).trans rfl
theorem c_136_36 : (zm_cd 136)[36]? = some ((59, .iload_n 1, 1, 1, 0, 0, 0, 0, []) : zm_E) := (congrArg (fun l => l[36]?) cd_136).trans rfl
theorem c_136_37 : (zm_cd 136)[37]? = some ((60, .ireturn, 1, 0, 0, 0, 0, 0, []) : zm_E) := (congrArg (fun l => l[37]?) cd_136).trans rfl
theorem cd_147 : zm_cd 147 = zd_147 := rfl
theorem ml_147 : zm_ml 147 = 7 := rfl
theorem ht_147 : zm_ht 147 = [] := rfl
theorem c_147_0 : (zm_cd 147)[0]? = some ((0, .aload_n 1, 1, 1, 0, 0, 0, 0, []) : zm_E) := (congrArg (fun l => l[0]?) cd_147).trans rfl
theorem c_147_1 : (zm_cd 147)[1]? = some ((1, .iload_n 2, 1, 2, 0, 0, 0, 0, []) : zm_E) := (congrArg (fun l => l[1]?) cd_147).trans rfl
theorem c_147_2 : (zm_cd 147)[2]? = some ((2, .invokevirtual 19, 3, 119, 1, 1, 0, 0, [1]) : zm_E) := (congrArg (fun l => l[2]?) cd_147).trans rfl
theorem c_147_3 : (zm_cd 147)[3]? = some ((5, .ifCond .ne 6, 3, 6, 0, 0, 0, 0, []) : zm_E) := (congrArg (fun l => l[3]?) cd_147).trans rfl
theorem c_147_4 : (zm_cd 147)[4]? = some ((8, .bipush (-9), 2, 0, 0, 0, (-9), 0, []) : zm_E) := (congrArg (fun l => l[4]?) cd_147).trans rfl
theorem c_147_5 : (zm_cd 147)[5]? = some ((10, .ireturn, 1, 0, 0, 0, 0, 0, []) : zm_E) := (congrArg (fun l => l[5]?) cd_147).trans rfl
theorem c_147_6 : (zm_cd 147)[6]? = some ((11, .aload_n 1, 1, 1, 0, 0, 0, 0, []) : zm_E) := (congrArg (fun l => l[6]?) cd_147).trans rfl
theorem c_147_7 : (zm_cd 147)[7]? = some ((12, .getfield 25, 3, 1, 3, 1, 0, 0, []) : zm_E) := (congrArg (fun l => l[7]?) cd_147).trans rfl
theorem c_147_8 : (zm_cd 147)[8]? = some ((15, .iload_n 2, 1, 2, 0, 0, 0, 0, []) : zm_E) := (congrArg (fun l => l[8]?) cd_147).trans rfl
theorem c_147_9 : (zm_cd 147)[9]? = some ((16, .invokestatic 28, 3, 209, 2, 1, 1, 0, []) : zm_E) := (congrArg (fun l => l[9]?) cd_147).trans rfl
theorem c_147_10 : (zm_cd 147)[10]? = some ((19, .iload_n 3, 1, 3, 0, 0, 0, 0, []) : zm_E) := (congrArg (fun l => l[10]?) cd_147).trans rfl
theorem c_147_11 : (zm_cd 147)[11]? = some ((20, .if_icmp .ne 5, 3, 14, 0, 0, 0, 0, []) : zm_E) := (congrArg (fun l => l[11]?) cd_147).trans rfl
theorem c_147_12 : (zm_cd 147)[12]? = some ((23, .iconst 0, 1, 0, 0, 0, 0, 0, []) : zm_E) := (congrArg (fun l => l[12]?) cd_147).trans rfl
theorem c_147_13 : (zm_cd 147)[13]? = some ((24, .ireturn, 1, 0, 0, 0, 0, 0, []) : zm_E) := (congrArg (fun l => l[13]?) cd_147).trans rfl
theorem c_147_14 : (zm_cd 147)[14]? = some ((25, .aload_n 0, 1, 0, 0, 0, 0, 0, []) : zm_E) := (congrArg (fun l => l[14]?) cd_147).trans rfl
theorem c_147_15 : (zm_cd 147)[15]? = some ((26, .iconst 0, 1, 0, 0, 0, 0, 0, []) : zm_E) := (congrArg (fun l => l[15]?) cd_147).trans rfl
theorem c_147_16 : (zm_cd 147)[16]? = some ((27, .putfield 32, 3, 3, 1, 0, 0, 0, []) : zm_E) := (congrArg (fun l => l[16]?) cd_147).trans rfl
theorem c_147_17 : (zm_cd 147)[17]? = some ((30, .aload_n 0, 1, 0, 0, 0, 0, 0, []) : zm_E) := (congrArg (fun l => l[17]?) cd_147).trans rfl
theorem c_147_18 : (zm_cd 147)[18]? = some ((31, .getfield 15, 3, 3, 2, 1, 0, 0, []) : zm_E) := (congrArg (fun l => l[18]?) cd_147).trans rfl
theorem c_147_19 : (zm_cd 147)[19]? = some ((34, .lconst 0, 1, 0, 0, 0, 0, 0, []) : zm_E) := (congrArg (fun l => l[19]?) cd_147).trans rfl
theorem c_147_20 : (zm_cd 147)[20]? = some ((35, .invokestatic 36, 3, 208, 2, 0, 0, 0, []) : zm_E) := (congrArg (fun l => l[20]?) cd_147).trans rfl
theorem c_147_21 : (zm_cd 147)[21]? = some ((38, .aload_n 0, 1, 0, 0, 0, 0, 0, []) : zm_E) := (congrArg (fun l => l[21]?) cd_147).trans rfl
theorem c_147_22 : (zm_cd 147)[22]? = some ((39, .aload_n 1, 1, 1, 0, 0, 0, 0, []) : zm_E) := (congrArg (fun l => l[22]?) cd_147).trans rfl
theorem c_147_23 : (zm_cd 147)[23]? = some ((40, .iconst 0, 1, 0, 0, 0, 0, 0, []) : zm_E) := (congrArg (fun l => l[23]?) cd_147).trans rfl
theorem c_147_24 : (zm_cd 147)[24]? = some ((41, .invokevirtual 42, 3, 149, 2, 0, 0, 0, [3]) : zm_E) := (congrArg (fun l => l[24]?) cd_147).trans rfl
theorem c_147_25 : (zm_cd 147)[25]? = some ((44, .iconst 0, 1, 0, 0, 0, 0, 0, []) : zm_E) := (congrArg (fun l => l[25]?) cd_147).trans rfl
theorem c_147_26 : (zm_cd 147)[26]? = some ((45, .istore 4, 2, 4, 0, 0, 0, 0, []) : zm_E) := (congrArg (fun l => l[26]?) cd_147).trans rfl
theorem c_147_27 : (zm_cd 147)[27]? = some ((47, .iload 4, 2, 4, 0, 0, 0, 0, []) : zm_E) := (congrArg (fun l => l[27]?) cd_147).trans rfl
theorem c_147_28 : (zm_cd 147)[28]? = some ((49, .aload_n 0, 1, 0, 0, 0, 0, 0, []) : zm_E) := (congrArg (fun l => l[28]?) cd_147).trans rfl
theorem c_147_29 : (zm_cd 147)[29]? = some ((50, .getfield 32, 3, 3, 1, 0, 0, 0, []) : zm_E) := (congrArg (fun l => l[29]?) cd_147).trans rfl
theorem c_147_30 : (zm_cd 147)[30]? = some ((53, .if_icmp .ge 58, 3, 59, 0, 0, 0, 0, []) : zm_E) := (congrArg (fun l => l[30]?) cd_147).trans rfl
theorem c_147_31 : (zm_cd 147)[31]? = some ((56, .iload 4, 2, 4, 0, 0, 0, 0, []) : zm_E) := (congrArg (fun l => l[31]?) cd_147).trans rfl
theorem c_147_32 : (zm_cd 147)[32]? = some ((58, .sipush 5040, 3, 0, 0, 0, 5040, 0, []) : zm_E) := (congrArg (fun l => l[32]?) cd_147).trans rfl
theorem c_147_33 : (zm_cd 147)[33]? = some ((61, .if_icmp .ge 50, 3, 59, 0, 0, 0, 0, []) : zm_E) := (congrArg (fun l => l[33]?) cd_147).trans rfl
theorem c_147_34 : (zm_cd 147)[34]? = some ((64, .aload_n 0, 1, 0, 0, 0, 0, 0, []) : zm_E) := (congrArg (fun l => l[34]?) cd_147).trans rfl
theorem c_147_35 : (zm_cd 147)[35]? = some ((65, .getfield 11, 3, 3, 0, 1, 0, 0, []) : zm_E) := (congrArg (fun l => l[35]?) cd_147).trans rfl
theorem c_147_36 : (zm_cd 147)[36]? = some ((68, .iload 4, 2, 4, 0, 0, 0, 0, []) : zm_E) := (congrArg (fun l => l[36]?) cd_147).trans rfl
theorem c_147_37 : (zm_cd 147)[37]? = some ((70, .invokestatic 28, 3, 209, 2, 1, 1, 0, []) : zm_E) := (congrArg (fun l => l[37]?) cd_147).trans rfl
theorem c_147_38 : (zm_cd 147)[38]? = some ((73, .istore 5, 2, 5, 0, 0, 0, 0, []) : zm_E) := (congrArg (fun l => l[38]?) cd_147).trans rfl
theorem c_147_39 : (zm_cd 147)[39]? = some ((75, .iload 5, 2, 5, 0, 0, 0, 0, []) : zm_E) := (congrArg (fun l => l[39]?) cd_147).trans rfl
theorem c_147_40 : (zm_cd 147)[40]? = some ((77, .bipush 21, 2, 0, 0, 0, 21, 0, []) : zm_E) := (congrArg (fun l => l[40]?) cd_147).trans rfl
theorem c_147_41 : (zm_cd 147)[41]? = some ((79, .ishr, 1, 0, 0, 0, 0, 0, []) : zm_E) := (congrArg (fun l => l[41]?) cd_147).trans rfl
theorem c_147_42 : (zm_cd 147)[42]? = some ((80, .iconst 1, 1, 0, 0, 0, 1, 0, []) : zm_E) := (congrArg (fun l => l[42]?) cd_147).trans rfl
theorem c_147_43 : (zm_cd 147)[43]? = some ((81, .iadd, 1, 0, 0, 0, 0, 0, []) : zm_E) := (congrArg (fun l => l[43]?) cd_147).trans rfl
theorem c_147_44 : (zm_cd 147)[44]? = some ((82, .istore 6, 2, 6, 0, 0, 0, 0, []) : zm_E) := (congrArg (fun l => l[44]?) cd_147).trans rfl
theorem c_147_45 : (zm_cd 147)[45]? = some ((84, .iload 5, 2, 5, 0, 0, 0, 0, []) : zm_E) := (congrArg (fun l => l[45]?) cd_147).trans rfl
theorem c_147_46 : (zm_cd 147)[46]? = some ((86, .aload_n 1, 1, 1, 0, 0, 0, 0, []) : zm_E) := (congrArg (fun l => l[46]?) cd_147).trans rfl
theorem c_147_47 : (zm_cd 147)[47]? = some ((87, .invokestatic 46, 3, 152, 2, 0, 0, 0, []) : zm_E) := (congrArg (fun l => l[47]?) cd_147).trans rfl
theorem c_147_48 : (zm_cd 147)[48]? = some ((90, .aload_n 0, 1, 0, 0, 0, 0, 0, []) : zm_E) := (congrArg (fun l => l[48]?) cd_147).trans rfl
theorem c_147_49 : (zm_cd 147)[49]? = some ((91, .aload_n 1, 1, 1, 0, 0, 0, 0, []) : zm_E) := (congrArg (fun l => l[49]?) cd_147).trans rfl
theorem c_147_50 : (zm_cd 147)[50]? = some ((92, .iload 6, 2, 6, 0, 0, 0, 0, []) : zm_E) := (congrArg (fun l => l[50]?) cd_147).trans rfl
theorem c_147_51 : (zm_cd 147)[51]? = some ((94, .iload_n 2, 1, 2, 0, 0, 0, 0, []) : zm_E) := (congrArg (fun l => l[51]?) cd_147).trans rfl
theorem c_147_52 : (zm_cd 147)[52]? = some ((95, .iload_n 3, 1, 3, 0, 0, 0, 0, []) : zm_E) := (congrArg (fun l => l[52]?) cd_147).trans rfl
theorem c_147_53 : (zm_cd 147)[53]? = some ((96, .invokevirtual 50, 3, 148, 4, 1, 0, 0, [3]) : zm_E) := (congrArg (fun l => l[53]?) cd_147).trans rfl
theorem c_147_54 : (zm_cd 147)[54]? = some ((99, .ifCond .eq 6, 3, 57, 0, 0, 0, 0, []) : zm_E) := (congrArg (fun l => l[54]?) cd_147).trans rfl
theorem c_147_55 : (zm_cd 147)[55]? = some ((102, .iload 6, 2, 6, 0, 0, 0, 0, []) : zm_E) := (congrArg (fun l => l[55]?) cd_147).trans rfl
theorem c_147_56 : (zm_cd 147)[56]? = some ((104, .ireturn, 1, 0, 0, 0, 0, 0, []) : zm_E) := (congrArg (fun l => l[56]?) cd_147).trans rfl
theorem c_147_57 : (zm_cd 147)[57]? = some ((105, .iinc 4 1, 3, 4, 0, 0, 1, 0, []) : zm_E) := (congrArg (fun l => l[57]?) cd_147).trans rfl
theorem c_147_58 : (zm_cd 147)[58]? = some ((108, .goto (-61), 3, 27, 0, 0, 0, 0, []) : zm_E) := (congrArg (fun l => l[58]?) cd_147).trans rfl
theorem c_147_59 : (zm_cd 147)[59]? = some ((111, .bipush (-9), 2, 0, 0, 0, (-9), 0, []) : zm_E) := (congrArg (fun l => l[59]?) cd_147).trans rfl
theorem c_147_60 : (zm_cd 147)[60]? = some ((113, .ireturn, 1, 0, 0, 0, 0, 0, []) : zm_E) := (congrArg (fun l => l[60]?) cd_147).trans rfl
theorem cd_148 : zm_cd 148 = zd_148 := rfl
theorem ml_148 : zm_ml 148 = 7 := rfl
theorem ht_148 : zm_ht 148 = [] := rfl
theorem c_148_0 : (zm_cd 148)[0]? = some ((0, .iconst 0, 1, 0, 0, 0, 0, 0, []) : zm_E) := (congrArg (fun l => l[0]?) cd_148).trans rfl
theorem c_148_1 : (zm_cd 148)[1]? = some ((1, .istore 5, 2, 5, 0, 0, 0, 0, []) : zm_E) := (congrArg (fun l => l[1]?) cd_148).trans rfl
theorem c_148_2 : (zm_cd 148)[2]? = some ((3, .iload 5, 2, 5, 0, 0, 0, 0, []) : zm_E) := (congrArg (fun l => l[2]?) cd_148).trans rfl
theorem c_148_3 : (zm_cd 148)[3]? = some ((5, .aload_n 1, 1, 1, 0, 0, 0, 0, []) : zm_E) := (congrArg (fun l => l[3]?) cd_148).trans rfl
theorem c_148_4 : (zm_cd 148)[4]? = some ((6, .getfield 54, 3, 1, 0, 0, 0, 0, []) : zm_E) := (congrArg (fun l => l[4]?) cd_148).trans rfl
theorem c_148_5 : (zm_cd 148)[5]? = some ((9, .if_icmp .ge 78, 3, 43, 0, 0, 0, 0, []) : zm_E) := (congrArg (fun l => l[5]?) cd_148).trans rfl
theorem c_148_6 : (zm_cd 148)[6]? = some ((12, .iload 5, 2, 5, 0, 0, 0, 0, []) : zm_E) := (congrArg (fun l => l[6]?) cd_148).trans rfl
theorem c_148_7 : (zm_cd 148)[7]? = some ((14, .iconst 1, 1, 0, 0, 0, 1, 0, []) : zm_E) := (congrArg (fun l => l[7]?) cd_148).trans rfl
theorem c_148_8 : (zm_cd 148)[8]? = some ((15, .iadd, 1, 0, 0, 0, 0, 0, []) : zm_E) := (congrArg (fun l => l[8]?) cd_148).trans rfl
theorem c_148_9 : (zm_cd 148)[9]? = some ((16, .istore 6, 2, 6, 0, 0, 0, 0, []) : zm_E) := (congrArg (fun l => l[9]?) cd_148).trans rfl
theorem c_148_10 : (zm_cd 148)[10]? = some ((18, .iload 6, 2, 6, 0, 0, 0, 0, []) : zm_E) := (congrArg (fun l => l[10]?) cd_148).trans rfl
theorem c_148_11 : (zm_cd 148)[11]? = some ((20, .aload_n 1, 1, 1, 0, 0, 0, 0, []) : zm_E) := (congrArg (fun l => l[11]?) cd_148).trans rfl
theorem c_148_12 : (zm_cd 148)[12]? = some ((21, .getfield 54, 3, 1, 0, 0, 0, 0, []) : zm_E) := (congrArg (fun l => l[12]?) cd_148).trans rfl
theorem c_148_13 : (zm_cd 148)[13]? = some ((24, .if_icmp .ge 57, 3, 41, 0, 0, 0, 0, []) : zm_E) := (congrArg (fun l => l[13]?) cd_148).trans rfl
theorem c_148_14 : (zm_cd 148)[14]? = some ((27, .aload_n 1, 1, 1, 0, 0, 0, 0, []) : zm_E) := (congrArg (fun l => l[14]?) cd_148).trans rfl
theorem c_148_15 : (zm_cd 148)[15]? = some ((28, .iload 5, 2, 5, 0, 0, 0, 0, []) : zm_E) := (congrArg (fun l => l[15]?) cd_148).trans rfl
theorem c_148_16 : (zm_cd 148)[16]? = some ((30, .iload 6, 2, 6, 0, 0, 0, 0, []) : zm_E) := (congrArg (fun l => l[16]?) cd_148).trans rfl
theorem c_148_17 : (zm_cd 148)[17]? = some ((32, .invokevirtual 57, 3, 130, 2, 1, 0, 0, [1]) : zm_E) := (congrArg (fun l => l[17]?) cd_148).trans rfl
theorem c_148_18 : (zm_cd 148)[18]? = some ((35, .ifCond .ne 40, 3, 39, 0, 0, 0, 0, []) : zm_E) := (congrArg (fun l => l[18]?) cd_148).trans rfl
theorem c_148_19 : (zm_cd 148)[19]? = some ((38, .aload_n 1, 1, 1, 0, 0, 0, 0, []) : zm_E) := (congrArg (fun l => l[19]?) cd_148).trans rfl
theorem c_148_20 : (zm_cd 148)[20]? = some ((39, .iload 5, 2, 5, 0, 0, 0, 0, []) : zm_E) := (congrArg (fun l => l[20]?) cd_148).trans rfl
theorem c_148_21 : (zm_cd 148)[21]? = some ((41, .iload 6, 2, 6, 0, 0, 0, 0, []) : zm_E) := (congrArg (fun l => l[21]?) cd_148).trans rfl
theorem c_148_22 : (zm_cd 148)[22]? = some ((43, .invokevirtual 61, 3, 131, 2, 0, 0, 0, [1]) : zm_E) := (congrArg (fun l => l[22]?) cd_148).trans rfl
theorem c_148_23 : (zm_cd 148)[23]? = some ((46, .aload_n 1, 1, 1, 0, 0, 0, 0, []) : zm_E) := (congrArg (fun l => l[23]?) cd_148).trans rfl
theorem c_148_24 : (zm_cd 148)[24]? = some ((47, .getfield 25, 3, 1, 3, 1, 0, 0, []) : zm_E) := (congrArg (fun l => l[24]?) cd_148).trans rfl
theorem c_148_25 : (zm_cd 148)[25]? = some ((50, .iload_n 3, 1, 3, 0, 0, 0, 0, []) : zm_E) := (congrArg (fun l => l[25]?) cd_148).trans rfl
theorem c_148_26 : (zm_cd 148)[26]? = some ((51, .invokestatic 28, 3, 209, 2, 1, 1, 0, []) : zm_E) := (congrArg (fun l => l[26]?) cd_148).trans rfl
theorem c_148_27 : (zm_cd 148)[27]? = some ((54, .iload 4, 2, 4, 0, 0, 0, 0, []) : zm_E) := (congrArg (fun l => l[27]?) cd_148).trans rfl
theorem c_148_28 : (zm_cd 148)[28]? = some ((56, .if_icmp .ne 5, 3, 31, 0, 0, 0, 0, []) : zm_E) := (congrArg (fun l => l[28]?) cd_148).trans rfl
theorem c_148_29 : (zm_cd 148)[29]? = some ((59, .iconst 1, 1, 0, 0, 0, 1, 0, []) : zm_E) := (congrArg (fun l => l[29]?) cd_148).trans rfl
theorem c_148_30 : (zm_cd 148)[30]? = some ((60, .ireturn, 1, 1, 0, 0, 0, 0, []) : zm_E) := (congrArg (fun l => l[30]?) cd_148).trans rfl
theorem c_148_31 : (zm_cd 148)[31]? = some ((61, .aload_n 0, 1, 0, 0, 0, 0, 0, []) : zm_E) := (congrArg (fun l => l[31]?) cd_148).trans rfl
theorem c_148_32 : (zm_cd 148)[32]? = some ((62, .aload_n 1, 1, 1, 0, 0, 0, 0, []) : zm_E) := (congrArg (fun l => l[32]?) cd_148).trans rfl
theorem c_148_33 : (zm_cd 148)[33]? = some ((63, .iload_n 2, 1, 2, 0, 0, 0, 0, []) : zm_E) := (congrArg (fun l => l[33]?) cd_148).trans rfl
theorem c_148_34 : (zm_cd 148)[34]? = some ((64, .invokevirtual 42, 3, 149, 2, 0, 0, 0, [3]) : zm_E) := (congrArg (fun l => l[34]?) cd_148).trans rfl
theorem c_148_35 : (zm_cd 148)[35]? = some ((67, .aload_n 1, 1, 1, 0, 0, 0, 0, []) : zm_E) := (congrArg (fun l => l[35]?) cd_148).trans rfl
theorem c_148_36 : (zm_cd 148)[36]? = some ((68, .iload 5, 2, 5, 0, 0, 0, 0, []) : zm_E) := (congrArg (fun l => l[36]?) cd_148).trans rfl
theorem c_148_37 : (zm_cd 148)[37]? = some ((70, .iload 6, 2, 6, 0, 0, 0, 0, []) : zm_E) := (congrArg (fun l => l[37]?) cd_148).trans rfl
theorem c_148_38 : (zm_cd 148)[38]? = some ((72, .invokevirtual 61, 3, 131, 2, 0, 0, 0, [1]) : zm_E) := (congrArg (fun l => l[38]?) cd_148).trans rfl
theorem c_148_39 : (zm_cd 148)[39]? = some ((75, .iinc 6 1, 3, 6, 0, 0, 1, 0, []) : zm_E) := (congrArg (fun l => l[39]?) cd_148).trans rfl
theorem c_148_40 : (zm_cd 148)[40]? = some ((78, .goto (-60), 3, 10, 0, 0, 0, 0, []) : zm_E) := (congrArg (fun l => l[40]?) cd_148).trans rfl
theorem c_148_41 : (zm_cd 148)[41]? = some ((81, .iinc 5 1, 3, 5, 0, 0, 1, 0, []) : zm_E) := (congrArg (fun l => l[41]?) cd_148).trans rfl
theorem c_148_42 : (zm_cd 148)[42]? = some ((84, .goto (-81), 3, 2, 0, 0, 0, 0, []) : zm_E) := (congrArg (fun l => l[42]?) cd_148).trans rfl
theorem c_148_43 : (zm_cd 148)[43]? = some ((87, .iconst 0, 1, 0, 0, 0, 0, 0, []) : zm_E) := (congrArg (fun l => l[43]?) cd_148).trans rfl
theorem c_148_44 : (zm_cd 148)[44]? = some ((88, .ireturn, 1, 1, 0, 0, 0, 0, []) : zm_E) := (congrArg (fun l => l[44]?) cd_148).trans rfl
theorem cd_149 : zm_cd 149 = zd_149 := rfl
theorem ml_149 : zm_ml 149 = 7 := rfl
theorem ht_149 : zm_ht 149 = [] := rfl
theorem c_149_0 : (zm_cd 149)[0]? = some ((0, .aload_n 1, 1, 1, 0, 0, 0, 0, []) : zm_E) := (congrArg (fun l => l[0]?) cd_149).trans rfl
theorem c_149_1 : (zm_cd 149)[1]? = some ((1, .invokestatic 65, 3, 150, 1, 1, 0, 0, []) : zm_E) := (congrArg (fun l => l[1]?) cd_149).trans rfl
theorem c_149_2 : (zm_cd 149)[2]? = some ((4, .istore_n 3, 1, 3, 0, 0, 0, 0, []) : zm_E) := (congrArg (fun l => l[2]?) cd_149).trans rfl
theorem c_149_3 : (zm_cd 149)[3]? = some ((5, .iload_n 3, 1, 3, 0, 0, 0, 0, []) : zm_E) := (congrArg (fun l => l[3]?) cd_149).trans rfl
theorem c_149_4 : (zm_cd 149)[4]? = some ((6, .bipush 64, 2, 0, 0, 0, 64, 0, []) : zm_E) := (congrArg (fun l => l[4]?) cd_149).trans rfl
theorem c_149_5 : (zm_cd 149)[5]? = some ((8, .idiv, 1, 0, 0, 0, 0, 0, []) : zm_E) := (congrArg (fun l => l[5]?) cd_149).trans rfl
theorem c_149_6 : (zm_cd 149)[6]? = some ((9, .istore 4, 2, 4, 0, 0, 0, 0, []) : zm_E) := (congrArg (fun l => l[6]?) cd_149).trans rfl
theorem c_149_7 : (zm_cd 149)[7]? = some ((11, .lconst 1, 1, 0, 0, 0, 0, 1, []) : zm_E) := (congrArg (fun l => l[7]?) cd_149).trans rfl
theorem c_149_8 : (zm_cd 149)[8]? = some ((12, .iload_n 3, 1, 3, 0, 0, 0, 0, []) : zm_E) := (congrArg (fun l => l[8]?) cd_149).trans rfl
theorem c_149_9 : (zm_cd 149)[9]? = some ((13, .bipush 64, 2, 0, 0, 0, 64, 0, []) : zm_E) := (congrArg (fun l => l[9]?) cd_149).trans rfl
theorem c_149_10 : (zm_cd 149)[10]? = some ((15, .irem, 1, 0, 0, 0, 0, 0, []) : zm_E) := (congrArg (fun l => l[10]?) cd_149).trans rfl
theorem c_149_11 : (zm_cd 149)[11]? = some ((16, .lshl, 1, 0, 0, 0, 0, 0, []) : zm_E) := (congrArg (fun l => l[11]?) cd_149).trans rfl
theorem c_149_12 : (zm_cd 149)[12]? = some ((17, .lstore 5, 2, 5, 0, 0, 0, 0, []) : zm_E) := (congrArg (fun l => l[12]?) cd_149).trans rfl
theorem c_149_13 : (zm_cd 149)[13]? = some ((19, .iload 4, 2, 4, 0, 0, 0, 0, []) : zm_E) := (congrArg (fun l => l[13]?) cd_149).trans rfl
theorem c_149_14 : (zm_cd 149)[14]? = some ((21, .ifCond .lt 80, 3, 58, 0, 0, 0, 0, []) : zm_E) := (congrArg (fun l => l[14]?) cd_149).trans rfl
theorem c_149_15 : (zm_cd 149)[15]? = some ((24, .iload 4, 2, 4, 0, 0, 0, 0, []) : zm_E) := (congrArg (fun l => l[15]?) cd_149).trans rfl
theorem c_149_16 : (zm_cd 149)[16]? = some ((26, .aload_n 0, 1, 0, 0, 0, 0, 0, []) : zm_E) := (congrArg (fun l => l[16]?) cd_149).trans rfl
theorem c_149_17 : (zm_cd 149)[17]? = some ((27, .getfield 15, 3, 3, 2, 1, 0, 0, []) : zm_E) := (congrArg (fun l => l[17]?) cd_149).trans rfl
theorem c_149_18 : (zm_cd 149)[18]? = some ((30, .arraylength, 1, 0, 0, 0, 0, 0, []) : zm_E) := (congrArg (fun l => l[18]?) cd_149).trans rfl
theorem c_149_19 : (zm_cd 149)[19]? = some ((31, .if_icmp .ge 70, 3, 58, 0, 0, 0, 0, []) : zm_E) := (congrArg (fun l => l[19]?) cd_149).trans rfl
theorem c_149_20 : (zm_cd 149)[20]? = some ((34, .aload_n 0, 1, 0, 0, 0, 0, 0, []) : zm_E) := (congrArg (fun l => l[20]?) cd_149).trans rfl
theorem c_149_21 : (zm_cd 149)[21]? = some ((35, .getfield 15, 3, 3, 2, 1, 0, 0, []) : zm_E) := (congrArg (fun l => l[21]?) cd_149).trans rfl
theorem c_149_22 : (zm_cd 149)[22]? = some ((38, .iload 4, 2, 4, 0, 0, 0, 0, []) : zm_E) := (congrArg (fun l => l[22]?) cd_149).trans rfl
theorem c_149_23 : (zm_cd 149)[23]? = some ((40, .laload, 1, 0, 0, 0, 0, 0, []) : zm_E) := (congrArg (fun l => l[23]?) cd_149).trans rfl
theorem c_149_24 : (zm_cd 149)[24]? = some ((41, .lload 5, 2, 5, 0, 0, 0, 0, []) : zm_E) := (congrArg (fun l => l[24]?) cd_149).trans rfl
theorem c_149_25 : (zm_cd 149)[25]? = some ((43, .land, 1, 0, 0, 0, 0, 0, []) : zm_E) := (congrArg (fun l => l[25]?) cd_149).trans rfl
theorem c_149_26 : (zm_cd 149)[26]? = some ((44, .lconst 0, 1, 0, 0, 0, 0, 0, []) : zm_E) := (congrArg (fun l => l[26]?) cd_149).trans rfl
theorem c_149_27 : (zm_cd 149)[27]? = some ((45, .lcmp, 1, 0, 0, 0, 0, 0, []) : zm_E) := (congrArg (fun l => l[27]?) cd_149).trans rfl
theorem c_149_28 : (zm_cd 149)[28]? = some ((46, .ifCond .ne 55, 3, 58, 0, 0, 0, 0, []) : zm_E) := (congrArg (fun l => l[28]?) cd_149).trans rfl
theorem c_149_29 : (zm_cd 149)[29]? = some ((49, .aload_n 0, 1, 0, 0, 0, 0, 0, []) : zm_E) := (congrArg (fun l => l[29]?) cd_149).trans rfl
theorem c_149_30 : (zm_cd 149)[30]? = some ((50, .getfield 32, 3, 3, 1, 0, 0, 0, []) : zm_E) := (congrArg (fun l => l[30]?) cd_149).trans rfl
theorem c_149_31 : (zm_cd 149)[31]? = some ((53, .sipush 5040, 3, 0, 0, 0, 5040, 0, []) : zm_E) := (congrArg (fun l => l[31]?) cd_149).trans rfl
theorem c_149_32 : (zm_cd 149)[32]? = some ((56, .if_icmp .ge 45, 3, 58, 0, 0, 0, 0, []) : zm_E) := (congrArg (fun l => l[32]?) cd_149).trans rfl
theorem c_149_33 : (zm_cd 149)[33]? = some ((59, .aload_n 0, 1, 0, 0, 0, 0, 0, []) : zm_E) := (congrArg (fun l => l[33]?) cd_149).trans rfl
theorem c_149_34 : (zm_cd 149)[34]? = some ((60, .getfield 15, 3, 3, 2, 1, 0, 0, []) : zm_E) := (congrArg (fun l => l[34]?) cd_149).trans rfl
theorem c_149_35 : (zm_cd 149)[35]? = some ((63, .iload 4, 2, 4, 0, 0, 0, 0, []) : zm_E) := (congrArg (fun l => l[35]?) cd_149).trans rfl
theorem c_149_36 : (zm_cd 149)[36]? = some ((65, .dup2, 1, 0, 0, 0, 0, 0, []) : zm_E) := (congrArg (fun l => l[36]?) cd_149).trans rfl
theorem c_149_37 : (zm_cd 149)[37]? = some ((66, .laload, 1, 0, 0, 0, 0, 0, []) : zm_E) := (congrArg (fun l => l[37]?) cd_149).trans rfl
theorem c_149_38 : (zm_cd 149)[38]? = some ((67, .lload 5, 2, 5, 0, 0, 0, 0, []) : zm_E) := (congrArg (fun l => l[38]?) cd_149).trans rfl
theorem c_149_39 : (zm_cd 149)[39]? = some ((69, .lor, 1, 0, 0, 0, 0, 0, []) : zm_E) := (congrArg (fun l => l[39]?) cd_149).trans rfl
theorem c_149_40 : (zm_cd 149)[40]? = some ((70, .lastore, 1, 0, 0, 0, 0, 0, []) : zm_E) := (congrArg (fun l => l[40]?) cd_149).trans rfl
theorem c_149_41 : (zm_cd 149)[41]? = some ((71, .aload_n 0, 1, 0, 0, 0, 0, 0, []) : zm_E) := (congrArg (fun l => l[41]?) cd_149).trans rfl
theorem c_149_42 : (zm_cd 149)[42]? = some ((72, .getfield 11, 3, 3, 0, 1, 0, 0, []) : zm_E) := (congrArg (fun l => l[42]?) cd_149).trans rfl
theorem c_149_43 : (zm_cd 149)[43]? = some ((75, .aload_n 0, 1, 0, 0, 0, 0, 0, []) : zm_E) := (congrArg (fun l => l[43]?) cd_149).trans rfl
theorem c_149_44 : (zm_cd 149)[44]? = some ((76, .getfield 32, 3, 3, 1, 0, 0, 0, []) : zm_E) := (congrArg (fun l => l[44]?) cd_149).trans rfl
theorem c_149_45 : (zm_cd 149)[45]? = some ((79, .iload_n 2, 1, 2, 0, 0, 0, 0, []) : zm_E) := (congrArg (fun l => l[45]?) cd_149).trans rfl
theorem c_149_46 : (zm_cd 149)[46]? = some ((80, .bipush 21, 2, 0, 0, 0, 21, 0, []) : zm_E) := (congrArg (fun l => l[46]?) cd_149).trans rfl
theorem c_149_47 : (zm_cd 149)[47]? = some ((82, .ishl, 1, 0, 0, 0, 0, 0, []) : zm_E) := (congrArg (fun l => l[47]?) cd_149).trans rfl
theorem c_149_48 : (zm_cd 149)[48]? = some ((83, .aload_n 1, 1, 1, 0, 0, 0, 0, []) : zm_E) := (congrArg (fun l => l[48]?) cd_149).trans rfl
theorem c_149_49 : (zm_cd 149)[49]? = some ((84, .invokestatic 69, 3, 151, 1, 1, 0, 0, []) : zm_E) := (congrArg (fun l => l[49]?) cd_149).trans rfl
theorem c_149_50 : (zm_cd 149)[50]? = some ((87, .ior, 1, 0, 0, 0, 0, 0, []) : zm_E) := (congrArg (fun l => l[50]?) cd_149).trans rfl
theorem c_149_51 : (zm_cd 149)[51]? = some ((88, .invokestatic 72, 3, 210, 3, 0, 1, 0, []) : zm_E) := (congrArg (fun l => l[51]?) cd_149).trans rfl
theorem c_149_52 : (zm_cd 149)[52]? = some ((91, .aload_n 0, 1, 0, 0, 0, 0, 0, []) : zm_E) := (congrArg (fun l => l[52]?) cd_149).trans rfl
theorem c_149_53 : (zm_cd 149)[53]? = some ((92, .dup, 1, 0, 0, 0, 0, 0, []) : zm_E) := (congrArg (fun l => l[53]?) cd_149).trans rfl
theorem c_149_54 : (zm_cd 149)[54]? = some ((93, .getfield 32, 3, 3, 1, 0, 0, 0, []) : zm_E) := (congrArg (fun l => l[54]?) cd_149).trans rfl
theorem c_149_55 : (zm_cd 149)[55]? = some ((96, .iconst 1, 1, 0, 0, 0, 1, 0, []) : zm_E) := (congrArg (fun l => l[55]?) cd_149).trans rfl
theorem c_149_56 : (zm_cd 149)[56]? = some ((97, .iadd, 1, 0, 0, 0, 0, 0, []) : zm_E) := (congrArg (fun l => l[56]?) cd_149).trans rfl
theorem c_149_57 : (zm_cd 149)[57]? = some ((98, .putfield 32, 3, 3, 1, 0, 0, 0, []) : zm_E) := (congrArg (fun l => l[57]?) cd_149).trans rfl
theorem c_149_58 : (zm_cd 149)[58]? = some ((101, .return_, 1, 0, 0, 0, 0, 0, []) : zm_E) := (congrArg (fun l => l[58]?) cd_149).trans rfl
theorem cd_150 : zm_cd 150 = zd_150 := rfl
theorem ml_150 : zm_ml 150 = 5 := rfl
theorem ht_150 : zm_ht 150 = [] := rfl
theorem c_150_0 : (zm_cd 150)[0]? = some ((0, .iconst 0, 1, 0, 0, 0, 0, 0, []) : zm_E) := (congrArg (fun l => l[0]?) cd_150).trans rfl
theorem c_150_1 : (zm_cd 150)[1]? = some ((1, .istore_n 1, 1, 1, 0, 0, 0, 0, []) : zm_E) := (congrArg (fun l => l[1]?) cd_150).trans rfl
theorem c_150_2 : (zm_cd 150)[2]? = some ((2, .aload_n 0, 1, 0, 0, 0, 0, 0, []) : zm_E) := (congrArg (fun l => l[2]?) cd_150).trans rfl
theorem c_150_3 : (zm_cd 150)[3]? = some ((3, .invokevirtual 76, 3, 117, 0, 1, 0, 0, [1]) : zm_E) := (congrArg (fun l => l[3]?) cd_150).trans rfl
theorem c_150_4 : (zm_cd 150)[4]? = some ((6, .istore_n 2, 1, 2, 0, 0, 0, 0, []) : zm_E) := (congrArg (fun l => l[4]?) cd_150).trans rfl
theorem c_150_5 : (zm_cd 150)[5]? = some ((7, .iconst 0, 1, 0, 0, 0, 0, 0, []) : zm_E) := (congrArg (fun l => l[5]?) cd_150).trans rfl
theorem c_150_6 : (zm_cd 150)[6]? = some ((8, .istore_n 3, 1, 3, 0, 0, 0, 0, []) : zm_E) := (congrArg (fun l => l[6]?) cd_150).trans rfl
theorem c_150_7 : (zm_cd 150)[7]? = some ((9, .iload_n 3, 1, 3, 0, 0, 0, 0, []) : zm_E) := (congrArg (fun l => l[7]?) cd_150).trans rfl
theorem c_150_8 : (zm_cd 150)[8]? = some ((10, .aload_n 0, 1, 0, 0, 0, 0, 0, []) : zm_E) := (congrArg (fun l => l[8]?) cd_150).trans rfl
theorem c_150_9 : (zm_cd 150)[9]? = some ((11, .getfield 54, 3, 1, 0, 0, 0, 0, []) : zm_E) := (congrArg (fun l => l[9]?) cd_150).trans rfl
theorem c_150_10 : (zm_cd 150)[10]? = some ((14, .if_icmp .ge 51, 3, 40, 0, 0, 0, 0, []) : zm_E) := (congrArg (fun l => l[10]?) cd_150).trans rfl
theorem c_150_11 : (zm_cd 150)[11]? = some ((17, .aload_n 0, 1, 0, 0, 0, 0, 0, []) : zm_E) := (congrArg (fun l => l[11]?) cd_150).trans rfl
theorem c_150_12 : (zm_cd 150)[12]? = some ((18, .getfield 25, 3, 1, 3, 1, 0, 0, []) : zm_E) := (congrArg (fun l => l[12]?) cd_150).trans rfl
theorem c_150_13 : (zm_cd 150)[13]? = some ((21, .iload_n 3, 1, 3, 0, 0, 0, 0, []) : zm_E) := (congrArg (fun l => l[13]?) cd_150).trans rfl
theorem c_150_14 : (zm_cd 150)[14]? = some ((22, .invokestatic 28, 3, 209, 2, 1, 1, 0, []) : zm_E) := (congrArg (fun l => l[14]?) cd_150).trans rfl
theorem c_150_15 : (zm_cd 150)[15]? = some ((25, .istore 4, 2, 4, 0, 0, 0, 0, []) : zm_E) := (congrArg (fun l => l[15]?) cd_150).trans rfl
theorem c_150_16 : (zm_cd 150)[16]? = some ((27, .iload_n 1, 1, 1, 0, 0, 0, 0, []) : zm_E) := (congrArg (fun l => l[16]?) cd_150).trans rfl
theorem c_150_17 : (zm_cd 150)[17]? = some ((28, .aload_n 0, 1, 0, 0, 0, 0, 0, []) : zm_E) := (congrArg (fun l => l[17]?) cd_150).trans rfl
theorem c_150_18 : (zm_cd 150)[18]? = some ((29, .getfield 54, 3, 1, 0, 0, 0, 0, []) : zm_E) := (congrArg (fun l => l[18]?) cd_150).trans rfl
theorem c_150_19 : (zm_cd 150)[19]? = some ((32, .iload_n 3, 1, 3, 0, 0, 0, 0, []) : zm_E) := (congrArg (fun l => l[19]?) cd_150).trans rfl
theorem c_150_20 : (zm_cd 150)[20]? = some ((33, .isub, 1, 0, 0, 0, 0, 0, []) : zm_E) := (congrArg (fun l => l[20]?) cd_150).trans rfl
theorem c_150_21 : (zm_cd 150)[21]? = some ((34, .imul, 1, 0, 0, 0, 0, 0, []) : zm_E) := (congrArg (fun l => l[21]?) cd_150).trans rfl
theorem c_150_22 : (zm_cd 150)[22]? = some ((35, .iload_n 2, 1, 2, 0, 0, 0, 0, []) : zm_E) := (congrArg (fun l => l[22]?) cd_150).trans rfl
theorem c_150_23 : (zm_cd 150)[23]? = some ((36, .iload 4, 2, 4, 0, 0, 0, 0, []) : zm_E) := (congrArg (fun l => l[23]?) cd_150).trans rfl
theorem c_150_24 : (zm_cd 150)[24]? = some ((38, .invokestatic 80, 3, 36, 1, 1, 1, 0, []) : zm_E) := (congrArg (fun l => l[24]?) cd_150).trans rfl
theorem c_150_25 : (zm_cd 150)[25]? = some ((41, .iconst 1, 1, 0, 0, 0, 1, 0, []) : zm_E) := (congrArg (fun l => l[25]?) cd_150).trans rfl
theorem c_150_26 : (zm_cd 150)[26]? = some ((42, .isub, 1, 0, 0, 0, 0, 0, []) : zm_E) := (congrArg (fun l => l[26]?) cd_150).trans rfl
theorem c_150_27 : (zm_cd 150)[27]? = some ((43, .iand, 1, 0, 0, 0, 0, 0, []) : zm_E) := (congrArg (fun l => l[27]?) cd_150).trans rfl
theorem c_150_28 : (zm_cd 150)[28]? = some ((44, .invokestatic 84, 3, 207, 1, 1, 0, 0, []) : zm_E) := (congrArg (fun l => l[28]?) cd_150).trans rfl
theorem c_150_29 : (zm_cd 150)[29]? = some ((47, .iadd, 1, 0, 0, 0, 0, 0, []) : zm_E) := (congrArg (fun l => l[29]?) cd_150).trans rfl
theorem c_150_30 : (zm_cd 150)[30]? = some ((48, .istore_n 1, 1, 1, 0, 0, 0, 0, []) : zm_E) := (congrArg (fun l => l[30]?) cd_150).trans rfl
theorem c_150_31 : (zm_cd 150)[31]? = some ((49, .iload_n 2, 1, 2, 0, 0, 0, 0, []) : zm_E) := (congrArg (fun l => l[31]?) cd_150).trans rfl
theorem c_150_32 : (zm_cd 150)[32]? = some ((50, .iload 4, 2, 4, 0, 0, 0, 0, []) : zm_E) := (congrArg (fun l => l[32]?) cd_150).trans rfl
theorem c_150_33 : (zm_cd 150)[33]? = some ((52, .invokestatic 80, 3, 36, 1, 1, 1, 0, []) : zm_E) := (congrArg (fun l => l[33]?) cd_150).trans rfl
theorem c_150_34 : (zm_cd 150)[34]? = some ((55, .iconst (-1), 1, 0, 0, 0, (-1), 0, []) : zm_E) := (congrArg (fun l => l[34]?) cd_150).trans rfl
theorem c_150_35 : (zm_cd 150)[35]? = some ((56, .ixor, 1, 0, 0, 0, 0, 0, []) : zm_E) := (congrArg (fun l => l[35]?) cd_150).trans rfl
theorem c_150_36 : (zm_cd 150)[36]? = some ((57, .iand, 1, 0, 0, 0, 0, 0, []) : zm_E) := (congrArg (fun l => l[36]?) cd_150).trans rfl
theorem c_150_37 : (zm_cd 150)[37]? = some ((58, .istore_n 2, 1, 2, 0, 0, 0, 0, []) : zm_E) := (congrArg (fun l => l[37]?) cd_150).trans rfl
theorem c_150_38 : (zm_cd 150)[38]? = some ((59, .iinc 3 1, 3, 3, 0, 0, 1, 0, []) : zm_E) := (congrArg (fun l => l[38]?) cd_150).trans rfl
theorem c_150_39 : (zm_cd 150)[39]? = some ((62, .goto (-53), 3, 7, 0, 0, 0, 0, []) : zm_E) := (congrArg (fun l => l[39]?) cd_150).trans rfl
theorem c_150_40 : (zm_cd 150)[40]? = some ((65, .iload_n 1, 1, 1, 0, 0, 0, 0, []) : zm_E) := (congrArg (fun l => l[40]?) cd_150).trans rfl
theorem c_150_41 : (zm_cd 150)[41]? = some ((66, .ireturn, 1, 0, 0, 0, 0, 0, []) : zm_E) := (congrArg (fun l => l[41]?) cd_150).trans rfl
