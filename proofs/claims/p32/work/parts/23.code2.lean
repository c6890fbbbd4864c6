/-! the instructions, by program, part 2 -/
theorem cd_190 : zm_cd 190 = zd_190 := rfl
theorem ml_190 : zm_ml 190 = 15 := rfl
theorem ht_190 : zm_ht 190 = [] := rfl
theorem c_190_0 : (zm_cd 190)[0]? = some ((0, .iload_n 1, 1, 1, 0, 0, 0, 0, []) : zm_E) := (congrArg (fun l => l[0]?) cd_190).trans rfl
theorem c_190_1 : (zm_cd 190)[1]? = some ((1, .iconst 3, 1, 0, 0, 0, 3, 0, []) : zm_E) := (congrArg (fun l => l[1]?) cd_190).trans rfl
theorem c_190_2 : (zm_cd 190)[2]? = some ((2, .ishr, 1, 0, 0, 0, 0, 0, []) : zm_E) := (congrArg (fun l => l[2]?) cd_190).trans rfl
theorem c_190_3 : (zm_cd 190)[3]? = some ((3, .istore_n 2, 1, 2, 0, 0, 0, 0, []) : zm_E) := (congrArg (fun l => l[3]?) cd_190).trans rfl
theorem c_190_4 : (zm_cd 190)[4]? = some ((4, .aload_n 0, 1, 0, 0, 0, 0, 0, []) : zm_E) := (congrArg (fun l => l[4]?) cd_190).trans rfl
theorem c_190_5 : (zm_cd 190)[5]? = some ((5, .iconst 0, 1, 0, 0, 0, 0, 0, []) : zm_E) := (congrArg (fun l => l[5]?) cd_190).trans rfl
theorem c_190_6 : (zm_cd 190)[6]? = some ((6, .invokevirtual 9, 3, 5, 1, 1, 0, 0, [7]) : zm_E) := (congrArg (fun l => l[6]?) cd_190).trans rfl
theorem c_190_7 : (zm_cd 190)[7]? = some ((9, .istore_n 3, 1, 3, 0, 0, 0, 0, []) : zm_E) := (congrArg (fun l => l[7]?) cd_190).trans rfl
theorem c_190_8 : (zm_cd 190)[8]? = some ((10, .iload_n 2, 1, 2, 0, 0, 0, 0, []) : zm_E) := (congrArg (fun l => l[8]?) cd_190).trans rfl
theorem c_190_9 : (zm_cd 190)[9]? = some ((11, .iload_n 3, 1, 3, 0, 0, 0, 0, []) : zm_E) := (congrArg (fun l => l[9]?) cd_190).trans rfl
theorem c_190_10 : (zm_cd 190)[10]? = some ((12, .irem, 1, 0, 0, 0, 0, 0, []) : zm_E) := (congrArg (fun l => l[10]?) cd_190).trans rfl
theorem c_190_11 : (zm_cd 190)[11]? = some ((13, .istore 4, 2, 4, 0, 0, 0, 0, []) : zm_E) := (congrArg (fun l => l[11]?) cd_190).trans rfl
theorem c_190_12 : (zm_cd 190)[12]? = some ((15, .iload_n 2, 1, 2, 0, 0, 0, 0, []) : zm_E) := (congrArg (fun l => l[12]?) cd_190).trans rfl
theorem c_190_13 : (zm_cd 190)[13]? = some ((16, .iconst 3, 1, 0, 0, 0, 3, 0, []) : zm_E) := (congrArg (fun l => l[13]?) cd_190).trans rfl
theorem c_190_14 : (zm_cd 190)[14]? = some ((17, .ishr, 1, 0, 0, 0, 0, 0, []) : zm_E) := (congrArg (fun l => l[14]?) cd_190).trans rfl
theorem c_190_15 : (zm_cd 190)[15]? = some ((18, .iload_n 3, 1, 3, 0, 0, 0, 0, []) : zm_E) := (congrArg (fun l => l[15]?) cd_190).trans rfl
theorem c_190_16 : (zm_cd 190)[16]? = some ((19, .irem, 1, 0, 0, 0, 0, 0, []) : zm_E) := (congrArg (fun l => l[16]?) cd_190).trans rfl
theorem c_190_17 : (zm_cd 190)[17]? = some ((20, .istore 5, 2, 5, 0, 0, 0, 0, []) : zm_E) := (congrArg (fun l => l[17]?) cd_190).trans rfl
theorem c_190_18 : (zm_cd 190)[18]? = some ((22, .aload_n 0, 1, 0, 0, 0, 0, 0, []) : zm_E) := (congrArg (fun l => l[18]?) cd_190).trans rfl
theorem c_190_19 : (zm_cd 190)[19]? = some ((23, .iload 4, 2, 4, 0, 0, 0, 0, []) : zm_E) := (congrArg (fun l => l[19]?) cd_190).trans rfl
theorem c_190_20 : (zm_cd 190)[20]? = some ((25, .iconst 0, 1, 0, 0, 0, 0, 0, []) : zm_E) := (congrArg (fun l => l[20]?) cd_190).trans rfl
theorem c_190_21 : (zm_cd 190)[21]? = some ((26, .invokevirtual 15, 3, 6, 2, 1, 0, 0, [7]) : zm_E) := (congrArg (fun l => l[21]?) cd_190).trans rfl
theorem c_190_22 : (zm_cd 190)[22]? = some ((29, .istore 6, 2, 6, 0, 0, 0, 0, []) : zm_E) := (congrArg (fun l => l[22]?) cd_190).trans rfl
theorem c_190_23 : (zm_cd 190)[23]? = some ((31, .aload_n 0, 1, 0, 0, 0, 0, 0, []) : zm_E) := (congrArg (fun l => l[23]?) cd_190).trans rfl
theorem c_190_24 : (zm_cd 190)[24]? = some ((32, .iload 5, 2, 5, 0, 0, 0, 0, []) : zm_E) := (congrArg (fun l => l[24]?) cd_190).trans rfl
theorem c_190_25 : (zm_cd 190)[25]? = some ((34, .iconst 0, 1, 0, 0, 0, 0, 0, []) : zm_E) := (congrArg (fun l => l[25]?) cd_190).trans rfl
theorem c_190_26 : (zm_cd 190)[26]? = some ((35, .invokevirtual 15, 3, 6, 2, 1, 0, 0, [7]) : zm_E) := (congrArg (fun l => l[26]?) cd_190).trans rfl
theorem c_190_27 : (zm_cd 190)[27]? = some ((38, .istore 7, 2, 7, 0, 0, 0, 0, []) : zm_E) := (congrArg (fun l => l[27]?) cd_190).trans rfl
theorem c_190_28 : (zm_cd 190)[28]? = some ((40, .iload_n 1, 1, 1, 0, 0, 0, 0, []) : zm_E) := (congrArg (fun l => l[28]?) cd_190).trans rfl
theorem c_190_29 : (zm_cd 190)[29]? = some ((41, .bipush 7, 2, 0, 0, 0, 7, 0, []) : zm_E) := (congrArg (fun l => l[29]?) cd_190).trans rfl
theorem c_190_30 : (zm_cd 190)[30]? = some ((43, .iand, 1, 0, 0, 0, 0, 0, []) : zm_E) := (congrArg (fun l => l[30]?) cd_190).trans rfl
theorem c_190_31 : (zm_cd 190)[31]? = some ((44, .tableswitch 375 0 6 #[44, 85, 85, 139, 139, 210, 284], 44, 208, 0, 0, 0, 0, [32, 55, 55, 85, 85, 121, 160]) : zm_E) := (congrArg (fun l => l[31]?) cd_190).trans rfl
theorem c_190_32 : (zm_cd 190)[32]? = some ((88, .iload_n 3, 1, 3, 0, 0, 0, 0, []) : zm_E) := (congrArg (fun l => l[32]?) cd_190).trans rfl
theorem c_190_33 : (zm_cd 190)[33]? = some ((89, .bipush 7, 2, 0, 0, 0, 7, 0, []) : zm_E) := (congrArg (fun l => l[33]?) cd_190).trans rfl
theorem c_190_34 : (zm_cd 190)[34]? = some ((91, .if_icmp .eq 32, 3, 51, 0, 0, 0, 0, []) : zm_E) := (congrArg (fun l => l[34]?) cd_190).trans rfl
theorem c_190_35 : (zm_cd 190)[35]? = some ((94, .aload_n 0, 1, 0, 0, 0, 0, 0, []) : zm_E) := (congrArg (fun l => l[35]?) cd_190).trans rfl
theorem c_190_36 : (zm_cd 190)[36]? = some ((95, .invokevirtual 50, 3, 11, 0, 1, 0, 0, [7]) : zm_E) := (congrArg (fun l => l[36]?) cd_190).trans rfl
theorem c_190_37 : (zm_cd 190)[37]? = some ((98, .iload_n 3, 1, 3, 0, 0, 0, 0, []) : zm_E) := (congrArg (fun l => l[37]?) cd_190).trans rfl
theorem c_190_38 : (zm_cd 190)[38]? = some ((99, .if_icmp .ne 28, 3, 53, 0, 0, 0, 0, []) : zm_E) := (congrArg (fun l => l[38]?) cd_190).trans rfl
theorem c_190_39 : (zm_cd 190)[39]? = some ((102, .aload_n 0, 1, 0, 0, 0, 0, 0, []) : zm_E) := (congrArg (fun l => l[39]?) cd_190).trans rfl
theorem c_190_40 : (zm_cd 190)[40]? = some ((103, .iload_n 3, 1, 3, 0, 0, 0, 0, []) : zm_E) := (congrArg (fun l => l[40]?) cd_190).trans rfl
theorem c_190_41 : (zm_cd 190)[41]? = some ((104, .iload_n 3, 1, 3, 0, 0, 0, 0, []) : zm_E) := (congrArg (fun l => l[41]?) cd_190).trans rfl
theorem c_190_42 : (zm_cd 190)[42]? = some ((105, .invokevirtual 19, 3, 7, 2, 1, 0, 0, [7]) : zm_E) := (congrArg (fun l => l[42]?) cd_190).trans rfl
theorem c_190_43 : (zm_cd 190)[43]? = some ((108, .bipush 6, 2, 0, 0, 0, 6, 0, []) : zm_E) := (congrArg (fun l => l[43]?) cd_190).trans rfl
theorem c_190_44 : (zm_cd 190)[44]? = some ((110, .if_icmp .ne 17, 3, 53, 0, 0, 0, 0, []) : zm_E) := (congrArg (fun l => l[44]?) cd_190).trans rfl
theorem c_190_45 : (zm_cd 190)[45]? = some ((113, .aload_n 0, 1, 0, 0, 0, 0, 0, []) : zm_E) := (congrArg (fun l => l[45]?) cd_190).trans rfl
theorem c_190_46 : (zm_cd 190)[46]? = some ((114, .iload_n 3, 1, 3, 0, 0, 0, 0, []) : zm_E) := (congrArg (fun l => l[46]?) cd_190).trans rfl
theorem c_190_47 : (zm_cd 190)[47]? = some ((115, .iconst 0, 1, 0, 0, 0, 0, 0, []) : zm_E) := (congrArg (fun l => l[47]?) cd_190).trans rfl
theorem c_190_48 : (zm_cd 190)[48]? = some ((116, .invokevirtual 15, 3, 6, 2, 1, 0, 0, [7]) : zm_E) := (congrArg (fun l => l[48]?) cd_190).trans rfl
theorem c_190_49 : (zm_cd 190)[49]? = some ((119, .iload_n 3, 1, 3, 0, 0, 0, 0, []) : zm_E) := (congrArg (fun l => l[49]?) cd_190).trans rfl
theorem c_190_50 : (zm_cd 190)[50]? = some ((120, .if_icmp .ne 7, 3, 53, 0, 0, 0, 0, []) : zm_E) := (congrArg (fun l => l[50]?) cd_190).trans rfl
theorem c_190_51 : (zm_cd 190)[51]? = some ((123, .iconst 1, 1, 0, 0, 0, 1, 0, []) : zm_E) := (congrArg (fun l => l[51]?) cd_190).trans rfl
theorem c_190_52 : (zm_cd 190)[52]? = some ((124, .goto 4, 3, 54, 0, 0, 0, 0, []) : zm_E) := (congrArg (fun l => l[52]?) cd_190).trans rfl
theorem c_190_53 : (zm_cd 190)[53]? = some ((127, .iconst 0, 1, 0, 0, 0, 0, 0, []) : zm_E) := (congrArg (fun l => l[53]?) cd_190).trans rfl
theorem c_190_54 : (zm_cd 190)[54]? = some ((128, .ireturn, 1, 1, 0, 0, 0, 0, []) : zm_E) := (congrArg (fun l => l[54]?) cd_190).trans rfl
theorem c_190_55 : (zm_cd 190)[55]? = some ((129, .aload_n 0, 1, 0, 0, 0, 0, 0, []) : zm_E) := (congrArg (fun l => l[55]?) cd_190).trans rfl
theorem c_190_56 : (zm_cd 190)[56]? = some ((130, .iload 4, 2, 4, 0, 0, 0, 0, []) : zm_E) := (congrArg (fun l => l[56]?) cd_190).trans rfl
theorem c_190_57 : (zm_cd 190)[57]? = some ((132, .iload 5, 2, 5, 0, 0, 0, 0, []) : zm_E) := (congrArg (fun l => l[57]?) cd_190).trans rfl
theorem c_190_58 : (zm_cd 190)[58]? = some ((134, .invokevirtual 19, 3, 7, 2, 1, 0, 0, [7]) : zm_E) := (congrArg (fun l => l[58]?) cd_190).trans rfl
theorem c_190_59 : (zm_cd 190)[59]? = some ((137, .istore 8, 2, 8, 0, 0, 0, 0, []) : zm_E) := (congrArg (fun l => l[59]?) cd_190).trans rfl
theorem c_190_60 : (zm_cd 190)[60]? = some ((139, .aload_n 0, 1, 0, 0, 0, 0, 0, []) : zm_E) := (congrArg (fun l => l[60]?) cd_190).trans rfl
theorem c_190_61 : (zm_cd 190)[61]? = some ((140, .iload 4, 2, 4, 0, 0, 0, 0, []) : zm_E) := (congrArg (fun l => l[61]?) cd_190).trans rfl
theorem c_190_62 : (zm_cd 190)[62]? = some ((142, .iload 5, 2, 5, 0, 0, 0, 0, []) : zm_E) := (congrArg (fun l => l[62]?) cd_190).trans rfl
theorem c_190_63 : (zm_cd 190)[63]? = some ((144, .iload_n 2, 1, 2, 0, 0, 0, 0, []) : zm_E) := (congrArg (fun l => l[63]?) cd_190).trans rfl
theorem c_190_64 : (zm_cd 190)[64]? = some ((145, .bipush 6, 2, 0, 0, 0, 6, 0, []) : zm_E) := (congrArg (fun l => l[64]?) cd_190).trans rfl
theorem c_190_65 : (zm_cd 190)[65]? = some ((147, .ishr, 1, 0, 0, 0, 0, 0, []) : zm_E) := (congrArg (fun l => l[65]?) cd_190).trans rfl
theorem c_190_66 : (zm_cd 190)[66]? = some ((148, .bipush 10, 2, 0, 0, 0, 10, 0, []) : zm_E) := (congrArg (fun l => l[66]?) cd_190).trans rfl
theorem c_190_67 : (zm_cd 190)[67]? = some ((150, .irem, 1, 0, 0, 0, 0, 0, []) : zm_E) := (congrArg (fun l => l[67]?) cd_190).trans rfl
theorem c_190_68 : (zm_cd 190)[68]? = some ((151, .invokevirtual 53, 3, 12, 3, 1, 0, 0, [7]) : zm_E) := (congrArg (fun l => l[68]?) cd_190).trans rfl
theorem c_190_69 : (zm_cd 190)[69]? = some ((154, .iload 8, 2, 8, 0, 0, 0, 0, []) : zm_E) := (congrArg (fun l => l[69]?) cd_190).trans rfl
theorem c_190_70 : (zm_cd 190)[70]? = some ((156, .if_icmp .ne 25, 3, 83, 0, 0, 0, 0, []) : zm_E) := (congrArg (fun l => l[70]?) cd_190).trans rfl
theorem c_190_71 : (zm_cd 190)[71]? = some ((159, .aload_n 0, 1, 0, 0, 0, 0, 0, []) : zm_E) := (congrArg (fun l => l[71]?) cd_190).trans rfl
theorem c_190_72 : (zm_cd 190)[72]? = some ((160, .iload 4, 2, 4, 0, 0, 0, 0, []) : zm_E) := (congrArg (fun l => l[72]?) cd_190).trans rfl
theorem c_190_73 : (zm_cd 190)[73]? = some ((162, .iload 5, 2, 5, 0, 0, 0, 0, []) : zm_E) := (congrArg (fun l => l[73]?) cd_190).trans rfl
theorem c_190_74 : (zm_cd 190)[74]? = some ((164, .invokevirtual 19, 3, 7, 2, 1, 0, 0, [7]) : zm_E) := (congrArg (fun l => l[74]?) cd_190).trans rfl
theorem c_190_75 : (zm_cd 190)[75]? = some ((167, .iload_n 2, 1, 2, 0, 0, 0, 0, []) : zm_E) := (congrArg (fun l => l[75]?) cd_190).trans rfl
theorem c_190_76 : (zm_cd 190)[76]? = some ((168, .bipush 6, 2, 0, 0, 0, 6, 0, []) : zm_E) := (congrArg (fun l => l[76]?) cd_190).trans rfl
theorem c_190_77 : (zm_cd 190)[77]? = some ((170, .ishr, 1, 0, 0, 0, 0, 0, []) : zm_E) := (congrArg (fun l => l[77]?) cd_190).trans rfl
theorem c_190_78 : (zm_cd 190)[78]? = some ((171, .bipush 10, 2, 0, 0, 0, 10, 0, []) : zm_E) := (congrArg (fun l => l[78]?) cd_190).trans rfl
theorem c_190_79 : (zm_cd 190)[79]? = some ((173, .irem, 1, 0, 0, 0, 0, 0, []) : zm_E) := (congrArg (fun l => l[79]?) cd_190).trans rfl
theorem c_190_80 : (zm_cd 190)[80]? = some ((174, .if_icmp .ne 7, 3, 83, 0, 0, 0, 0, []) : zm_E) := (congrArg (fun l => l[80]?) cd_190).trans rfl
theorem c_190_81 : (zm_cd 190)[81]? = some ((177, .iconst 1, 1, 0, 0, 0, 1, 0, []) : zm_E) := (congrArg (fun l => l[81]?) cd_190).trans rfl
theorem c_190_82 : (zm_cd 190)[82]? = some ((178, .goto 4, 3, 84, 0, 0, 0, 0, []) : zm_E) := (congrArg (fun l => l[82]?) cd_190).trans rfl
theorem c_190_83 : (zm_cd 190)[83]? = some ((181, .iconst 0, 1, 0, 0, 0, 0, 0, []) : zm_E) := (congrArg (fun l => l[83]?) cd_190).trans rfl
theorem c_190_84 : (zm_cd 190)[84]? = some ((182, .ireturn, 1, 1, 0, 0, 0, 0, []) : zm_E) := (congrArg (fun l => l[84]?) cd_190).trans rfl
theorem c_190_85 : (zm_cd 190)[85]? = some ((183, .aload_n 0, 1, 0, 0, 0, 0, 0, []) : zm_E) := (congrArg (fun l => l[85]?) cd_190).trans rfl
theorem c_190_86 : (zm_cd 190)[86]? = some ((184, .iconst 3, 1, 0, 0, 0, 3, 0, []) : zm_E) := (congrArg (fun l => l[86]?) cd_190).trans rfl
theorem c_190_87 : (zm_cd 190)[87]? = some ((185, .invokevirtual 9, 3, 5, 1, 1, 0, 0, [7]) : zm_E) := (congrArg (fun l => l[87]?) cd_190).trans rfl
theorem c_190_88 : (zm_cd 190)[88]? = some ((188, .istore 9, 2, 9, 0, 0, 0, 0, []) : zm_E) := (congrArg (fun l => l[88]?) cd_190).trans rfl
theorem c_190_89 : (zm_cd 190)[89]? = some ((190, .aload_n 0, 1, 0, 0, 0, 0, 0, []) : zm_E) := (congrArg (fun l => l[89]?) cd_190).trans rfl
theorem c_190_90 : (zm_cd 190)[90]? = some ((191, .iload 4, 2, 4, 0, 0, 0, 0, []) : zm_E) := (congrArg (fun l => l[90]?) cd_190).trans rfl
theorem c_190_91 : (zm_cd 190)[91]? = some ((193, .iload 5, 2, 5, 0, 0, 0, 0, []) : zm_E) := (congrArg (fun l => l[91]?) cd_190).trans rfl
theorem c_190_92 : (zm_cd 190)[92]? = some ((195, .invokevirtual 57, 3, 10, 2, 1, 0, 0, [7]) : zm_E) := (congrArg (fun l => l[92]?) cd_190).trans rfl
theorem c_190_93 : (zm_cd 190)[93]? = some ((198, .ifCond .ne 50, 3, 117, 0, 0, 0, 0, []) : zm_E) := (congrArg (fun l => l[93]?) cd_190).trans rfl
theorem c_190_94 : (zm_cd 190)[94]? = some ((201, .aload_n 0, 1, 0, 0, 0, 0, 0, []) : zm_E) := (congrArg (fun l => l[94]?) cd_190).trans rfl
theorem c_190_95 : (zm_cd 190)[95]? = some ((202, .iload 4, 2, 4, 0, 0, 0, 0, []) : zm_E) := (congrArg (fun l => l[95]?) cd_190).trans rfl
theorem c_190_96 : (zm_cd 190)[96]? = some ((204, .iload 7, 2, 7, 0, 0, 0, 0, []) : zm_E) := (congrArg (fun l => l[96]?) cd_190).trans rfl
theorem c_190_97 : (zm_cd 190)[97]? = some ((206, .invokevirtual 60, 3, 25, 2, 1, 0, 0, [7]) : zm_E) := (congrArg (fun l => l[97]?) cd_190).trans rfl
theorem c_190_98 : (zm_cd 190)[98]? = some ((209, .iconst 1, 1, 0, 0, 0, 1, 0, []) : zm_E) := (congrArg (fun l => l[98]?) cd_190).trans rfl
theorem c_190_99 : (zm_cd 190)[99]? = some ((210, .if_icmp .ne 42, 3, 119, 0, 0, 0, 0, []) : zm_E) := (congrArg (fun l => l[99]?) cd_190).trans rfl
theorem c_190_100 : (zm_cd 190)[100]? = some ((213, .aload_n 0, 1, 0, 0, 0, 0, 0, []) : zm_E) := (congrArg (fun l => l[100]?) cd_190).trans rfl
theorem c_190_101 : (zm_cd 190)[101]? = some ((214, .iload 4, 2, 4, 0, 0, 0, 0, []) : zm_E) := (congrArg (fun l => l[101]?) cd_190).trans rfl
theorem c_190_102 : (zm_cd 190)[102]? = some ((216, .iload 5, 2, 5, 0, 0, 0, 0, []) : zm_E) := (congrArg (fun l => l[102]?) cd_190).trans rfl
theorem c_190_103 : (zm_cd 190)[103]? = some ((218, .invokevirtual 63, 3, 13, 2, 1, 0, 0, [7]) : zm_E) := (congrArg (fun l => l[103]?) cd_190).trans rfl
theorem c_190_104 : (zm_cd 190)[104]? = some ((221, .iload 7, 2, 7, 0, 0, 0, 0, []) : zm_E) := (congrArg (fun l => l[104]?) cd_190).trans rfl
theorem c_190_105 : (zm_cd 190)[105]? = some ((223, .if_icmp .ne 29, 3, 119, 0, 0, 0, 0, []) : zm_E) := (congrArg (fun l => l[105]?) cd_190).trans rfl
theorem c_190_106 : (zm_cd 190)[106]? = some ((226, .aload_n 0, 1, 0, 0, 0, 0, 0, []) : zm_E) := (congrArg (fun l => l[106]?) cd_190).trans rfl
theorem c_190_107 : (zm_cd 190)[107]? = some ((227, .iload 5, 2, 5, 0, 0, 0, 0, []) : zm_E) := (congrArg (fun l => l[107]?) cd_190).trans rfl
theorem c_190_108 : (zm_cd 190)[108]? = some ((229, .iconst 0, 1, 0, 0, 0, 0, 0, []) : zm_E) := (congrArg (fun l => l[108]?) cd_190).trans rfl
theorem c_190_109 : (zm_cd 190)[109]? = some ((230, .invokevirtual 15, 3, 6, 2, 1, 0, 0, [7]) : zm_E) := (congrArg (fun l => l[109]?) cd_190).trans rfl
theorem c_190_110 : (zm_cd 190)[110]? = some ((233, .iload 6, 2, 6, 0, 0, 0, 0, []) : zm_E) := (congrArg (fun l => l[110]?) cd_190).trans rfl
theorem c_190_111 : (zm_cd 190)[111]? = some ((235, .if_icmp .ne 17, 3, 119, 0, 0, 0, 0, []) : zm_E) := (congrArg (fun l => l[111]?) cd_190).trans rfl
theorem c_190_112 : (zm_cd 190)[112]? = some ((238, .aload_n 0, 1, 0, 0, 0, 0, 0, []) : zm_E) := (congrArg (fun l => l[112]?) cd_190).trans rfl
theorem c_190_113 : (zm_cd 190)[113]? = some ((239, .iconst 3, 1, 0, 0, 0, 3, 0, []) : zm_E) := (congrArg (fun l => l[113]?) cd_190).trans rfl
theorem c_190_114 : (zm_cd 190)[114]? = some ((240, .invokevirtual 9, 3, 5, 1, 1, 0, 0, [7]) : zm_E) := (congrArg (fun l => l[114]?) cd_190).trans rfl
theorem c_190_115 : (zm_cd 190)[115]? = some ((243, .iload 9, 2, 9, 0, 0, 0, 0, []) : zm_E) := (congrArg (fun l => l[115]?) cd_190).trans rfl
theorem c_190_116 : (zm_cd 190)[116]? = some ((245, .if_icmp .ge 7, 3, 119, 0, 0, 0, 0, []) : zm_E) := (congrArg (fun l => l[116]?) cd_190).trans rfl
theorem c_190_117 : (zm_cd 190)[117]? = some ((248, .iconst 1, 1, 0, 0, 0, 1, 0, []) : zm_E) := (congrArg (fun l => l[117]?) cd_190).trans rfl
theorem c_190_118 : (zm_cd 190)[118]? = some ((249, .goto 4, 3, 120, 0, 0, 0, 0, []) : zm_E) := (congrArg (fun l => l[118]?) cd_190).trans rfl
theorem c_190_119 : (zm_cd 190)[119]? = some ((252, .iconst 0, 1, 0, 0, 0, 0, 0, []) : zm_E) := (congrArg (fun l => l[119]?) cd_190).trans rfl
theorem c_190_120 : (zm_cd 190)[120]? = some ((253, .ireturn, 1, 1, 0, 0, 0, 0, []) : zm_E) := (congrArg (fun l => l[120]?) cd_190).trans rfl
theorem c_190_121 : (zm_cd 190)[121]? = some ((254, .aload_n 0, 1, 0, 0, 0, 0, 0, []) : zm_E) := (congrArg (fun l => l[121]?) cd_190).trans rfl
theorem c_190_122 : (zm_cd 190)[122]? = some ((255, .iconst 4, 1, 0, 0, 0, 4, 0, []) : zm_E) := (congrArg (fun l => l[122]?) cd_190).trans rfl
theorem c_190_123 : (zm_cd 190)[123]? = some ((256, .invokevirtual 9, 3, 5, 1, 1, 0, 0, [7]) : zm_E) := (congrArg (fun l => l[123]?) cd_190).trans rfl
theorem c_190_124 : (zm_cd 190)[124]? = some ((259, .ifCond .ne 7, 3, 127, 0, 0, 0, 0, []) : zm_E) := (congrArg (fun l => l[124]?) cd_190).trans rfl
theorem c_190_125 : (zm_cd 190)[125]? = some ((262, .iconst (-1), 1, 0, 0, 0, (-1), 0, []) : zm_E) := (congrArg (fun l => l[125]?) cd_190).trans rfl
theorem c_190_126 : (zm_cd 190)[126]? = some ((263, .goto 13, 3, 134, 0, 0, 0, 0, []) : zm_E) := (congrArg (fun l => l[126]?) cd_190).trans rfl
theorem c_190_127 : (zm_cd 190)[127]? = some ((266, .iload_n 2, 1, 2, 0, 0, 0, 0, []) : zm_E) := (congrArg (fun l => l[127]?) cd_190).trans rfl
theorem c_190_128 : (zm_cd 190)[128]? = some ((267, .bipush 6, 2, 0, 0, 0, 6, 0, []) : zm_E) := (congrArg (fun l => l[128]?) cd_190).trans rfl
theorem c_190_129 : (zm_cd 190)[129]? = some ((269, .ishr, 1, 0, 0, 0, 0, 0, []) : zm_E) := (congrArg (fun l => l[129]?) cd_190).trans rfl
theorem c_190_130 : (zm_cd 190)[130]? = some ((270, .aload_n 0, 1, 0, 0, 0, 0, 0, []) : zm_E) := (congrArg (fun l => l[130]?) cd_190).trans rfl
theorem c_190_131 : (zm_cd 190)[131]? = some ((271, .iconst 4, 1, 0, 0, 0, 4, 0, []) : zm_E) := (congrArg (fun l => l[131]?) cd_190).trans rfl
theorem c_190_132 : (zm_cd 190)[132]? = some ((272, .invokevirtual 9, 3, 5, 1, 1, 0, 0, [7]) : zm_E) := (congrArg (fun l => l[132]?) cd_190).trans rfl
theorem c_190_133 : (zm_cd 190)[133]? = some ((275, .irem, 1, 0, 0, 0, 0, 0, []) : zm_E) := (congrArg (fun l => l[133]?) cd_190).trans rfl
theorem c_190_134 : (zm_cd 190)[134]? = some ((276, .istore 10, 2, 10, 0, 0, 0, 0, []) : zm_E) := (congrArg (fun l => l[134]?) cd_190).trans rfl
theorem c_190_135 : (zm_cd 190)[135]? = some ((278, .iload 10, 2, 10, 0, 0, 0, 0, []) : zm_E) := (congrArg (fun l => l[135]?) cd_190).trans rfl
theorem c_190_136 : (zm_cd 190)[136]? = some ((280, .ifCond .ge 7, 3, 139, 0, 0, 0, 0, []) : zm_E) := (congrArg (fun l => l[136]?) cd_190).trans rfl
theorem c_190_137 : (zm_cd 190)[137]? = some ((283, .iconst 0, 1, 0, 0, 0, 0, 0, []) : zm_E) := (congrArg (fun l => l[137]?) cd_190).trans rfl
theorem c_190_138 : (zm_cd 190)[138]? = some ((284, .goto 10, 3, 143, 0, 0, 0, 0, []) : zm_E) := (congrArg (fun l => l[138]?) cd_190).trans rfl
theorem c_190_139 : (zm_cd 190)[139]? = some ((287, .aload_n 0, 1, 0, 0, 0, 0, 0, []) : zm_E) := (congrArg (fun l => l[139]?) cd_190).trans rfl
theorem c_190_140 : (zm_cd 190)[140]? = some ((288, .iload 10, 2, 10, 0, 0, 0, 0, []) : zm_E) := (congrArg (fun l => l[140]?) cd_190).trans rfl
theorem c_190_141 : (zm_cd 190)[141]? = some ((290, .iconst 1, 1, 0, 0, 0, 1, 0, []) : zm_E) := (congrArg (fun l => l[141]?) cd_190).trans rfl
theorem c_190_142 : (zm_cd 190)[142]? = some ((291, .invokevirtual 30, 3, 9, 2, 1, 0, 0, [7]) : zm_E) := (congrArg (fun l => l[142]?) cd_190).trans rfl
theorem c_190_143 : (zm_cd 190)[143]? = some ((294, .istore 11, 2, 11, 0, 0, 0, 0, []) : zm_E) := (congrArg (fun l => l[143]?) cd_190).trans rfl
theorem c_190_144 : (zm_cd 190)[144]? = some ((296, .iload 10, 2, 10, 0, 0, 0, 0, []) : zm_E) := (congrArg (fun l => l[144]?) cd_190).trans rfl
theorem c_190_145 : (zm_cd 190)[145]? = some ((298, .ifCond .lt 24, 3, 156, 0, 0, 0, 0, []) : zm_E) := (congrArg (fun l => l[145]?) cd_190).trans rfl
theorem c_190_146 : (zm_cd 190)[146]? = some ((301, .aload_n 0, 1, 0, 0, 0, 0, 0, []) : zm_E) := (congrArg (fun l => l[146]?) cd_190).trans rfl
theorem c_190_147 : (zm_cd 190)[147]? = some ((302, .iload 10, 2, 10, 0, 0, 0, 0, []) : zm_E) := (congrArg (fun l => l[147]?) cd_190).trans rfl
theorem c_190_148 : (zm_cd 190)[148]? = some ((304, .invokevirtual 66, 3, 14, 1, 1, 0, 0, [7]) : zm_E) := (congrArg (fun l => l[148]?) cd_190).trans rfl
theorem c_190_149 : (zm_cd 190)[149]? = some ((307, .iload 11, 2, 11, 0, 0, 0, 0, []) : zm_E) := (congrArg (fun l => l[149]?) cd_190).trans rfl
theorem c_190_150 : (zm_cd 190)[150]? = some ((309, .iconst 1, 1, 0, 0, 0, 1, 0, []) : zm_E) := (congrArg (fun l => l[150]?) cd_190).trans rfl
theorem c_190_151 : (zm_cd 190)[151]? = some ((310, .if_icmp .ne 7, 3, 154, 0, 0, 0, 0, []) : zm_E) := (congrArg (fun l => l[151]?) cd_190).trans rfl
theorem c_190_152 : (zm_cd 190)[152]? = some ((313, .iconst 0, 1, 0, 0, 0, 0, 0, []) : zm_E) := (congrArg (fun l => l[152]?) cd_190).trans rfl
theorem c_190_153 : (zm_cd 190)[153]? = some ((314, .goto 5, 3, 155, 0, 0, 0, 0, []) : zm_E) := (congrArg (fun l => l[153]?) cd_190).trans rfl
theorem c_190_154 : (zm_cd 190)[154]? = some ((317, .iload 11, 2, 11, 0, 0, 0, 0, []) : zm_E) := (congrArg (fun l => l[154]?) cd_190).trans rfl
theorem c_190_155 : (zm_cd 190)[155]? = some ((319, .if_icmp .ne 7, 3, 158, 0, 0, 0, 0, []) : zm_E) := (congrArg (fun l => l[155]?) cd_190).trans rfl
theorem c_190_156 : (zm_cd 190)[156]? = some ((322, .iconst 1, 1, 0, 0, 0, 1, 0, []) : zm_E) := (congrArg (fun l => l[156]?) cd_190).trans rfl
theorem c_190_157 : (zm_cd 190)[157]? = some ((323, .goto 4, 3, 159, 0, 0, 0, 0, []) : zm_E) := (congrArg (fun l => l[157]?) cd_190).trans rfl
theorem c_190_158 : (zm_cd 190)[158]? = some ((326, .iconst 0, 1, 0, 0, 0, 0, 0, []) : zm_E) := (congrArg (fun l => l[158]?) cd_190).trans rfl
theorem c_190_159 : (zm_cd 190)[159]? = some ((327, .ireturn, 1, 1, 0, 0, 0, 0, []) : zm_E) := (congrArg (fun l => l[159]?) cd_190).trans rfl
theorem c_190_160 : (zm_cd 190)[160]? = some ((328, .aload_n 0, 1, 0, 0, 0, 0, 0, []) : zm_E) := (congrArg (fun l => l[160]?) cd_190).trans rfl
theorem c_190_161 : (zm_cd 190)[161]? = some ((329, .iload 4, 2, 4, 0, 0, 0, 0, []) : zm_E) := (congrArg (fun l => l[161]?) cd_190).trans rfl
theorem c_190_162 : (zm_cd 190)[162]? = some ((331, .iconst 3, 1, 0, 0, 0, 3, 0, []) : zm_E) := (congrArg (fun l => l[162]?) cd_190).trans rfl
theorem c_190_163 : (zm_cd 190)[163]? = some ((332, .invokevirtual 15, 3, 6, 2, 1, 0, 0, [7]) : zm_E) := (congrArg (fun l => l[163]?) cd_190).trans rfl
theorem c_190_164 : (zm_cd 190)[164]? = some ((335, .istore 12, 2, 12, 0, 0, 0, 0, []) : zm_E) := (congrArg (fun l => l[164]?) cd_190).trans rfl
theorem c_190_165 : (zm_cd 190)[165]? = some ((337, .aload_n 0, 1, 0, 0, 0, 0, 0, []) : zm_E) := (congrArg (fun l => l[165]?) cd_190).trans rfl
theorem c_190_166 : (zm_cd 190)[166]? = some ((338, .bipush 6, 2, 0, 0, 0, 6, 0, []) : zm_E) := (congrArg (fun l => l[166]?) cd_190).trans rfl
theorem c_190_167 : (zm_cd 190)[167]? = some ((340, .invokevirtual 9, 3, 5, 1, 1, 0, 0, [7]) : zm_E) := (congrArg (fun l => l[167]?) cd_190).trans rfl
theorem c_190_168 : (zm_cd 190)[168]? = some ((343, .istore 13, 2, 13, 0, 0, 0, 0, []) : zm_E) := (congrArg (fun l => l[168]?) cd_190).trans rfl
theorem c_190_169 : (zm_cd 190)[169]? = some ((345, .aload_n 0, 1, 0, 0, 0, 0, 0, []) : zm_E) := (congrArg (fun l => l[169]?) cd_190).trans rfl
theorem c_190_170 : (zm_cd 190)[170]? = some ((346, .iload 4, 2, 4, 0, 0, 0, 0, []) : zm_E) := (congrArg (fun l => l[170]?) cd_190).trans rfl
theorem c_190_171 : (zm_cd 190)[171]? = some ((348, .iconst 2, 1, 0, 0, 0, 2, 0, []) : zm_E) := (congrArg (fun l => l[171]?) cd_190).trans rfl
theorem c_190_172 : (zm_cd 190)[172]? = some ((349, .invokevirtual 15, 3, 6, 2, 1, 0, 0, [7]) : zm_E) := (congrArg (fun l => l[172]?) cd_190).trans rfl
theorem c_190_173 : (zm_cd 190)[173]? = some ((352, .iconst 1, 1, 0, 0, 0, 1, 0, []) : zm_E) := (congrArg (fun l => l[173]?) cd_190).trans rfl
theorem c_190_174 : (zm_cd 190)[174]? = some ((353, .if_icmp .ne 7, 3, 177, 0, 0, 0, 0, []) : zm_E) := (congrArg (fun l => l[174]?) cd_190).trans rfl
theorem c_190_175 : (zm_cd 190)[175]? = some ((356, .iconst 1, 1, 0, 0, 0, 1, 0, []) : zm_E) := (congrArg (fun l => l[175]?) cd_190).trans rfl
theorem c_190_176 : (zm_cd 190)[176]? = some ((357, .goto 4, 3, 178, 0, 0, 0, 0, []) : zm_E) := (congrArg (fun l => l[176]?) cd_190).trans rfl
theorem c_190_177 : (zm_cd 190)[177]? = some ((360, .iconst 0, 1, 0, 0, 0, 0, 0, []) : zm_E) := (congrArg (fun l => l[177]?) cd_190).trans rfl
theorem c_190_178 : (zm_cd 190)[178]? = some ((361, .istore 14, 2, 14, 0, 0, 0, 0, []) : zm_E) := (congrArg (fun l => l[178]?) cd_190).trans rfl
theorem c_190_179 : (zm_cd 190)[179]? = some ((363, .iload_n 2, 1, 2, 0, 0, 0, 0, []) : zm_E) := (congrArg (fun l => l[179]?) cd_190).trans rfl
theorem c_190_180 : (zm_cd 190)[180]? = some ((364, .bipush 6, 2, 0, 0, 0, 6, 0, []) : zm_E) := (congrArg (fun l => l[180]?) cd_190).trans rfl
theorem c_190_181 : (zm_cd 190)[181]? = some ((366, .ishr, 1, 0, 0, 0, 0, 0, []) : zm_E) := (congrArg (fun l => l[181]?) cd_190).trans rfl
theorem c_190_182 : (zm_cd 190)[182]? = some ((367, .iconst 1, 1, 0, 0, 0, 1, 0, []) : zm_E) := (congrArg (fun l => l[182]?) cd_190).trans rfl
theorem c_190_183 : (zm_cd 190)[183]? = some ((368, .iand, 1, 0, 0, 0, 0, 0, []) : zm_E) := (congrArg (fun l => l[183]?) cd_190).trans rfl
theorem c_190_184 : (zm_cd 190)[184]? = some ((369, .iconst 1, 1, 0, 0, 0, 1, 0, []) : zm_E) := (congrArg (fun l => l[184]?) cd_190).trans rfl
theorem c_190_185 : (zm_cd 190)[185]? = some ((370, .if_icmp .eq 43, 3, 204, 0, 0, 0, 0, []) : zm_E) := (congrArg (fun l => l[185]?) cd_190).trans rfl
theorem c_190_186 : (zm_cd 190)[186]? = some ((373, .aload_n 0, 1, 0, 0, 0, 0, 0, []) : zm_E) := (congrArg (fun l => l[186]?) cd_190).trans rfl
theorem c_190_187 : (zm_cd 190)[187]? = some ((374, .invokevirtual 69, 3, 15, 0, 1, 0, 0, [7]) : zm_E) := (congrArg (fun l => l[187]?) cd_190).trans rfl
theorem c_190_188 : (zm_cd 190)[188]? = some ((377, .iload 13, 2, 13, 0, 0, 0, 0, []) : zm_E) := (congrArg (fun l => l[188]?) cd_190).trans rfl
theorem c_190_189 : (zm_cd 190)[189]? = some ((379, .if_icmp .ne 38, 3, 206, 0, 0, 0, 0, []) : zm_E) := (congrArg (fun l => l[189]?) cd_190).trans rfl
theorem c_190_190 : (zm_cd 190)[190]? = some ((382, .aload_n 0, 1, 0, 0, 0, 0, 0, []) : zm_E) := (congrArg (fun l => l[190]?) cd_190).trans rfl
theorem c_190_191 : (zm_cd 190)[191]? = some ((383, .iload 4, 2, 4, 0, 0, 0, 0, []) : zm_E) := (congrArg (fun l => l[191]?) cd_190).trans rfl
theorem c_190_192 : (zm_cd 190)[192]? = some ((385, .iconst 0, 1, 0, 0, 0, 0, 0, []) : zm_E) := (congrArg (fun l => l[192]?) cd_190).trans rfl
theorem c_190_193 : (zm_cd 190)[193]? = some ((386, .invokevirtual 15, 3, 6, 2, 1, 0, 0, [7]) : zm_E) := (congrArg (fun l => l[193]?) cd_190).trans rfl
theorem c_190_194 : (zm_cd 190)[194]? = some ((389, .iload 14, 2, 14, 0, 0, 0, 0, []) : zm_E) := (congrArg (fun l => l[194]?) cd_190).trans rfl
theorem c_190_195 : (zm_cd 190)[195]? = some ((391, .ifCond .eq 8, 3, 198, 0, 0, 0, 0, []) : zm_E) := (congrArg (fun l => l[195]?) cd_190).trans rfl
theorem c_190_196 : (zm_cd 190)[196]? = some ((394, .iload 12, 2, 12, 0, 0, 0, 0, []) : zm_E) := (congrArg (fun l => l[196]?) cd_190).trans rfl
theorem c_190_197 : (zm_cd 190)[197]? = some ((396, .goto 5, 3, 199, 0, 0, 0, 0, []) : zm_E) := (congrArg (fun l => l[197]?) cd_190).trans rfl
theorem c_190_198 : (zm_cd 190)[198]? = some ((399, .iload 6, 2, 6, 0, 0, 0, 0, []) : zm_E) := (congrArg (fun l => l[198]?) cd_190).trans rfl
theorem c_190_199 : (zm_cd 190)[199]? = some ((401, .if_icmp .ne 16, 3, 206, 0, 0, 0, 0, []) : zm_E) := (congrArg (fun l => l[199]?) cd_190).trans rfl
theorem c_190_200 : (zm_cd 190)[200]? = some ((404, .aload_n 0, 1, 0, 0, 0, 0, 0, []) : zm_E) := (congrArg (fun l => l[200]?) cd_190).trans rfl
theorem c_190_201 : (zm_cd 190)[201]? = some ((405, .bipush 6, 2, 0, 0, 0, 6, 0, []) : zm_E) := (congrArg (fun l => l[201]?) cd_190).trans rfl
theorem c_190_202 : (zm_cd 190)[202]? = some ((407, .invokevirtual 9, 3, 5, 1, 1, 0, 0, [7]) : zm_E) := (congrArg (fun l => l[202]?) cd_190).trans rfl
theorem c_190_203 : (zm_cd 190)[203]? = some ((410, .ifCond .ne 7, 3, 206, 0, 0, 0, 0, []) : zm_E) := (congrArg (fun l => l[203]?) cd_190).trans rfl
theorem c_190_204 : (zm_cd 190)[204]? = some ((413, .iconst 1, 1, 0, 0, 0, 1, 0, []) : zm_E) := (congrArg (fun l => l[204]?) cd_190).trans rfl
theorem c_190_205 : (zm_cd 190)[205]? = some ((414, .goto 4, 3, 207, 0, 0, 0, 0, []) : zm_E) := (congrArg (fun l => l[205]?) cd_190).trans rfl
theorem c_190_206 : (zm_cd 190)[206]? = some ((417, .iconst 0, 1, 0, 0, 0, 0, 0, []) : zm_E) := (congrArg (fun l => l[206]?) cd_190).trans rfl
theorem c_190_207 : (zm_cd 190)[207]? = some ((418, .ireturn, 1, 1, 0, 0, 0, 0, []) : zm_E) := (congrArg (fun l => l[207]?) cd_190).trans rfl
theorem c_190_208 : (zm_cd 190)[208]? = some ((419, .iload_n 2, 1, 2, 0, 0, 0, 0, []) : zm_E) := (congrArg (fun l => l[208]?) cd_190).trans rfl
theorem c_190_209 : (zm_cd 190)[209]? = some ((420, .bipush 6, 2, 0, 0, 0, 6, 0, []) : zm_E) := (congrArg (fun l => l[209]?) cd_190).trans rfl
theorem c_190_210 : (zm_cd 190)[210]? = some ((422, .ishr, 1, 0, 0, 0, 0, 0, []) : zm_E) := (congrArg (fun l => l[210]?) cd_190).trans rfl
theorem c_190_211 : (zm_cd 190)[211]? = some ((423, .iconst 3, 1, 0, 0, 0, 3, 0, []) : zm_E) := (congrArg (fun l => l[211]?) cd_190).trans rfl
theorem c_190_212 : (zm_cd 190)[212]? = some ((424, .iand, 1, 0, 0, 0, 0, 0, []) : zm_E) := (congrArg (fun l => l[212]?) cd_190).trans rfl
theorem c_190_213 : (zm_cd 190)[213]? = some ((425, .ifCond .le 55, 3, 242, 0, 0, 0, 0, []) : zm_E) := (congrArg (fun l => l[213]?) cd_190).trans rfl
theorem c_190_214 : (zm_cd 190)[214]? = some ((428, .iload_n 2, 1, 2, 0, 0, 0, 0, []) : zm_E) := (congrArg (fun l => l[214]?) cd_190).trans rfl
theorem c_190_215 : (zm_cd 190)[215]? = some ((429, .bipush 6, 2, 0, 0, 0, 6, 0, []) : zm_E) := (congrArg (fun l => l[215]?) cd_190).trans rfl
theorem c_190_216 : (zm_cd 190)[216]? = some ((431, .ishr, 1, 0, 0, 0, 0, 0, []) : zm_E) := (congrArg (fun l => l[216]?) cd_190).trans rfl
theorem c_190_217 : (zm_cd 190)[217]? = some ((432, .iconst 3, 1, 0, 0, 0, 3, 0, []) : zm_E) := (congrArg (fun l => l[217]?) cd_190).trans rfl
theorem c_190_218 : (zm_cd 190)[218]? = some ((433, .iand, 1, 0, 0, 0, 0, 0, []) : zm_E) := (congrArg (fun l => l[218]?) cd_190).trans rfl
theorem c_190_219 : (zm_cd 190)[219]? = some ((434, .iconst 1, 1, 0, 0, 0, 1, 0, []) : zm_E) := (congrArg (fun l => l[219]?) cd_190).trans rfl
theorem c_190_220 : (zm_cd 190)[220]? = some ((435, .if_icmp .gt 37, 3, 238, 0, 0, 0, 0, []) : zm_E) := (congrArg (fun l => l[220]?) cd_190).trans rfl
theorem c_190_221 : (zm_cd 190)[221]? = some ((438, .aload_n 0, 1, 0, 0, 0, 0, 0, []) : zm_E) := (congrArg (fun l => l[221]?) cd_190).trans rfl
theorem c_190_222 : (zm_cd 190)[222]? = some ((439, .iload 4, 2, 4, 0, 0, 0, 0, []) : zm_E) := (congrArg (fun l => l[222]?) cd_190).trans rfl
theorem c_190_223 : (zm_cd 190)[223]? = some ((441, .iconst 2, 1, 0, 0, 0, 2, 0, []) : zm_E) := (congrArg (fun l => l[223]?) cd_190).trans rfl
theorem c_190_224 : (zm_cd 190)[224]? = some ((442, .invokevirtual 15, 3, 6, 2, 1, 0, 0, [7]) : zm_E) := (congrArg (fun l => l[224]?) cd_190).trans rfl
theorem c_190_225 : (zm_cd 190)[225]? = some ((445, .ifCond .eq 27, 3, 238, 0, 0, 0, 0, []) : zm_E) := (congrArg (fun l => l[225]?) cd_190).trans rfl
theorem c_190_226 : (zm_cd 190)[226]? = some ((448, .aload_n 0, 1, 0, 0, 0, 0, 0, []) : zm_E) := (congrArg (fun l => l[226]?) cd_190).trans rfl
theorem c_190_227 : (zm_cd 190)[227]? = some ((449, .iload 4, 2, 4, 0, 0, 0, 0, []) : zm_E) := (congrArg (fun l => l[227]?) cd_190).trans rfl
theorem c_190_228 : (zm_cd 190)[228]? = some ((451, .invokevirtual 72, 3, 16, 1, 1, 0, 0, [7]) : zm_E) := (congrArg (fun l => l[228]?) cd_190).trans rfl
theorem c_190_229 : (zm_cd 190)[229]? = some ((454, .aload_n 0, 1, 0, 0, 0, 0, 0, []) : zm_E) := (congrArg (fun l => l[229]?) cd_190).trans rfl
theorem c_190_230 : (zm_cd 190)[230]? = some ((455, .iconst 1, 1, 0, 0, 0, 1, 0, []) : zm_E) := (congrArg (fun l => l[230]?) cd_190).trans rfl
theorem c_190_231 : (zm_cd 190)[231]? = some ((456, .invokevirtual 9, 3, 5, 1, 1, 0, 0, [7]) : zm_E) := (congrArg (fun l => l[231]?) cd_190).trans rfl
theorem c_190_232 : (zm_cd 190)[232]? = some ((459, .if_icmp .ne 17, 3, 240, 0, 0, 0, 0, []) : zm_E) := (congrArg (fun l => l[232]?) cd_190).trans rfl
theorem c_190_233 : (zm_cd 190)[233]? = some ((462, .aload_n 0, 1, 0, 0, 0, 0, 0, []) : zm_E) := (congrArg (fun l => l[233]?) cd_190).trans rfl
theorem c_190_234 : (zm_cd 190)[234]? = some ((463, .iload 4, 2, 4, 0, 0, 0, 0, []) : zm_E) := (congrArg (fun l => l[234]?) cd_190).trans rfl
theorem c_190_235 : (zm_cd 190)[235]? = some ((465, .iconst 2, 1, 0, 0, 0, 2, 0, []) : zm_E) := (congrArg (fun l => l[235]?) cd_190).trans rfl
theorem c_190_236 : (zm_cd 190)[236]? = some ((466, .invokevirtual 15, 3, 6, 2, 1, 0, 0, [7]) : zm_E) := (congrArg (fun l => l[236]?) cd_190).trans rfl
theorem c_190_237 : (zm_cd 190)[237]? = some ((469, .ifCond .ne 7, 3, 240, 0, 0, 0, 0, []) : zm_E) := (congrArg (fun l => l[237]?) cd_190).trans rfl
theorem c_190_238 : (zm_cd 190)[238]? = some ((472, .iconst 1, 1, 0, 0, 0, 1, 0, []) : zm_E) := (congrArg (fun l => l[238]?) cd_190).trans rfl
theorem c_190_239 : (zm_cd 190)[239]? = some ((473, .goto 37, 3, 258, 0, 0, 0, 0, []) : zm_E) := (congrArg (fun l => l[239]?) cd_190).trans rfl
theorem c_190_240 : (zm_cd 190)[240]? = some ((476, .iconst 0, 1, 0, 0, 0, 0, 0, []) : zm_E) := (congrArg (fun l => l[240]?) cd_190).trans rfl
theorem c_190_241 : (zm_cd 190)[241]? = some ((477, .goto 33, 3, 258, 0, 0, 0, 0, []) : zm_E) := (congrArg (fun l => l[241]?) cd_190).trans rfl
theorem c_190_242 : (zm_cd 190)[242]? = some ((480, .aload_n 0, 1, 0, 0, 0, 0, 0, []) : zm_E) := (congrArg (fun l => l[242]?) cd_190).trans rfl
theorem c_190_243 : (zm_cd 190)[243]? = some ((481, .invokevirtual 75, 3, 17, 0, 1, 0, 0, [7]) : zm_E) := (congrArg (fun l => l[243]?) cd_190).trans rfl
theorem c_190_244 : (zm_cd 190)[244]? = some ((484, .ifCond .lt 25, 3, 257, 0, 0, 0, 0, []) : zm_E) := (congrArg (fun l => l[244]?) cd_190).trans rfl
theorem c_190_245 : (zm_cd 190)[245]? = some ((487, .aload_n 0, 1, 0, 0, 0, 0, 0, []) : zm_E) := (congrArg (fun l => l[245]?) cd_190).trans rfl
theorem c_190_246 : (zm_cd 190)[246]? = some ((488, .iconst 2, 1, 0, 0, 0, 2, 0, []) : zm_E) := (congrArg (fun l => l[246]?) cd_190).trans rfl
theorem c_190_247 : (zm_cd 190)[247]? = some ((489, .invokevirtual 9, 3, 5, 1, 1, 0, 0, [7]) : zm_E) := (congrArg (fun l => l[247]?) cd_190).trans rfl
theorem c_190_248 : (zm_cd 190)[248]? = some ((492, .iload_n 3, 1, 3, 0, 0, 0, 0, []) : zm_E) := (congrArg (fun l => l[248]?) cd_190).trans rfl
theorem c_190_249 : (zm_cd 190)[249]? = some ((493, .if_icmp .ne 16, 3, 257, 0, 0, 0, 0, []) : zm_E) := (congrArg (fun l => l[249]?) cd_190).trans rfl
theorem c_190_250 : (zm_cd 190)[250]? = some ((496, .aload_n 0, 1, 0, 0, 0, 0, 0, []) : zm_E) := (congrArg (fun l => l[250]?) cd_190).trans rfl
theorem c_190_251 : (zm_cd 190)[251]? = some ((497, .iconst 1, 1, 0, 0, 0, 1, 0, []) : zm_E) := (congrArg (fun l => l[251]?) cd_190).trans rfl
theorem c_190_252 : (zm_cd 190)[252]? = some ((498, .invokevirtual 9, 3, 5, 1, 1, 0, 0, [7]) : zm_E) := (congrArg (fun l => l[252]?) cd_190).trans rfl
theorem c_190_253 : (zm_cd 190)[253]? = some ((501, .iload_n 3, 1, 3, 0, 0, 0, 0, []) : zm_E) := (congrArg (fun l => l[253]?) cd_190).trans rfl
theorem c_190_254 : (zm_cd 190)[254]? = some ((502, .if_icmp .ne 7, 3, 257, 0, 0, 0, 0, []) : zm_E) := (congrArg (fun l => l[254]?) cd_190).trans rfl
theorem c_190_255 : (zm_cd 190)[255]? = some ((505, .iconst 1, 1, 0, 0, 0, 1, 0, []) : zm_E) := (congrArg (fun l => l[255]?) cd_190).trans rfl
theorem c_190_256 : (zm_cd 190)[256]? = some ((506, .goto 4, 3, 258, 0, 0, 0, 0, []) : zm_E) := (congrArg (fun l => l[256]?) cd_190).trans rfl
theorem c_190_257 : (zm_cd 190)[257]? = some ((509, .iconst 0, 1, 0, 0, 0, 0, 0, []) : zm_E) := (congrArg (fun l => l[257]?) cd_190).trans rfl
theorem c_190_258 : (zm_cd 190)[258]? = some ((510, .ireturn, 1, 1, 0, 0, 0, 0, []) : zm_E) := (congrArg (fun l => l[258]?) cd_190).trans rfl
theorem cd_206 : zm_cd 206 = zd_206 := rfl
theorem ml_206 : zm_ml 206 = 5 := rfl
theorem ht_206 : zm_ht 206 = [] := rfl
theorem c_206_0 : (zm_cd 206)[0]? = some ((0, .new 10, 3, 7, 0, 0, 0, 0, []) : zm_E) := (congrArg (fun l => l[0]?) cd_206).trans rfl
theorem c_206_1 : (zm_cd 206)[1]? = some ((3, .dup, 1, 0, 0, 0, 0, 0, []) : zm_E) := (congrArg (fun l => l[1]?) cd_206).trans rfl
theorem c_206_2 : (zm_cd 206)[2]? = some ((4, .invokespecial 78, 3, 0, 0, 0, 0, 0, []) : zm_E) := (congrArg (fun l => l[2]?) cd_206).trans rfl
theorem c_206_3 : (zm_cd 206)[3]? = some ((7, .astore_n 1, 1, 1, 0, 0, 0, 0, []) : zm_E) := (congrArg (fun l => l[3]?) cd_206).trans rfl
theorem c_206_4 : (zm_cd 206)[4]? = some ((8, .aload_n 1, 1, 1, 0, 0, 0, 0, []) : zm_E) := (congrArg (fun l => l[4]?) cd_206).trans rfl
theorem c_206_5 : (zm_cd 206)[5]? = some ((9, .invokevirtual 69, 3, 15, 0, 1, 0, 0, [7]) : zm_E) := (congrArg (fun l => l[5]?) cd_206).trans rfl
theorem c_206_6 : (zm_cd 206)[6]? = some ((12, .ifCond .ne 39, 3, 24, 0, 0, 0, 0, []) : zm_E) := (congrArg (fun l => l[6]?) cd_206).trans rfl
theorem c_206_7 : (zm_cd 206)[7]? = some ((15, .aload_n 1, 1, 1, 0, 0, 0, 0, []) : zm_E) := (congrArg (fun l => l[7]?) cd_206).trans rfl
theorem c_206_8 : (zm_cd 206)[8]? = some ((16, .iconst 4, 1, 0, 0, 0, 4, 0, []) : zm_E) := (congrArg (fun l => l[8]?) cd_206).trans rfl
theorem c_206_9 : (zm_cd 206)[9]? = some ((17, .invokevirtual 9, 3, 5, 1, 1, 0, 0, [7]) : zm_E) := (congrArg (fun l => l[9]?) cd_206).trans rfl
theorem c_206_10 : (zm_cd 206)[10]? = some ((20, .ifCond .ne 31, 3, 24, 0, 0, 0, 0, []) : zm_E) := (congrArg (fun l => l[10]?) cd_206).trans rfl
theorem c_206_11 : (zm_cd 206)[11]? = some ((23, .aload_n 1, 1, 1, 0, 0, 0, 0, []) : zm_E) := (congrArg (fun l => l[11]?) cd_206).trans rfl
theorem c_206_12 : (zm_cd 206)[12]? = some ((24, .iconst 0, 1, 0, 0, 0, 0, 0, []) : zm_E) := (congrArg (fun l => l[12]?) cd_206).trans rfl
theorem c_206_13 : (zm_cd 206)[13]? = some ((25, .invokevirtual 43, 3, 19, 1, 1, 0, 0, [7]) : zm_E) := (congrArg (fun l => l[13]?) cd_206).trans rfl
theorem c_206_14 : (zm_cd 206)[14]? = some ((28, .bipush (-9), 2, 0, 0, 0, (-9), 0, []) : zm_E) := (congrArg (fun l => l[14]?) cd_206).trans rfl
theorem c_206_15 : (zm_cd 206)[15]? = some ((30, .if_icmp .ne 21, 3, 24, 0, 0, 0, 0, []) : zm_E) := (congrArg (fun l => l[15]?) cd_206).trans rfl
theorem c_206_16 : (zm_cd 206)[16]? = some ((33, .aload_n 1, 1, 1, 0, 0, 0, 0, []) : zm_E) := (congrArg (fun l => l[16]?) cd_206).trans rfl
theorem c_206_17 : (zm_cd 206)[17]? = some ((34, .invokevirtual 39, 3, 21, 0, 1, 0, 0, [7]) : zm_E) := (congrArg (fun l => l[17]?) cd_206).trans rfl
theorem c_206_18 : (zm_cd 206)[18]? = some ((37, .ifCond .ne 14, 3, 24, 0, 0, 0, 0, []) : zm_E) := (congrArg (fun l => l[18]?) cd_206).trans rfl
theorem c_206_19 : (zm_cd 206)[19]? = some ((40, .aload_n 1, 1, 1, 0, 0, 0, 0, []) : zm_E) := (congrArg (fun l => l[19]?) cd_206).trans rfl
theorem c_206_20 : (zm_cd 206)[20]? = some ((41, .invokevirtual 79, 3, 23, 0, 1, 0, 0, [7]) : zm_E) := (congrArg (fun l => l[20]?) cd_206).trans rfl
theorem c_206_21 : (zm_cd 206)[21]? = some ((44, .ifCond .ne 7, 3, 24, 0, 0, 0, 0, []) : zm_E) := (congrArg (fun l => l[21]?) cd_206).trans rfl
theorem c_206_22 : (zm_cd 206)[22]? = some ((47, .iconst 1, 1, 0, 0, 0, 1, 0, []) : zm_E) := (congrArg (fun l => l[22]?) cd_206).trans rfl
theorem c_206_23 : (zm_cd 206)[23]? = some ((48, .goto 4, 3, 25, 0, 0, 0, 0, []) : zm_E) := (congrArg (fun l => l[23]?) cd_206).trans rfl
theorem c_206_24 : (zm_cd 206)[24]? = some ((51, .iconst 0, 1, 0, 0, 0, 0, 0, []) : zm_E) := (congrArg (fun l => l[24]?) cd_206).trans rfl
theorem c_206_25 : (zm_cd 206)[25]? = some ((52, .istore_n 2, 1, 2, 0, 0, 0, 0, []) : zm_E) := (congrArg (fun l => l[25]?) cd_206).trans rfl
theorem c_206_26 : (zm_cd 206)[26]? = some ((53, .iconst 0, 1, 0, 0, 0, 0, 0, []) : zm_E) := (congrArg (fun l => l[26]?) cd_206).trans rfl
theorem c_206_27 : (zm_cd 206)[27]? = some ((54, .istore_n 3, 1, 3, 0, 0, 0, 0, []) : zm_E) := (congrArg (fun l => l[27]?) cd_206).trans rfl
theorem c_206_28 : (zm_cd 206)[28]? = some ((55, .iload_n 3, 1, 3, 0, 0, 0, 0, []) : zm_E) := (congrArg (fun l => l[28]?) cd_206).trans rfl
theorem c_206_29 : (zm_cd 206)[29]? = some ((56, .iconst 2, 1, 0, 0, 0, 2, 0, []) : zm_E) := (congrArg (fun l => l[29]?) cd_206).trans rfl
theorem c_206_30 : (zm_cd 206)[30]? = some ((57, .aload_n 0, 1, 0, 0, 0, 0, 0, []) : zm_E) := (congrArg (fun l => l[30]?) cd_206).trans rfl
theorem c_206_31 : (zm_cd 206)[31]? = some ((58, .iconst 0, 1, 0, 0, 0, 0, 0, []) : zm_E) := (congrArg (fun l => l[31]?) cd_206).trans rfl
theorem c_206_32 : (zm_cd 206)[32]? = some ((59, .invokestatic 82, 3, 185, 2, 1, 0, 0, []) : zm_E) := (congrArg (fun l => l[32]?) cd_206).trans rfl
theorem c_206_33 : (zm_cd 206)[33]? = some ((62, .iconst 4, 1, 0, 0, 0, 4, 0, []) : zm_E) := (congrArg (fun l => l[33]?) cd_206).trans rfl
theorem c_206_34 : (zm_cd 206)[34]? = some ((63, .irem, 1, 0, 0, 0, 0, 0, []) : zm_E) := (congrArg (fun l => l[34]?) cd_206).trans rfl
theorem c_206_35 : (zm_cd 206)[35]? = some ((64, .iadd, 1, 0, 0, 0, 0, 0, []) : zm_E) := (congrArg (fun l => l[35]?) cd_206).trans rfl
theorem c_206_36 : (zm_cd 206)[36]? = some ((65, .if_icmp .ge 27, 3, 49, 0, 0, 0, 0, []) : zm_E) := (congrArg (fun l => l[36]?) cd_206).trans rfl
theorem c_206_37 : (zm_cd 206)[37]? = some ((68, .iload_n 2, 1, 2, 0, 0, 0, 0, []) : zm_E) := (congrArg (fun l => l[37]?) cd_206).trans rfl
theorem c_206_38 : (zm_cd 206)[38]? = some ((69, .ifCond .eq 23, 3, 49, 0, 0, 0, 0, []) : zm_E) := (congrArg (fun l => l[38]?) cd_206).trans rfl
theorem c_206_39 : (zm_cd 206)[39]? = some ((72, .aload_n 1, 1, 1, 0, 0, 0, 0, []) : zm_E) := (congrArg (fun l => l[39]?) cd_206).trans rfl
theorem c_206_40 : (zm_cd 206)[40]? = some ((73, .invokevirtual 50, 3, 11, 0, 1, 0, 0, [7]) : zm_E) := (congrArg (fun l => l[40]?) cd_206).trans rfl
theorem c_206_41 : (zm_cd 206)[41]? = some ((76, .iload_n 3, 1, 3, 0, 0, 0, 0, []) : zm_E) := (congrArg (fun l => l[41]?) cd_206).trans rfl
theorem c_206_42 : (zm_cd 206)[42]? = some ((77, .if_icmp .ne 7, 3, 45, 0, 0, 0, 0, []) : zm_E) := (congrArg (fun l => l[42]?) cd_206).trans rfl
theorem c_206_43 : (zm_cd 206)[43]? = some ((80, .iconst 1, 1, 0, 0, 0, 1, 0, []) : zm_E) := (congrArg (fun l => l[43]?) cd_206).trans rfl
theorem c_206_44 : (zm_cd 206)[44]? = some ((81, .goto 4, 3, 46, 0, 0, 0, 0, []) : zm_E) := (congrArg (fun l => l[44]?) cd_206).trans rfl
theorem c_206_45 : (zm_cd 206)[45]? = some ((84, .iconst 0, 1, 0, 0, 0, 0, 0, []) : zm_E) := (congrArg (fun l => l[45]?) cd_206).trans rfl
theorem c_206_46 : (zm_cd 206)[46]? = some ((85, .istore_n 2, 1, 2, 0, 0, 0, 0, []) : zm_E) := (congrArg (fun l => l[46]?) cd_206).trans rfl
theorem c_206_47 : (zm_cd 206)[47]? = some ((86, .iinc 3 1, 3, 3, 0, 0, 1, 0, []) : zm_E) := (congrArg (fun l => l[47]?) cd_206).trans rfl
theorem c_206_48 : (zm_cd 206)[48]? = some ((89, .goto (-34), 3, 28, 0, 0, 0, 0, []) : zm_E) := (congrArg (fun l => l[48]?) cd_206).trans rfl
theorem c_206_49 : (zm_cd 206)[49]? = some ((92, .iconst 0, 1, 0, 0, 0, 0, 0, []) : zm_E) := (congrArg (fun l => l[49]?) cd_206).trans rfl
theorem c_206_50 : (zm_cd 206)[50]? = some ((93, .istore_n 3, 1, 3, 0, 0, 0, 0, []) : zm_E) := (congrArg (fun l => l[50]?) cd_206).trans rfl
theorem c_206_51 : (zm_cd 206)[51]? = some ((94, .iload_n 3, 1, 3, 0, 0, 0, 0, []) : zm_E) := (congrArg (fun l => l[51]?) cd_206).trans rfl
theorem c_206_52 : (zm_cd 206)[52]? = some ((95, .bipush 16, 2, 0, 0, 0, 16, 0, []) : zm_E) := (congrArg (fun l => l[52]?) cd_206).trans rfl
theorem c_206_53 : (zm_cd 206)[53]? = some ((97, .if_icmp .ge 61, 3, 88, 0, 0, 0, 0, []) : zm_E) := (congrArg (fun l => l[53]?) cd_206).trans rfl
theorem c_206_54 : (zm_cd 206)[54]? = some ((100, .iload_n 2, 1, 2, 0, 0, 0, 0, []) : zm_E) := (congrArg (fun l => l[54]?) cd_206).trans rfl
theorem c_206_55 : (zm_cd 206)[55]? = some ((101, .ifCond .eq 57, 3, 88, 0, 0, 0, 0, []) : zm_E) := (congrArg (fun l => l[55]?) cd_206).trans rfl
theorem c_206_56 : (zm_cd 206)[56]? = some ((104, .aload_n 0, 1, 0, 0, 0, 0, 0, []) : zm_E) := (congrArg (fun l => l[56]?) cd_206).trans rfl
theorem c_206_57 : (zm_cd 206)[57]? = some ((105, .iconst 1, 1, 0, 0, 0, 1, 0, []) : zm_E) := (congrArg (fun l => l[57]?) cd_206).trans rfl
theorem c_206_58 : (zm_cd 206)[58]? = some ((106, .iload_n 3, 1, 3, 0, 0, 0, 0, []) : zm_E) := (congrArg (fun l => l[58]?) cd_206).trans rfl
theorem c_206_59 : (zm_cd 206)[59]? = some ((107, .iadd, 1, 0, 0, 0, 0, 0, []) : zm_E) := (congrArg (fun l => l[59]?) cd_206).trans rfl
theorem c_206_60 : (zm_cd 206)[60]? = some ((108, .invokestatic 82, 3, 185, 2, 1, 0, 0, []) : zm_E) := (congrArg (fun l => l[60]?) cd_206).trans rfl
theorem c_206_61 : (zm_cd 206)[61]? = some ((111, .istore 4, 2, 4, 0, 0, 0, 0, []) : zm_E) := (congrArg (fun l => l[61]?) cd_206).trans rfl
theorem c_206_62 : (zm_cd 206)[62]? = some ((113, .aload_n 1, 1, 1, 0, 0, 0, 0, []) : zm_E) := (congrArg (fun l => l[62]?) cd_206).trans rfl
theorem c_206_63 : (zm_cd 206)[63]? = some ((114, .iload 4, 2, 4, 0, 0, 0, 0, []) : zm_E) := (congrArg (fun l => l[63]?) cd_206).trans rfl
theorem c_206_64 : (zm_cd 206)[64]? = some ((116, .aload_n 1, 1, 1, 0, 0, 0, 0, []) : zm_E) := (congrArg (fun l => l[64]?) cd_206).trans rfl
theorem c_206_65 : (zm_cd 206)[65]? = some ((117, .iconst 0, 1, 0, 0, 0, 0, 0, []) : zm_E) := (congrArg (fun l => l[65]?) cd_206).trans rfl
theorem c_206_66 : (zm_cd 206)[66]? = some ((118, .invokevirtual 9, 3, 5, 1, 1, 0, 0, [7]) : zm_E) := (congrArg (fun l => l[66]?) cd_206).trans rfl
theorem c_206_67 : (zm_cd 206)[67]? = some ((121, .irem, 1, 0, 0, 0, 0, 0, []) : zm_E) := (congrArg (fun l => l[67]?) cd_206).trans rfl
theorem c_206_68 : (zm_cd 206)[68]? = some ((122, .iload 4, 2, 4, 0, 0, 0, 0, []) : zm_E) := (congrArg (fun l => l[68]?) cd_206).trans rfl
theorem c_206_69 : (zm_cd 206)[69]? = some ((124, .iconst 4, 1, 0, 0, 0, 4, 0, []) : zm_E) := (congrArg (fun l => l[69]?) cd_206).trans rfl
theorem c_206_70 : (zm_cd 206)[70]? = some ((125, .ishr, 1, 0, 0, 0, 0, 0, []) : zm_E) := (congrArg (fun l => l[70]?) cd_206).trans rfl
theorem c_206_71 : (zm_cd 206)[71]? = some ((126, .aload_n 1, 1, 1, 0, 0, 0, 0, []) : zm_E) := (congrArg (fun l => l[71]?) cd_206).trans rfl
theorem c_206_72 : (zm_cd 206)[72]? = some ((127, .iconst 0, 1, 0, 0, 0, 0, 0, []) : zm_E) := (congrArg (fun l => l[72]?) cd_206).trans rfl
theorem c_206_73 : (zm_cd 206)[73]? = some ((128, .invokevirtual 9, 3, 5, 1, 1, 0, 0, [7]) : zm_E) := (congrArg (fun l => l[73]?) cd_206).trans rfl
theorem c_206_74 : (zm_cd 206)[74]? = some ((131, .irem, 1, 0, 0, 0, 0, 0, []) : zm_E) := (congrArg (fun l => l[74]?) cd_206).trans rfl
theorem c_206_75 : (zm_cd 206)[75]? = some ((132, .iload 4, 2, 4, 0, 0, 0, 0, []) : zm_E) := (congrArg (fun l => l[75]?) cd_206).trans rfl
theorem c_206_76 : (zm_cd 206)[76]? = some ((134, .bipush 8, 2, 0, 0, 0, 8, 0, []) : zm_E) := (congrArg (fun l => l[76]?) cd_206).trans rfl
theorem c_206_77 : (zm_cd 206)[77]? = some ((136, .ishr, 1, 0, 0, 0, 0, 0, []) : zm_E) := (congrArg (fun l => l[77]?) cd_206).trans rfl
theorem c_206_78 : (zm_cd 206)[78]? = some ((137, .bipush 10, 2, 0, 0, 0, 10, 0, []) : zm_E) := (congrArg (fun l => l[78]?) cd_206).trans rfl
theorem c_206_79 : (zm_cd 206)[79]? = some ((139, .irem, 1, 0, 0, 0, 0, 0, []) : zm_E) := (congrArg (fun l => l[79]?) cd_206).trans rfl
theorem c_206_80 : (zm_cd 206)[80]? = some ((140, .invokevirtual 53, 3, 12, 3, 1, 0, 0, [7]) : zm_E) := (congrArg (fun l => l[80]?) cd_206).trans rfl
theorem c_206_81 : (zm_cd 206)[81]? = some ((143, .ifCond .lt 7, 3, 84, 0, 0, 0, 0, []) : zm_E) := (congrArg (fun l => l[81]?) cd_206).trans rfl
theorem c_206_82 : (zm_cd 206)[82]? = some ((146, .iconst 1, 1, 0, 0, 0, 1, 0, []) : zm_E) := (congrArg (fun l => l[82]?) cd_206).trans rfl
theorem c_206_83 : (zm_cd 206)[83]? = some ((147, .goto 4, 3, 85, 0, 0, 0, 0, []) : zm_E) := (congrArg (fun l => l[83]?) cd_206).trans rfl
theorem c_206_84 : (zm_cd 206)[84]? = some ((150, .iconst 0, 1, 0, 0, 0, 0, 0, []) : zm_E) := (congrArg (fun l => l[84]?) cd_206).trans rfl
theorem c_206_85 : (zm_cd 206)[85]? = some ((151, .istore_n 2, 1, 2, 0, 0, 0, 0, []) : zm_E) := (congrArg (fun l => l[85]?) cd_206).trans rfl
theorem c_206_86 : (zm_cd 206)[86]? = some ((152, .iinc 3 1, 3, 3, 0, 0, 1, 0, []) : zm_E) := (congrArg (fun l => l[86]?) cd_206).trans rfl
theorem c_206_87 : (zm_cd 206)[87]? = some ((155, .goto (-61), 3, 51, 0, 0, 0, 0, []) : zm_E) := (congrArg (fun l => l[87]?) cd_206).trans rfl
theorem c_206_88 : (zm_cd 206)[88]? = some ((158, .iconst 0, 1, 0, 0, 0, 0, 0, []) : zm_E) := (congrArg (fun l => l[88]?) cd_206).trans rfl
theorem c_206_89 : (zm_cd 206)[89]? = some ((159, .istore_n 3, 1, 3, 0, 0, 0, 0, []) : zm_E) := (congrArg (fun l => l[89]?) cd_206).trans rfl
theorem c_206_90 : (zm_cd 206)[90]? = some ((160, .iload_n 3, 1, 3, 0, 0, 0, 0, []) : zm_E) := (congrArg (fun l => l[90]?) cd_206).trans rfl
theorem c_206_91 : (zm_cd 206)[91]? = some ((161, .bipush 24, 2, 0, 0, 0, 24, 0, []) : zm_E) := (congrArg (fun l => l[91]?) cd_206).trans rfl
theorem c_206_92 : (zm_cd 206)[92]? = some ((163, .if_icmp .ge 55, 3, 118, 0, 0, 0, 0, []) : zm_E) := (congrArg (fun l => l[92]?) cd_206).trans rfl
theorem c_206_93 : (zm_cd 206)[93]? = some ((166, .iload_n 2, 1, 2, 0, 0, 0, 0, []) : zm_E) := (congrArg (fun l => l[93]?) cd_206).trans rfl
theorem c_206_94 : (zm_cd 206)[94]? = some ((167, .ifCond .eq 51, 3, 118, 0, 0, 0, 0, []) : zm_E) := (congrArg (fun l => l[94]?) cd_206).trans rfl
theorem c_206_95 : (zm_cd 206)[95]? = some ((170, .aload_n 1, 1, 1, 0, 0, 0, 0, []) : zm_E) := (congrArg (fun l => l[95]?) cd_206).trans rfl
theorem c_206_96 : (zm_cd 206)[96]? = some ((171, .aload_n 0, 1, 0, 0, 0, 0, 0, []) : zm_E) := (congrArg (fun l => l[96]?) cd_206).trans rfl
theorem c_206_97 : (zm_cd 206)[97]? = some ((172, .bipush 17, 2, 0, 0, 0, 17, 0, []) : zm_E) := (congrArg (fun l => l[97]?) cd_206).trans rfl
theorem c_206_98 : (zm_cd 206)[98]? = some ((174, .iload_n 3, 1, 3, 0, 0, 0, 0, []) : zm_E) := (congrArg (fun l => l[98]?) cd_206).trans rfl
theorem c_206_99 : (zm_cd 206)[99]? = some ((175, .iadd, 1, 0, 0, 0, 0, 0, []) : zm_E) := (congrArg (fun l => l[99]?) cd_206).trans rfl
theorem c_206_100 : (zm_cd 206)[100]? = some ((176, .invokestatic 82, 3, 185, 2, 1, 0, 0, []) : zm_E) := (congrArg (fun l => l[100]?) cd_206).trans rfl
theorem c_206_101 : (zm_cd 206)[101]? = some ((179, .invokestatic 86, 3, 190, 2, 1, 0, 0, []) : zm_E) := (congrArg (fun l => l[101]?) cd_206).trans rfl
theorem c_206_102 : (zm_cd 206)[102]? = some ((182, .ifCond .eq 28, 3, 114, 0, 0, 0, 0, []) : zm_E) := (congrArg (fun l => l[102]?) cd_206).trans rfl
theorem c_206_103 : (zm_cd 206)[103]? = some ((185, .aload_n 1, 1, 1, 0, 0, 0, 0, []) : zm_E) := (congrArg (fun l => l[103]?) cd_206).trans rfl
theorem c_206_104 : (zm_cd 206)[104]? = some ((186, .invokestatic 90, 3, 187, 1, 1, 0, 0, []) : zm_E) := (congrArg (fun l => l[104]?) cd_206).trans rfl
theorem c_206_105 : (zm_cd 206)[105]? = some ((189, .ifCond .eq 21, 3, 114, 0, 0, 0, 0, []) : zm_E) := (congrArg (fun l => l[105]?) cd_206).trans rfl
theorem c_206_106 : (zm_cd 206)[106]? = some ((192, .aload_n 1, 1, 1, 0, 0, 0, 0, []) : zm_E) := (congrArg (fun l => l[106]?) cd_206).trans rfl
theorem c_206_107 : (zm_cd 206)[107]? = some ((193, .invokestatic 94, 3, 188, 1, 1, 0, 0, []) : zm_E) := (congrArg (fun l => l[107]?) cd_206).trans rfl
theorem c_206_108 : (zm_cd 206)[108]? = some ((196, .ifCond .eq 14, 3, 114, 0, 0, 0, 0, []) : zm_E) := (congrArg (fun l => l[108]?) cd_206).trans rfl
theorem c_206_109 : (zm_cd 206)[109]? = some ((199, .aload_n 1, 1, 1, 0, 0, 0, 0, []) : zm_E) := (congrArg (fun l => l[109]?) cd_206).trans rfl
theorem c_206_110 : (zm_cd 206)[110]? = some ((200, .invokestatic 97, 3, 189, 1, 1, 0, 0, []) : zm_E) := (congrArg (fun l => l[110]?) cd_206).trans rfl
theorem c_206_111 : (zm_cd 206)[111]? = some ((203, .ifCond .eq 7, 3, 114, 0, 0, 0, 0, []) : zm_E) := (congrArg (fun l => l[111]?) cd_206).trans rfl
theorem c_206_112 : (zm_cd 206)[112]? = some ((206, .iconst 1, 1, 0, 0, 0, 1, 0, []) : zm_E) := (congrArg (fun l => l[112]?) cd_206).trans rfl
theorem c_206_113 : (zm_cd 206)[113]? = some ((207, .goto 4, 3, 115, 0, 0, 0, 0, []) : zm_E) := (congrArg (fun l => l[113]?) cd_206).trans rfl
theorem c_206_114 : (zm_cd 206)[114]? = some ((210, .iconst 0, 1, 0, 0, 0, 0, 0, []) : zm_E) := (congrArg (fun l => l[114]?) cd_206).trans rfl
theorem c_206_115 : (zm_cd 206)[115]? = some ((211, .istore_n 2, 1, 2, 0, 0, 0, 0, []) : zm_E) := (congrArg (fun l => l[115]?) cd_206).trans rfl
theorem c_206_116 : (zm_cd 206)[116]? = some ((212, .iinc 3 1, 3, 3, 0, 0, 1, 0, []) : zm_E) := (congrArg (fun l => l[116]?) cd_206).trans rfl
theorem c_206_117 : (zm_cd 206)[117]? = some ((215, .goto (-55), 3, 90, 0, 0, 0, 0, []) : zm_E) := (congrArg (fun l => l[117]?) cd_206).trans rfl
theorem c_206_118 : (zm_cd 206)[118]? = some ((218, .aload_n 1, 1, 1, 0, 0, 0, 0, []) : zm_E) := (congrArg (fun l => l[118]?) cd_206).trans rfl
theorem c_206_119 : (zm_cd 206)[119]? = some ((219, .iconst 0, 1, 0, 0, 0, 0, 0, []) : zm_E) := (congrArg (fun l => l[119]?) cd_206).trans rfl
theorem c_206_120 : (zm_cd 206)[120]? = some ((220, .invokevirtual 9, 3, 5, 1, 1, 0, 0, [7]) : zm_E) := (congrArg (fun l => l[120]?) cd_206).trans rfl
theorem c_206_121 : (zm_cd 206)[121]? = some ((223, .istore_n 3, 1, 3, 0, 0, 0, 0, []) : zm_E) := (congrArg (fun l => l[121]?) cd_206).trans rfl
theorem c_206_122 : (zm_cd 206)[122]? = some ((224, .aload_n 1, 1, 1, 0, 0, 0, 0, []) : zm_E) := (congrArg (fun l => l[122]?) cd_206).trans rfl
theorem c_206_123 : (zm_cd 206)[123]? = some ((225, .iconst 3, 1, 0, 0, 0, 3, 0, []) : zm_E) := (congrArg (fun l => l[123]?) cd_206).trans rfl
theorem c_206_124 : (zm_cd 206)[124]? = some ((226, .invokevirtual 9, 3, 5, 1, 1, 0, 0, [7]) : zm_E) := (congrArg (fun l => l[124]?) cd_206).trans rfl
theorem c_206_125 : (zm_cd 206)[125]? = some ((229, .istore 4, 2, 4, 0, 0, 0, 0, []) : zm_E) := (congrArg (fun l => l[125]?) cd_206).trans rfl
theorem c_206_126 : (zm_cd 206)[126]? = some ((231, .iload_n 2, 1, 2, 0, 0, 0, 0, []) : zm_E) := (congrArg (fun l => l[126]?) cd_206).trans rfl
theorem c_206_127 : (zm_cd 206)[127]? = some ((232, .ifCond .eq 56, 3, 154, 0, 0, 0, 0, []) : zm_E) := (congrArg (fun l => l[127]?) cd_206).trans rfl
theorem c_206_128 : (zm_cd 206)[128]? = some ((235, .aload_n 1, 1, 1, 0, 0, 0, 0, []) : zm_E) := (congrArg (fun l => l[128]?) cd_206).trans rfl
theorem c_206_129 : (zm_cd 206)[129]? = some ((236, .iconst 0, 1, 0, 0, 0, 0, 0, []) : zm_E) := (congrArg (fun l => l[129]?) cd_206).trans rfl
theorem c_206_130 : (zm_cd 206)[130]? = some ((237, .invokevirtual 99, 3, 28, 1, 1, 0, 0, [7]) : zm_E) := (congrArg (fun l => l[130]?) cd_206).trans rfl
theorem c_206_131 : (zm_cd 206)[131]? = some ((240, .iload_n 3, 1, 3, 0, 0, 0, 0, []) : zm_E) := (congrArg (fun l => l[131]?) cd_206).trans rfl
theorem c_206_132 : (zm_cd 206)[132]? = some ((241, .if_icmp .ne 47, 3, 154, 0, 0, 0, 0, []) : zm_E) := (congrArg (fun l => l[132]?) cd_206).trans rfl
theorem c_206_133 : (zm_cd 206)[133]? = some ((244, .aload_n 1, 1, 1, 0, 0, 0, 0, []) : zm_E) := (congrArg (fun l => l[133]?) cd_206).trans rfl
theorem c_206_134 : (zm_cd 206)[134]? = some ((245, .invokevirtual 75, 3, 17, 0, 1, 0, 0, [7]) : zm_E) := (congrArg (fun l => l[134]?) cd_206).trans rfl
theorem c_206_135 : (zm_cd 206)[135]? = some ((248, .ifCond .lt 40, 3, 154, 0, 0, 0, 0, []) : zm_E) := (congrArg (fun l => l[135]?) cd_206).trans rfl
theorem c_206_136 : (zm_cd 206)[136]? = some ((251, .aload_n 1, 1, 1, 0, 0, 0, 0, []) : zm_E) := (congrArg (fun l => l[136]?) cd_206).trans rfl
theorem c_206_137 : (zm_cd 206)[137]? = some ((252, .invokevirtual 102, 3, 18, 0, 1, 0, 0, [7]) : zm_E) := (congrArg (fun l => l[137]?) cd_206).trans rfl
theorem c_206_138 : (zm_cd 206)[138]? = some ((255, .ifCond .lt 33, 3, 154, 0, 0, 0, 0, []) : zm_E) := (congrArg (fun l => l[138]?) cd_206).trans rfl
theorem c_206_139 : (zm_cd 206)[139]? = some ((258, .aload_n 1, 1, 1, 0, 0, 0, 0, []) : zm_E) := (congrArg (fun l => l[139]?) cd_206).trans rfl
theorem c_206_140 : (zm_cd 206)[140]? = some ((259, .iconst 3, 1, 0, 0, 0, 3, 0, []) : zm_E) := (congrArg (fun l => l[140]?) cd_206).trans rfl
theorem c_206_141 : (zm_cd 206)[141]? = some ((260, .invokevirtual 9, 3, 5, 1, 1, 0, 0, [7]) : zm_E) := (congrArg (fun l => l[141]?) cd_206).trans rfl
theorem c_206_142 : (zm_cd 206)[142]? = some ((263, .iload 4, 2, 4, 0, 0, 0, 0, []) : zm_E) := (congrArg (fun l => l[142]?) cd_206).trans rfl
theorem c_206_143 : (zm_cd 206)[143]? = some ((265, .if_icmp .ne 23, 3, 154, 0, 0, 0, 0, []) : zm_E) := (congrArg (fun l => l[143]?) cd_206).trans rfl
theorem c_206_144 : (zm_cd 206)[144]? = some ((268, .aload_n 1, 1, 1, 0, 0, 0, 0, []) : zm_E) := (congrArg (fun l => l[144]?) cd_206).trans rfl
theorem c_206_145 : (zm_cd 206)[145]? = some ((269, .invokevirtual 75, 3, 17, 0, 1, 0, 0, [7]) : zm_E) := (congrArg (fun l => l[145]?) cd_206).trans rfl
theorem c_206_146 : (zm_cd 206)[146]? = some ((272, .ifCond .lt 16, 3, 154, 0, 0, 0, 0, []) : zm_E) := (congrArg (fun l => l[146]?) cd_206).trans rfl
theorem c_206_147 : (zm_cd 206)[147]? = some ((275, .aload_n 1, 1, 1, 0, 0, 0, 0, []) : zm_E) := (congrArg (fun l => l[147]?) cd_206).trans rfl
theorem c_206_148 : (zm_cd 206)[148]? = some ((276, .iconst 0, 1, 0, 0, 0, 0, 0, []) : zm_E) := (congrArg (fun l => l[148]?) cd_206).trans rfl
theorem c_206_149 : (zm_cd 206)[149]? = some ((277, .invokevirtual 105, 3, 29, 1, 1, 0, 0, [7]) : zm_E) := (congrArg (fun l => l[149]?) cd_206).trans rfl
theorem c_206_150 : (zm_cd 206)[150]? = some ((280, .iload_n 3, 1, 3, 0, 0, 0, 0, []) : zm_E) := (congrArg (fun l => l[150]?) cd_206).trans rfl
theorem c_206_151 : (zm_cd 206)[151]? = some ((281, .if_icmp .ne 7, 3, 154, 0, 0, 0, 0, []) : zm_E) := (congrArg (fun l => l[151]?) cd_206).trans rfl
theorem c_206_152 : (zm_cd 206)[152]? = some ((284, .iconst 1, 1, 0, 0, 0, 1, 0, []) : zm_E) := (congrArg (fun l => l[152]?) cd_206).trans rfl
theorem c_206_153 : (zm_cd 206)[153]? = some ((285, .goto 4, 3, 155, 0, 0, 0, 0, []) : zm_E) := (congrArg (fun l => l[153]?) cd_206).trans rfl
theorem c_206_154 : (zm_cd 206)[154]? = some ((288, .iconst 0, 1, 0, 0, 0, 0, 0, []) : zm_E) := (congrArg (fun l => l[154]?) cd_206).trans rfl
theorem c_206_155 : (zm_cd 206)[155]? = some ((289, .istore_n 2, 1, 2, 0, 0, 0, 0, []) : zm_E) := (congrArg (fun l => l[155]?) cd_206).trans rfl
theorem c_206_156 : (zm_cd 206)[156]? = some ((290, .iload_n 2, 1, 2, 0, 0, 0, 0, []) : zm_E) := (congrArg (fun l => l[156]?) cd_206).trans rfl
theorem c_206_157 : (zm_cd 206)[157]? = some ((291, .ifCond .eq 24, 3, 168, 0, 0, 0, 0, []) : zm_E) := (congrArg (fun l => l[157]?) cd_206).trans rfl
theorem c_206_158 : (zm_cd 206)[158]? = some ((294, .aload_n 1, 1, 1, 0, 0, 0, 0, []) : zm_E) := (congrArg (fun l => l[158]?) cd_206).trans rfl
theorem c_206_159 : (zm_cd 206)[159]? = some ((295, .iconst 3, 1, 0, 0, 0, 3, 0, []) : zm_E) := (congrArg (fun l => l[159]?) cd_206).trans rfl
theorem c_206_160 : (zm_cd 206)[160]? = some ((296, .invokevirtual 9, 3, 5, 1, 1, 0, 0, [7]) : zm_E) := (congrArg (fun l => l[160]?) cd_206).trans rfl
theorem c_206_161 : (zm_cd 206)[161]? = some ((299, .iload 4, 2, 4, 0, 0, 0, 0, []) : zm_E) := (congrArg (fun l => l[161]?) cd_206).trans rfl
theorem c_206_162 : (zm_cd 206)[162]? = some ((301, .if_icmp .ne 14, 3, 168, 0, 0, 0, 0, []) : zm_E) := (congrArg (fun l => l[162]?) cd_206).trans rfl
theorem c_206_163 : (zm_cd 206)[163]? = some ((304, .aload_n 1, 1, 1, 0, 0, 0, 0, []) : zm_E) := (congrArg (fun l => l[163]?) cd_206).trans rfl
theorem c_206_164 : (zm_cd 206)[164]? = some ((305, .invokestatic 90, 3, 187, 1, 1, 0, 0, []) : zm_E) := (congrArg (fun l => l[164]?) cd_206).trans rfl
theorem c_206_165 : (zm_cd 206)[165]? = some ((308, .ifCond .eq 7, 3, 168, 0, 0, 0, 0, []) : zm_E) := (congrArg (fun l => l[165]?) cd_206).trans rfl
theorem c_206_166 : (zm_cd 206)[166]? = some ((311, .iconst 1, 1, 0, 0, 0, 1, 0, []) : zm_E) := (congrArg (fun l => l[166]?) cd_206).trans rfl
theorem c_206_167 : (zm_cd 206)[167]? = some ((312, .goto 4, 3, 169, 0, 0, 0, 0, []) : zm_E) := (congrArg (fun l => l[167]?) cd_206).trans rfl
theorem c_206_168 : (zm_cd 206)[168]? = some ((315, .iconst 0, 1, 0, 0, 0, 0, 0, []) : zm_E) := (congrArg (fun l => l[168]?) cd_206).trans rfl
theorem c_206_169 : (zm_cd 206)[169]? = some ((316, .ireturn, 1, 1, 0, 0, 0, 0, []) : zm_E) := (congrArg (fun l => l[169]?) cd_206).trans rfl
theorem cd_207 : zm_cd 207 = zd_207 := rfl
theorem ml_207 : zm_ml 207 = 1 := rfl
theorem ht_207 : zm_ht 207 = [] := rfl
theorem c_207_0 : (zm_cd 207)[0]? = some ((0, .iload_n 0, 1, 0, 0, 0, 0, 0, []) : zm_E) := (congrArg (fun l => l[0]?) cd_207).trans rfl
theorem c_207_1 : (zm_cd 207)[1]? = some ((1, .iload_n 0, 1, 0, 0, 0, 0, 0, []) : zm_E) := (congrArg (fun l => l[1]?) cd_207).trans rfl
theorem c_207_2 : (zm_cd 207)[2]? = some ((2, .iconst 1, 1, 0, 0, 0, 1, 0, []) : zm_E) := (congrArg (fun l => l[2]?) cd_207).trans rfl
theorem c_207_3 : (zm_cd 207)[3]? = some ((3, .iushr, 1, 0, 0, 0, 0, 0, []) : zm_E) := (congrArg (fun l => l[3]?) cd_207).trans rfl
theorem c_207_4 : (zm_cd 207)[4]? = some ((4, .ldc_w 265, 3, 0, 0, 0, 1431655765, 0, []) : zm_E) := (congrArg (fun l => l[4]?) cd_207).trans rfl
theorem c_207_5 : (zm_cd 207)[5]? = some ((7, .iand, 1, 0, 0, 0, 0, 0, []) : zm_E) := (congrArg (fun l => l[5]?) cd_207).trans rfl
theorem c_207_6 : (zm_cd 207)[6]? = some ((8, .isub, 1, 0, 0, 0, 0, 0, []) : zm_E) := (congrArg (fun l => l[6]?) cd_207).trans rfl
theorem c_207_7 : (zm_cd 207)[7]? = some ((9, .istore_n 0, 1, 0, 0, 0, 0, 0, []) : zm_E) := (congrArg (fun l => l[7]?) cd_207).trans rfl
theorem c_207_8 : (zm_cd 207)[8]? = some ((10, .iload_n 0, 1, 0, 0, 0, 0, 0, []) : zm_E) := (congrArg (fun l => l[8]?) cd_207).trans rfl
theorem c_207_9 : (zm_cd 207)[9]? = some ((11, .ldc_w 266, 3, 0, 0, 0, 858993459, 0, []) : zm_E) := (congrArg (fun l => l[9]?) cd_207).trans rfl
theorem c_207_10 : (zm_cd 207)[10]? = some ((14, .iand, 1, 0, 0, 0, 0, 0, []) : zm_E) := (congrArg (fun l => l[10]?) cd_207).trans rfl
theorem c_207_11 : (zm_cd 207)[11]? = some ((15, .iload_n 0, 1, 0, 0, 0, 0, 0, []) : zm_E) := (congrArg (fun l => l[11]?) cd_207).trans rfl
theorem c_207_12 : (zm_cd 207)[12]? = some ((16, .iconst 2, 1, 0, 0, 0, 2, 0, []) : zm_E) := (congrArg (fun l => l[12]?) cd_207).trans rfl
theorem c_207_13 : (zm_cd 207)[13]? = some ((17, .iushr, 1, 0, 0, 0, 0, 0, []) : zm_E) := (congrArg (fun l => l[13]?) cd_207).trans rfl
theorem c_207_14 : (zm_cd 207)[14]? = some ((18, .ldc_w 266, 3, 0, 0, 0, 858993459, 0, []) : zm_E) := (congrArg (fun l => l[14]?) cd_207).trans rfl
theorem c_207_15 : (zm_cd 207)[15]? = some ((21, .iand, 1, 0, 0, 0, 0, 0, []) : zm_E) := (congrArg (fun l => l[15]?) cd_207).trans rfl
theorem c_207_16 : (zm_cd 207)[16]? = some ((22, .iadd, 1, 0, 0, 0, 0, 0, []) : zm_E) := (congrArg (fun l => l[16]?) cd_207).trans rfl
theorem c_207_17 : (zm_cd 207)[17]? = some ((23, .istore_n 0, 1, 0, 0, 0, 0, 0, []) : zm_E) := (congrArg (fun l => l[17]?) cd_207).trans rfl
theorem c_207_18 : (zm_cd 207)[18]? = some ((24, .iload_n 0, 1, 0, 0, 0, 0, 0, []) : zm_E) := (congrArg (fun l => l[18]?) cd_207).trans rfl
theorem c_207_19 : (zm_cd 207)[19]? = some ((25, .iload_n 0, 1, 0, 0, 0, 0, 0, []) : zm_E) := (congrArg (fun l => l[19]?) cd_207).trans rfl
theorem c_207_20 : (zm_cd 207)[20]? = some ((26, .iconst 4, 1, 0, 0, 0, 4, 0, []) : zm_E) := (congrArg (fun l => l[20]?) cd_207).trans rfl
theorem c_207_21 : (zm_cd 207)[21]? = some ((27, .iushr, 1, 0, 0, 0, 0, 0, []) : zm_E) := (congrArg (fun l => l[21]?) cd_207).trans rfl
theorem c_207_22 : (zm_cd 207)[22]? = some ((28, .iadd, 1, 0, 0, 0, 0, 0, []) : zm_E) := (congrArg (fun l => l[22]?) cd_207).trans rfl
theorem c_207_23 : (zm_cd 207)[23]? = some ((29, .ldc_w 267, 3, 0, 0, 0, 252645135, 0, []) : zm_E) := (congrArg (fun l => l[23]?) cd_207).trans rfl
theorem c_207_24 : (zm_cd 207)[24]? = some ((32, .iand, 1, 0, 0, 0, 0, 0, []) : zm_E) := (congrArg (fun l => l[24]?) cd_207).trans rfl
theorem c_207_25 : (zm_cd 207)[25]? = some ((33, .istore_n 0, 1, 0, 0, 0, 0, 0, []) : zm_E) := (congrArg (fun l => l[25]?) cd_207).trans rfl
theorem c_207_26 : (zm_cd 207)[26]? = some ((34, .iload_n 0, 1, 0, 0, 0, 0, 0, []) : zm_E) := (congrArg (fun l => l[26]?) cd_207).trans rfl
theorem c_207_27 : (zm_cd 207)[27]? = some ((35, .iload_n 0, 1, 0, 0, 0, 0, 0, []) : zm_E) := (congrArg (fun l => l[27]?) cd_207).trans rfl
theorem c_207_28 : (zm_cd 207)[28]? = some ((36, .bipush 8, 2, 0, 0, 0, 8, 0, []) : zm_E) := (congrArg (fun l => l[28]?) cd_207).trans rfl
theorem c_207_29 : (zm_cd 207)[29]? = some ((38, .iushr, 1, 0, 0, 0, 0, 0, []) : zm_E) := (congrArg (fun l => l[29]?) cd_207).trans rfl
theorem c_207_30 : (zm_cd 207)[30]? = some ((39, .iadd, 1, 0, 0, 0, 0, 0, []) : zm_E) := (congrArg (fun l => l[30]?) cd_207).trans rfl
theorem c_207_31 : (zm_cd 207)[31]? = some ((40, .istore_n 0, 1, 0, 0, 0, 0, 0, []) : zm_E) := (congrArg (fun l => l[31]?) cd_207).trans rfl
theorem c_207_32 : (zm_cd 207)[32]? = some ((41, .iload_n 0, 1, 0, 0, 0, 0, 0, []) : zm_E) := (congrArg (fun l => l[32]?) cd_207).trans rfl
theorem c_207_33 : (zm_cd 207)[33]? = some ((42, .iload_n 0, 1, 0, 0, 0, 0, 0, []) : zm_E) := (congrArg (fun l => l[33]?) cd_207).trans rfl
theorem c_207_34 : (zm_cd 207)[34]? = some ((43, .bipush 16, 2, 0, 0, 0, 16, 0, []) : zm_E) := (congrArg (fun l => l[34]?) cd_207).trans rfl
theorem c_207_35 : (zm_cd 207)[35]? = some ((45, .iushr, 1, 0, 0, 0, 0, 0, []) : zm_E) := (congrArg (fun l => l[35]?) cd_207).trans rfl
theorem c_207_36 : (zm_cd 207)[36]? = some ((46, .iadd, 1, 0, 0, 0, 0, 0, []) : zm_E) := (congrArg (fun l => l[36]?) cd_207).trans rfl
theorem c_207_37 : (zm_cd 207)[37]? = some ((47, .istore_n 0, 1, 0, 0, 0, 0, 0, []) : zm_E) := (congrArg (fun l => l[37]?) cd_207).trans rfl
theorem c_207_38 : (zm_cd 207)[38]? = some ((48, .iload_n 0, 1, 0, 0, 0, 0, 0, []) : zm_E) := (congrArg (fun l => l[38]?) cd_207).trans rfl
theorem c_207_39 : (zm_cd 207)[39]? = some ((49, .bipush 63, 2, 0, 0, 0, 63, 0, []) : zm_E) := (congrArg (fun l => l[39]?) cd_207).trans rfl
theorem c_207_40 : (zm_cd 207)[40]? = some ((51, .iand, 1, 0, 0, 0, 0, 0, []) : zm_E) := (congrArg (fun l => l[40]?) cd_207).trans rfl
theorem c_207_41 : (zm_cd 207)[41]? = some ((52, .ireturn, 1, 0, 0, 0, 0, 0, []) : zm_E) := (congrArg (fun l => l[41]?) cd_207).trans rfl
theorem cd_208 : zm_cd 208 = zd_208 := rfl
theorem ml_208 : zm_ml 208 = 5 := rfl
theorem ht_208 : zm_ht 208 = [] := rfl
theorem c_208_0 : (zm_cd 208)[0]? = some ((0, .iconst 0, 1, 0, 0, 0, 0, 0, []) : zm_E) := (congrArg (fun l => l[0]?) cd_208).trans rfl
theorem c_208_1 : (zm_cd 208)[1]? = some ((1, .istore_n 3, 1, 3, 0, 0, 0, 0, []) : zm_E) := (congrArg (fun l => l[1]?) cd_208).trans rfl
theorem c_208_2 : (zm_cd 208)[2]? = some ((2, .aload_n 0, 1, 0, 0, 0, 0, 0, []) : zm_E) := (congrArg (fun l => l[2]?) cd_208).trans rfl
theorem c_208_3 : (zm_cd 208)[3]? = some ((3, .arraylength, 1, 0, 0, 0, 0, 0, []) : zm_E) := (congrArg (fun l => l[3]?) cd_208).trans rfl
theorem c_208_4 : (zm_cd 208)[4]? = some ((4, .istore 4, 2, 4, 0, 0, 0, 0, []) : zm_E) := (congrArg (fun l => l[4]?) cd_208).trans rfl
theorem c_208_5 : (zm_cd 208)[5]? = some ((6, .iload_n 3, 1, 3, 0, 0, 0, 0, []) : zm_E) := (congrArg (fun l => l[5]?) cd_208).trans rfl
theorem c_208_6 : (zm_cd 208)[6]? = some ((7, .iload 4, 2, 4, 0, 0, 0, 0, []) : zm_E) := (congrArg (fun l => l[6]?) cd_208).trans rfl
theorem c_208_7 : (zm_cd 208)[7]? = some ((9, .if_icmp .ge 13, 3, 14, 0, 0, 0, 0, []) : zm_E) := (congrArg (fun l => l[7]?) cd_208).trans rfl
theorem c_208_8 : (zm_cd 208)[8]? = some ((12, .aload_n 0, 1, 0, 0, 0, 0, 0, []) : zm_E) := (congrArg (fun l => l[8]?) cd_208).trans rfl
theorem c_208_9 : (zm_cd 208)[9]? = some ((13, .iload_n 3, 1, 3, 0, 0, 0, 0, []) : zm_E) := (congrArg (fun l => l[9]?) cd_208).trans rfl
theorem c_208_10 : (zm_cd 208)[10]? = some ((14, .lload_n 1, 1, 1, 0, 0, 0, 0, []) : zm_E) := (congrArg (fun l => l[10]?) cd_208).trans rfl
theorem c_208_11 : (zm_cd 208)[11]? = some ((15, .lastore, 1, 0, 0, 0, 0, 0, []) : zm_E) := (congrArg (fun l => l[11]?) cd_208).trans rfl
theorem c_208_12 : (zm_cd 208)[12]? = some ((16, .iinc 3 1, 3, 3, 0, 0, 1, 0, []) : zm_E) := (congrArg (fun l => l[12]?) cd_208).trans rfl
theorem c_208_13 : (zm_cd 208)[13]? = some ((19, .goto (-13), 3, 5, 0, 0, 0, 0, []) : zm_E) := (congrArg (fun l => l[13]?) cd_208).trans rfl
theorem c_208_14 : (zm_cd 208)[14]? = some ((22, .return_, 1, 0, 0, 0, 0, 0, []) : zm_E) := (congrArg (fun l => l[14]?) cd_208).trans rfl
theorem cd_209 : zm_cd 209 = zd_209 := rfl
theorem ml_209 : zm_ml 209 = 2 := rfl
theorem ht_209 : zm_ht 209 = [] := rfl
theorem c_209_0 : (zm_cd 209)[0]? = some ((0, .iload_n 1, 1, 1, 0, 0, 0, 0, []) : zm_E) := (congrArg (fun l => l[0]?) cd_209).trans rfl
theorem c_209_1 : (zm_cd 209)[1]? = some ((1, .ifCond .lt 15, 3, 10, 0, 0, 0, 0, []) : zm_E) := (congrArg (fun l => l[1]?) cd_209).trans rfl
theorem c_209_2 : (zm_cd 209)[2]? = some ((4, .iload_n 1, 1, 1, 0, 0, 0, 0, []) : zm_E) := (congrArg (fun l => l[2]?) cd_209).trans rfl
theorem c_209_3 : (zm_cd 209)[3]? = some ((5, .aload_n 0, 1, 0, 0, 0, 0, 0, []) : zm_E) := (congrArg (fun l => l[3]?) cd_209).trans rfl
theorem c_209_4 : (zm_cd 209)[4]? = some ((6, .arraylength, 1, 0, 0, 0, 0, 0, []) : zm_E) := (congrArg (fun l => l[4]?) cd_209).trans rfl
theorem c_209_5 : (zm_cd 209)[5]? = some ((7, .if_icmp .ge 9, 3, 10, 0, 0, 0, 0, []) : zm_E) := (congrArg (fun l => l[5]?) cd_209).trans rfl
theorem c_209_6 : (zm_cd 209)[6]? = some ((10, .aload_n 0, 1, 0, 0, 0, 0, 0, []) : zm_E) := (congrArg (fun l => l[6]?) cd_209).trans rfl
theorem c_209_7 : (zm_cd 209)[7]? = some ((11, .iload_n 1, 1, 1, 0, 0, 0, 0, []) : zm_E) := (congrArg (fun l => l[7]?) cd_209).trans rfl
theorem c_209_8 : (zm_cd 209)[8]? = some ((12, .iaload, 1, 0, 0, 0, 0, 0, []) : zm_E) := (congrArg (fun l => l[8]?) cd_209).trans rfl
theorem c_209_9 : (zm_cd 209)[9]? = some ((13, .goto 5, 3, 11, 0, 0, 0, 0, []) : zm_E) := (congrArg (fun l => l[9]?) cd_209).trans rfl
theorem c_209_10 : (zm_cd 209)[10]? = some ((16, .bipush (-9), 2, 0, 0, 0, (-9), 0, []) : zm_E) := (congrArg (fun l => l[10]?) cd_209).trans rfl
theorem c_209_11 : (zm_cd 209)[11]? = some ((18, .ireturn, 1, 0, 0, 0, 0, 0, []) : zm_E) := (congrArg (fun l => l[11]?) cd_209).trans rfl
theorem cd_210 : zm_cd 210 = zd_210 := rfl
theorem ml_210 : zm_ml 210 = 3 := rfl
theorem ht_210 : zm_ht 210 = [] := rfl
theorem c_210_0 : (zm_cd 210)[0]? = some ((0, .iload_n 1, 1, 1, 0, 0, 0, 0, []) : zm_E) := (congrArg (fun l => l[0]?) cd_210).trans rfl
theorem c_210_1 : (zm_cd 210)[1]? = some ((1, .ifCond .lt 13, 3, 10, 0, 0, 0, 0, []) : zm_E) := (congrArg (fun l => l[1]?) cd_210).trans rfl
theorem c_210_2 : (zm_cd 210)[2]? = some ((4, .iload_n 1, 1, 1, 0, 0, 0, 0, []) : zm_E) := (congrArg (fun l => l[2]?) cd_210).trans rfl
theorem c_210_3 : (zm_cd 210)[3]? = some ((5, .aload_n 0, 1, 0, 0, 0, 0, 0, []) : zm_E) := (congrArg (fun l => l[3]?) cd_210).trans rfl
theorem c_210_4 : (zm_cd 210)[4]? = some ((6, .arraylength, 1, 0, 0, 0, 0, 0, []) : zm_E) := (congrArg (fun l => l[4]?) cd_210).trans rfl
theorem c_210_5 : (zm_cd 210)[5]? = some ((7, .if_icmp .ge 7, 3, 10, 0, 0, 0, 0, []) : zm_E) := (congrArg (fun l => l[5]?) cd_210).trans rfl
theorem c_210_6 : (zm_cd 210)[6]? = some ((10, .aload_n 0, 1, 0, 0, 0, 0, 0, []) : zm_E) := (congrArg (fun l => l[6]?) cd_210).trans rfl
theorem c_210_7 : (zm_cd 210)[7]? = some ((11, .iload_n 1, 1, 1, 0, 0, 0, 0, []) : zm_E) := (congrArg (fun l => l[7]?) cd_210).trans rfl
theorem c_210_8 : (zm_cd 210)[8]? = some ((12, .iload_n 2, 1, 2, 0, 0, 0, 0, []) : zm_E) := (congrArg (fun l => l[8]?) cd_210).trans rfl
theorem c_210_9 : (zm_cd 210)[9]? = some ((13, .iastore, 1, 0, 0, 0, 0, 0, []) : zm_E) := (congrArg (fun l => l[9]?) cd_210).trans rfl
theorem c_210_10 : (zm_cd 210)[10]? = some ((14, .return_, 1, 0, 0, 0, 0, 0, []) : zm_E) := (congrArg (fun l => l[10]?) cd_210).trans rfl
theorem cd_211 : zm_cd 211 = zd_211 := rfl
theorem ml_211 : zm_ml 211 = 2 := rfl
theorem ht_211 : zm_ht 211 = [] := rfl
theorem c_211_0 : (zm_cd 211)[0]? = some ((0, .aload_n 0, 1, 0, 0, 0, 0, 0, []) : zm_E) := (congrArg (fun l => l[0]?) cd_211).trans rfl
theorem c_211_1 : (zm_cd 211)[1]? = some ((1, .iconst 0, 1, 0, 0, 0, 0, 0, []) : zm_E) := (congrArg (fun l => l[1]?) cd_211).trans rfl
theorem c_211_2 : (zm_cd 211)[2]? = some ((2, .aload_n 1, 1, 1, 0, 0, 0, 0, []) : zm_E) := (congrArg (fun l => l[2]?) cd_211).trans rfl
theorem c_211_3 : (zm_cd 211)[3]? = some ((3, .iconst 0, 1, 0, 0, 0, 0, 0, []) : zm_E) := (congrArg (fun l => l[3]?) cd_211).trans rfl
theorem c_211_4 : (zm_cd 211)[4]? = some ((4, .aload_n 0, 1, 0, 0, 0, 0, 0, []) : zm_E) := (congrArg (fun l => l[4]?) cd_211).trans rfl
theorem c_211_5 : (zm_cd 211)[5]? = some ((5, .arraylength, 1, 0, 0, 0, 0, 0, []) : zm_E) := (congrArg (fun l => l[5]?) cd_211).trans rfl
theorem c_211_6 : (zm_cd 211)[6]? = some ((6, .aload_n 1, 1, 1, 0, 0, 0, 0, []) : zm_E) := (congrArg (fun l => l[6]?) cd_211).trans rfl
theorem c_211_7 : (zm_cd 211)[7]? = some ((7, .arraylength, 1, 0, 0, 0, 0, 0, []) : zm_E) := (congrArg (fun l => l[7]?) cd_211).trans rfl
theorem c_211_8 : (zm_cd 211)[8]? = some ((8, .invokestatic 337, 3, 1003, 2, 1, 0, 0, []) : zm_E) := (congrArg (fun l => l[8]?) cd_211).trans rfl
theorem c_211_9 : (zm_cd 211)[9]? = some ((11, .invokestatic 342, 3, 1000, 5, 0, 0, 0, []) : zm_E) := (congrArg (fun l => l[9]?) cd_211).trans rfl
theorem c_211_10 : (zm_cd 211)[10]? = some ((14, .return_, 1, 0, 0, 0, 0, 0, []) : zm_E) := (congrArg (fun l => l[10]?) cd_211).trans rfl
theorem cd_212 : zm_cd 212 = zd_212 := rfl
theorem ml_212 : zm_ml 212 = 1 := rfl
theorem ht_212 : zm_ht 212 = [] := rfl
theorem c_212_0 : (zm_cd 212)[0]? = some ((0, .aload_n 0, 1, 0, 0, 0, 0, 0, []) : zm_E) := (congrArg (fun l => l[0]?) cd_212).trans rfl
theorem c_212_1 : (zm_cd 212)[1]? = some ((1, .getfield 16, 3, 0, 1, 0, 0, 0, []) : zm_E) := (congrArg (fun l => l[1]?) cd_212).trans rfl
theorem c_212_2 : (zm_cd 212)[2]? = some ((4, .ireturn, 1, 0, 0, 0, 0, 0, []) : zm_E) := (congrArg (fun l => l[2]?) cd_212).trans rfl
