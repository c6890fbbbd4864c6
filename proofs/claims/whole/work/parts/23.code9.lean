/-! the instructions of the law, by program -/
theorem zq_r {α : Type} (A B : List α) (j : Nat) : (A ++ B)[A.length + j]? = B[j]? := by rw [List.getElem?_append_right (by omega)]; congr 1; omega
theorem ml_206 : zm_ml 206 = 7 := rfl
theorem ht_206 : zm_ht 206 = [] := rfl
theorem ta_0 : ∀ j : Nat, (zm_cd 206)[j]? = (zd_206_0 ++ (zd_206_1 ++ (zd_206_2 ++ (zd_206_3 ++ (zd_206_4 ++ (zd_206_5 ++ (zd_206_6 ++ (zd_206_7 ++ (zd_206_8 ++ (zd_206_9 ++ (zd_206_10 ++ (zd_206_11 ++ (zd_206_12 ++ (zd_206_13 ++ (zd_206_14 ++ (zd_206_15 ++ zd_206_16))))))))))))))))[j]? := fun j => rfl
theorem c_206_0 : (zm_cd 206)[0]? = some ((0, .new 8, 3, 7, 0, 0, 0, 0, []) : zm_E) := (ta_0 0).trans rfl
theorem c_206_1 : (zm_cd 206)[1]? = some ((3, .dup, 1, 0, 0, 0, 0, 0, []) : zm_E) := (ta_0 1).trans rfl
theorem c_206_2 : (zm_cd 206)[2]? = some ((4, .invokespecial 84, 3, 0, 0, 0, 0, 0, []) : zm_E) := (ta_0 2).trans rfl
theorem c_206_3 : (zm_cd 206)[3]? = some ((7, .astore_n 1, 1, 1, 0, 0, 0, 0, []) : zm_E) := (ta_0 3).trans rfl
theorem c_206_4 : (zm_cd 206)[4]? = some ((8, .new 85, 3, 8, 0, 0, 0, 0, []) : zm_E) := (ta_0 4).trans rfl
theorem c_206_5 : (zm_cd 206)[5]? = some ((11, .dup, 1, 0, 0, 0, 0, 0, []) : zm_E) := (ta_0 5).trans rfl
theorem c_206_6 : (zm_cd 206)[6]? = some ((12, .invokespecial 87, 3, 38, 0, 0, 0, 0, []) : zm_E) := (ta_0 6).trans rfl
theorem c_206_7 : (zm_cd 206)[7]? = some ((15, .astore_n 2, 1, 2, 0, 0, 0, 0, []) : zm_E) := (ta_0 7).trans rfl
theorem c_206_8 : (zm_cd 206)[8]? = some ((16, .iconst 1, 1, 0, 0, 0, 1, 0, []) : zm_E) := (ta_0 8).trans rfl
theorem c_206_9 : (zm_cd 206)[9]? = some ((17, .newarray .long, 2, 1, 0, 0, 0, 0, []) : zm_E) := (ta_0 9).trans rfl
theorem c_206_10 : (zm_cd 206)[10]? = some ((19, .astore_n 3, 1, 3, 0, 0, 0, 0, []) : zm_E) := (ta_0 10).trans rfl
theorem c_206_11 : (zm_cd 206)[11]? = some ((20, .iconst 0, 1, 0, 0, 0, 0, 0, []) : zm_E) := (ta_0 11).trans rfl
theorem c_206_12 : (zm_cd 206)[12]? = some ((21, .istore 4, 2, 4, 0, 0, 0, 0, []) : zm_E) := (ta_0 12).trans rfl
theorem c_206_13 : (zm_cd 206)[13]? = some ((23, .iload 4, 2, 4, 0, 0, 0, 0, []) : zm_E) := (ta_0 13).trans rfl
theorem c_206_14 : (zm_cd 206)[14]? = some ((25, .aload_n 0, 1, 0, 0, 0, 0, 0, []) : zm_E) := (ta_0 14).trans rfl
theorem c_206_15 : (zm_cd 206)[15]? = some ((26, .arraylength, 1, 0, 0, 0, 0, 0, []) : zm_E) := (ta_0 15).trans rfl
theorem c_206_16 : (zm_cd 206)[16]? = some ((27, .iconst 4, 1, 0, 0, 0, 4, 0, []) : zm_E) := (ta_0 16).trans rfl
theorem c_206_17 : (zm_cd 206)[17]? = some ((28, .isub, 1, 0, 0, 0, 0, 0, []) : zm_E) := (ta_0 17).trans rfl
theorem c_206_18 : (zm_cd 206)[18]? = some ((29, .if_icmp .gt 1629, 3, 972, 0, 0, 0, 0, []) : zm_E) := (ta_0 18).trans rfl
theorem c_206_19 : (zm_cd 206)[19]? = some ((32, .aload_n 0, 1, 0, 0, 0, 0, 0, []) : zm_E) := (ta_0 19).trans rfl
theorem c_206_20 : (zm_cd 206)[20]? = some ((33, .iload 4, 2, 4, 0, 0, 0, 0, []) : zm_E) := (ta_0 20).trans rfl
theorem c_206_21 : (zm_cd 206)[21]? = some ((35, .iaload, 1, 0, 0, 0, 0, 0, []) : zm_E) := (ta_0 21).trans rfl
theorem c_206_22 : (zm_cd 206)[22]? = some ((36, .bipush 31, 2, 0, 0, 0, 31, 0, []) : zm_E) := (ta_0 22).trans rfl
theorem c_206_23 : (zm_cd 206)[23]? = some ((38, .iand, 1, 0, 0, 0, 0, 0, []) : zm_E) := (ta_0 23).trans rfl
theorem c_206_24 : (zm_cd 206)[24]? = some ((39, .tableswitch 1613 0 28 #[129, 185, 198, 211, 255, 311, 379, 447, 503, 571, 639, 683, 763, 831, 887, 900, 956, 969, 1013, 1054, 1095, 1108, 1164, 1177, 1233, 1301, 1401, 1501, 1557], 129, 970, 0, 0, 0, 0, [25, 60, 67, 74, 99, 134, 179, 224, 259, 304, 349, 374, 429, 474, 509, 516, 551, 558, 583, 608, 633, 640, 675, 682, 717, 762, 831, 900, 935]) : zm_E) := (ta_0 24).trans rfl
theorem c_206_25 : (zm_cd 206)[25]? = some ((168, .aload_n 1, 1, 1, 0, 0, 0, 0, []) : zm_E) := (ta_0 25).trans rfl
theorem c_206_26 : (zm_cd 206)[26]? = some ((169, .aload_n 0, 1, 0, 0, 0, 0, 0, []) : zm_E) := (ta_0 26).trans rfl
theorem c_206_27 : (zm_cd 206)[27]? = some ((170, .iload 4, 2, 4, 0, 0, 0, 0, []) : zm_E) := (ta_0 27).trans rfl
theorem c_206_28 : (zm_cd 206)[28]? = some ((172, .iconst 1, 1, 0, 0, 0, 1, 0, []) : zm_E) := (ta_0 28).trans rfl
theorem c_206_29 : (zm_cd 206)[29]? = some ((173, .iadd, 1, 0, 0, 0, 0, 0, []) : zm_E) := (ta_0 29).trans rfl
theorem c_206_30 : (zm_cd 206)[30]? = some ((174, .iaload, 1, 0, 0, 0, 0, 0, []) : zm_E) := (ta_0 30).trans rfl
theorem c_206_31 : (zm_cd 206)[31]? = some ((175, .aload_n 3, 1, 3, 0, 0, 0, 0, []) : zm_E) := (ta_0 31).trans rfl
theorem c_206_32 : (zm_cd 206)[32]? = some ((176, .invokestatic 88, 3, 185, 3, 1, 0, 0, []) : zm_E) := (ta_0 32).trans rfl
theorem c_206_33 : (zm_cd 206)[33]? = some ((179, .istore 5, 2, 5, 0, 0, 0, 0, []) : zm_E) := (ta_0 33).trans rfl
theorem c_206_34 : (zm_cd 206)[34]? = some ((181, .aload_n 2, 1, 2, 0, 0, 0, 0, []) : zm_E) := (ta_0 34).trans rfl
theorem c_206_35 : (zm_cd 206)[35]? = some ((182, .aload_n 0, 1, 0, 0, 0, 0, 0, []) : zm_E) := (ta_0 35).trans rfl
theorem c_206_36 : (zm_cd 206)[36]? = some ((183, .iload 4, 2, 4, 0, 0, 0, 0, []) : zm_E) := (ta_0 36).trans rfl
theorem c_206_37 : (zm_cd 206)[37]? = some ((185, .iconst 1, 1, 0, 0, 0, 1, 0, []) : zm_E) := (ta_0 37).trans rfl
theorem c_206_38 : (zm_cd 206)[38]? = some ((186, .iadd, 1, 0, 0, 0, 0, 0, []) : zm_E) := (ta_0 38).trans rfl
theorem c_206_39 : (zm_cd 206)[39]? = some ((187, .iaload, 1, 0, 0, 0, 0, 0, []) : zm_E) := (ta_0 39).trans rfl
theorem c_206_40 : (zm_cd 206)[40]? = some ((188, .invokevirtual 93, 3, 57, 1, 1, 0, 0, [8]) : zm_E) := (ta_0 40).trans rfl
theorem c_206_41 : (zm_cd 206)[41]? = some ((191, .istore 6, 2, 6, 0, 0, 0, 0, []) : zm_E) := (ta_0 41).trans rfl
theorem c_206_42 : (zm_cd 206)[42]? = some ((193, .aload_n 2, 1, 2, 0, 0, 0, 0, []) : zm_E) := (ta_0 42).trans rfl
theorem c_206_43 : (zm_cd 206)[43]? = some ((194, .invokevirtual 94, 3, 39, 0, 1, 0, 0, [8]) : zm_E) := (ta_0 43).trans rfl
theorem c_206_44 : (zm_cd 206)[44]? = some ((197, .iload 5, 2, 5, 0, 0, 0, 0, []) : zm_E) := (ta_0 44).trans rfl
theorem c_206_45 : (zm_cd 206)[45]? = some ((199, .if_icmp .eq 5, 3, 48, 0, 0, 0, 0, []) : zm_E) := (ta_0 45).trans rfl
theorem c_206_46 : (zm_cd 206)[46]? = some ((202, .iconst 0, 1, 0, 0, 0, 0, 0, []) : zm_E) := (ta_0 46).trans rfl
theorem c_206_47 : (zm_cd 206)[47]? = some ((203, .ireturn, 1, 1, 0, 0, 0, 0, []) : zm_E) := (ta_0 47).trans rfl
theorem c_206_48 : (zm_cd 206)[48]? = some ((204, .iload 5, 2, 5, 0, 0, 0, 0, []) : zm_E) := (ta_0 48).trans rfl
theorem c_206_49 : (zm_cd 206)[49]? = some ((206, .ifCond .ne 15, 3, 59, 0, 0, 0, 0, []) : zm_E) := (ta_0 49).trans rfl
theorem c_206_50 : (zm_cd 206)[50]? = some ((209, .aload_n 3, 1, 3, 0, 0, 0, 0, []) : zm_E) := (ta_0 50).trans rfl
theorem c_206_51 : (zm_cd 206)[51]? = some ((210, .iconst 0, 1, 0, 0, 0, 0, 0, []) : zm_E) := (ta_0 51).trans rfl
theorem c_206_52 : (zm_cd 206)[52]? = some ((211, .laload, 1, 0, 0, 0, 0, 0, []) : zm_E) := (ta_0 52).trans rfl
theorem c_206_53 : (zm_cd 206)[53]? = some ((212, .iload 6, 2, 6, 0, 0, 0, 0, []) : zm_E) := (ta_0 53).trans rfl
theorem c_206_54 : (zm_cd 206)[54]? = some ((214, .i2l, 1, 0, 0, 0, 0, 0, []) : zm_E) := (ta_0 54).trans rfl
theorem c_206_55 : (zm_cd 206)[55]? = some ((215, .lcmp, 1, 0, 0, 0, 0, 0, []) : zm_E) := (ta_0 55).trans rfl
theorem c_206_56 : (zm_cd 206)[56]? = some ((216, .ifCond .eq 5, 3, 59, 0, 0, 0, 0, []) : zm_E) := (ta_0 56).trans rfl
theorem c_206_57 : (zm_cd 206)[57]? = some ((219, .iconst 0, 1, 0, 0, 0, 0, 0, []) : zm_E) := (ta_0 57).trans rfl
theorem c_206_58 : (zm_cd 206)[58]? = some ((220, .ireturn, 1, 1, 0, 0, 0, 0, []) : zm_E) := (ta_0 58).trans rfl
theorem c_206_59 : (zm_cd 206)[59]? = some ((221, .goto 1431, 3, 970, 0, 0, 0, 0, []) : zm_E) := (ta_0 59).trans rfl
theorem ta_1 : ∀ j : Nat, (zm_cd 206)[60 + j]? = (zd_206_1 ++ (zd_206_2 ++ (zd_206_3 ++ (zd_206_4 ++ (zd_206_5 ++ (zd_206_6 ++ (zd_206_7 ++ (zd_206_8 ++ (zd_206_9 ++ (zd_206_10 ++ (zd_206_11 ++ (zd_206_12 ++ (zd_206_13 ++ (zd_206_14 ++ (zd_206_15 ++ zd_206_16)))))))))))))))[j]? := fun j => (ta_0 (60 + j)).trans (zq_r zd_206_0 _ j)
theorem c_206_60 : (zm_cd 206)[60]? = some ((224, .aload_n 1, 1, 1, 0, 0, 0, 0, []) : zm_E) := (ta_1 0).trans rfl
theorem c_206_61 : (zm_cd 206)[61]? = some ((225, .invokevirtual 97, 3, 2, 0, 1, 0, 0, [7]) : zm_E) := (ta_1 1).trans rfl
theorem c_206_62 : (zm_cd 206)[62]? = some ((228, .aload_n 2, 1, 2, 0, 0, 0, 0, []) : zm_E) := (ta_1 2).trans rfl
theorem c_206_63 : (zm_cd 206)[63]? = some ((229, .invokevirtual 100, 3, 58, 0, 1, 0, 0, [8]) : zm_E) := (ta_1 3).trans rfl
theorem c_206_64 : (zm_cd 206)[64]? = some ((232, .if_icmp .eq 1420, 3, 970, 0, 0, 0, 0, []) : zm_E) := (ta_1 4).trans rfl
theorem c_206_65 : (zm_cd 206)[65]? = some ((235, .iconst 0, 1, 0, 0, 0, 0, 0, []) : zm_E) := (ta_1 5).trans rfl
theorem c_206_66 : (zm_cd 206)[66]? = some ((236, .ireturn, 1, 1, 0, 0, 0, 0, []) : zm_E) := (ta_1 6).trans rfl
theorem c_206_67 : (zm_cd 206)[67]? = some ((237, .aload_n 1, 1, 1, 0, 0, 0, 0, []) : zm_E) := (ta_1 7).trans rfl
theorem c_206_68 : (zm_cd 206)[68]? = some ((238, .invokevirtual 101, 3, 3, 0, 1, 0, 0, [7]) : zm_E) := (ta_1 8).trans rfl
theorem c_206_69 : (zm_cd 206)[69]? = some ((241, .aload_n 2, 1, 2, 0, 0, 0, 0, []) : zm_E) := (ta_1 9).trans rfl
theorem c_206_70 : (zm_cd 206)[70]? = some ((242, .invokevirtual 104, 3, 63, 0, 1, 0, 0, [8]) : zm_E) := (ta_1 10).trans rfl
theorem c_206_71 : (zm_cd 206)[71]? = some ((245, .if_icmp .eq 1407, 3, 970, 0, 0, 0, 0, []) : zm_E) := (ta_1 11).trans rfl
theorem c_206_72 : (zm_cd 206)[72]? = some ((248, .iconst 0, 1, 0, 0, 0, 0, 0, []) : zm_E) := (ta_1 12).trans rfl
theorem c_206_73 : (zm_cd 206)[73]? = some ((249, .ireturn, 1, 1, 0, 0, 0, 0, []) : zm_E) := (ta_1 13).trans rfl
theorem c_206_74 : (zm_cd 206)[74]? = some ((250, .aload_n 1, 1, 1, 0, 0, 0, 0, []) : zm_E) := (ta_1 14).trans rfl
theorem c_206_75 : (zm_cd 206)[75]? = some ((251, .aload_n 3, 1, 3, 0, 0, 0, 0, []) : zm_E) := (ta_1 15).trans rfl
theorem c_206_76 : (zm_cd 206)[76]? = some ((252, .invokestatic 105, 3, 186, 2, 1, 0, 0, []) : zm_E) := (ta_1 16).trans rfl
theorem c_206_77 : (zm_cd 206)[77]? = some ((255, .istore 5, 2, 5, 0, 0, 0, 0, []) : zm_E) := (ta_1 17).trans rfl
theorem c_206_78 : (zm_cd 206)[78]? = some ((257, .aload_n 2, 1, 2, 0, 0, 0, 0, []) : zm_E) := (ta_1 18).trans rfl
theorem c_206_79 : (zm_cd 206)[79]? = some ((258, .invokevirtual 108, 3, 64, 0, 1, 0, 0, [8]) : zm_E) := (ta_1 19).trans rfl
theorem c_206_80 : (zm_cd 206)[80]? = some ((261, .istore 6, 2, 6, 0, 0, 0, 0, []) : zm_E) := (ta_1 20).trans rfl
theorem c_206_81 : (zm_cd 206)[81]? = some ((263, .aload_n 2, 1, 2, 0, 0, 0, 0, []) : zm_E) := (ta_1 21).trans rfl
theorem c_206_82 : (zm_cd 206)[82]? = some ((264, .invokevirtual 94, 3, 39, 0, 1, 0, 0, [8]) : zm_E) := (ta_1 22).trans rfl
theorem c_206_83 : (zm_cd 206)[83]? = some ((267, .iload 5, 2, 5, 0, 0, 0, 0, []) : zm_E) := (ta_1 23).trans rfl
theorem c_206_84 : (zm_cd 206)[84]? = some ((269, .if_icmp .eq 5, 3, 87, 0, 0, 0, 0, []) : zm_E) := (ta_1 24).trans rfl
theorem c_206_85 : (zm_cd 206)[85]? = some ((272, .iconst 0, 1, 0, 0, 0, 0, 0, []) : zm_E) := (ta_1 25).trans rfl
theorem c_206_86 : (zm_cd 206)[86]? = some ((273, .ireturn, 1, 1, 0, 0, 0, 0, []) : zm_E) := (ta_1 26).trans rfl
theorem c_206_87 : (zm_cd 206)[87]? = some ((274, .iload 5, 2, 5, 0, 0, 0, 0, []) : zm_E) := (ta_1 27).trans rfl
theorem c_206_88 : (zm_cd 206)[88]? = some ((276, .ifCond .ne 15, 3, 98, 0, 0, 0, 0, []) : zm_E) := (ta_1 28).trans rfl
theorem c_206_89 : (zm_cd 206)[89]? = some ((279, .aload_n 3, 1, 3, 0, 0, 0, 0, []) : zm_E) := (ta_1 29).trans rfl
theorem c_206_90 : (zm_cd 206)[90]? = some ((280, .iconst 0, 1, 0, 0, 0, 0, 0, []) : zm_E) := (ta_1 30).trans rfl
theorem c_206_91 : (zm_cd 206)[91]? = some ((281, .laload, 1, 0, 0, 0, 0, 0, []) : zm_E) := (ta_1 31).trans rfl
theorem c_206_92 : (zm_cd 206)[92]? = some ((282, .iload 6, 2, 6, 0, 0, 0, 0, []) : zm_E) := (ta_1 32).trans rfl
theorem c_206_93 : (zm_cd 206)[93]? = some ((284, .i2l, 1, 0, 0, 0, 0, 0, []) : zm_E) := (ta_1 33).trans rfl
theorem c_206_94 : (zm_cd 206)[94]? = some ((285, .lcmp, 1, 0, 0, 0, 0, 0, []) : zm_E) := (ta_1 34).trans rfl
theorem c_206_95 : (zm_cd 206)[95]? = some ((286, .ifCond .eq 5, 3, 98, 0, 0, 0, 0, []) : zm_E) := (ta_1 35).trans rfl
theorem c_206_96 : (zm_cd 206)[96]? = some ((289, .iconst 0, 1, 0, 0, 0, 0, 0, []) : zm_E) := (ta_1 36).trans rfl
theorem c_206_97 : (zm_cd 206)[97]? = some ((290, .ireturn, 1, 1, 0, 0, 0, 0, []) : zm_E) := (ta_1 37).trans rfl
theorem c_206_98 : (zm_cd 206)[98]? = some ((291, .goto 1361, 3, 970, 0, 0, 0, 0, []) : zm_E) := (ta_1 38).trans rfl
theorem c_206_99 : (zm_cd 206)[99]? = some ((294, .aload_n 1, 1, 1, 0, 0, 0, 0, []) : zm_E) := (ta_1 39).trans rfl
theorem c_206_100 : (zm_cd 206)[100]? = some ((295, .aload_n 0, 1, 0, 0, 0, 0, 0, []) : zm_E) := (ta_1 40).trans rfl
theorem c_206_101 : (zm_cd 206)[101]? = some ((296, .iload 4, 2, 4, 0, 0, 0, 0, []) : zm_E) := (ta_1 41).trans rfl
theorem c_206_102 : (zm_cd 206)[102]? = some ((298, .iconst 1, 1, 0, 0, 0, 1, 0, []) : zm_E) := (ta_1 42).trans rfl
theorem c_206_103 : (zm_cd 206)[103]? = some ((299, .iadd, 1, 0, 0, 0, 0, 0, []) : zm_E) := (ta_1 43).trans rfl
theorem c_206_104 : (zm_cd 206)[104]? = some ((300, .iaload, 1, 0, 0, 0, 0, 0, []) : zm_E) := (ta_1 44).trans rfl
theorem c_206_105 : (zm_cd 206)[105]? = some ((301, .aload_n 3, 1, 3, 0, 0, 0, 0, []) : zm_E) := (ta_1 45).trans rfl
theorem c_206_106 : (zm_cd 206)[106]? = some ((302, .invokestatic 109, 3, 187, 3, 1, 0, 0, []) : zm_E) := (ta_1 46).trans rfl
theorem c_206_107 : (zm_cd 206)[107]? = some ((305, .istore 5, 2, 5, 0, 0, 0, 0, []) : zm_E) := (ta_1 47).trans rfl
theorem c_206_108 : (zm_cd 206)[108]? = some ((307, .aload_n 2, 1, 2, 0, 0, 0, 0, []) : zm_E) := (ta_1 48).trans rfl
theorem c_206_109 : (zm_cd 206)[109]? = some ((308, .aload_n 0, 1, 0, 0, 0, 0, 0, []) : zm_E) := (ta_1 49).trans rfl
theorem c_206_110 : (zm_cd 206)[110]? = some ((309, .iload 4, 2, 4, 0, 0, 0, 0, []) : zm_E) := (ta_1 50).trans rfl
theorem c_206_111 : (zm_cd 206)[111]? = some ((311, .iconst 1, 1, 0, 0, 0, 1, 0, []) : zm_E) := (ta_1 51).trans rfl
theorem c_206_112 : (zm_cd 206)[112]? = some ((312, .iadd, 1, 0, 0, 0, 0, 0, []) : zm_E) := (ta_1 52).trans rfl
theorem c_206_113 : (zm_cd 206)[113]? = some ((313, .iaload, 1, 0, 0, 0, 0, 0, []) : zm_E) := (ta_1 53).trans rfl
theorem c_206_114 : (zm_cd 206)[114]? = some ((314, .invokevirtual 111, 3, 66, 1, 1, 0, 0, [8]) : zm_E) := (ta_1 54).trans rfl
theorem c_206_115 : (zm_cd 206)[115]? = some ((317, .istore 6, 2, 6, 0, 0, 0, 0, []) : zm_E) := (ta_1 55).trans rfl
theorem c_206_116 : (zm_cd 206)[116]? = some ((319, .aload_n 2, 1, 2, 0, 0, 0, 0, []) : zm_E) := (ta_1 56).trans rfl
theorem c_206_117 : (zm_cd 206)[117]? = some ((320, .invokevirtual 94, 3, 39, 0, 1, 0, 0, [8]) : zm_E) := (ta_1 57).trans rfl
theorem c_206_118 : (zm_cd 206)[118]? = some ((323, .iload 5, 2, 5, 0, 0, 0, 0, []) : zm_E) := (ta_1 58).trans rfl
theorem c_206_119 : (zm_cd 206)[119]? = some ((325, .if_icmp .eq 5, 3, 122, 0, 0, 0, 0, []) : zm_E) := (ta_1 59).trans rfl
theorem ta_2 : ∀ j : Nat, (zm_cd 206)[120 + j]? = (zd_206_2 ++ (zd_206_3 ++ (zd_206_4 ++ (zd_206_5 ++ (zd_206_6 ++ (zd_206_7 ++ (zd_206_8 ++ (zd_206_9 ++ (zd_206_10 ++ (zd_206_11 ++ (zd_206_12 ++ (zd_206_13 ++ (zd_206_14 ++ (zd_206_15 ++ zd_206_16))))))))))))))[j]? := fun j => by rw [show 120 + j = 60 + (60 + j) by omega]; exact (ta_1 (60 + j)).trans (zq_r zd_206_1 _ j)
theorem c_206_120 : (zm_cd 206)[120]? = some ((328, .iconst 0, 1, 0, 0, 0, 0, 0, []) : zm_E) := (ta_2 0).trans rfl
theorem c_206_121 : (zm_cd 206)[121]? = some ((329, .ireturn, 1, 1, 0, 0, 0, 0, []) : zm_E) := (ta_2 1).trans rfl
theorem c_206_122 : (zm_cd 206)[122]? = some ((330, .iload 5, 2, 5, 0, 0, 0, 0, []) : zm_E) := (ta_2 2).trans rfl
theorem c_206_123 : (zm_cd 206)[123]? = some ((332, .ifCond .ne 15, 3, 133, 0, 0, 0, 0, []) : zm_E) := (ta_2 3).trans rfl
theorem c_206_124 : (zm_cd 206)[124]? = some ((335, .aload_n 3, 1, 3, 0, 0, 0, 0, []) : zm_E) := (ta_2 4).trans rfl
theorem c_206_125 : (zm_cd 206)[125]? = some ((336, .iconst 0, 1, 0, 0, 0, 0, 0, []) : zm_E) := (ta_2 5).trans rfl
theorem c_206_126 : (zm_cd 206)[126]? = some ((337, .laload, 1, 0, 0, 0, 0, 0, []) : zm_E) := (ta_2 6).trans rfl
theorem c_206_127 : (zm_cd 206)[127]? = some ((338, .iload 6, 2, 6, 0, 0, 0, 0, []) : zm_E) := (ta_2 7).trans rfl
theorem c_206_128 : (zm_cd 206)[128]? = some ((340, .i2l, 1, 0, 0, 0, 0, 0, []) : zm_E) := (ta_2 8).trans rfl
theorem c_206_129 : (zm_cd 206)[129]? = some ((341, .lcmp, 1, 0, 0, 0, 0, 0, []) : zm_E) := (ta_2 9).trans rfl
theorem c_206_130 : (zm_cd 206)[130]? = some ((342, .ifCond .eq 5, 3, 133, 0, 0, 0, 0, []) : zm_E) := (ta_2 10).trans rfl
theorem c_206_131 : (zm_cd 206)[131]? = some ((345, .iconst 0, 1, 0, 0, 0, 0, 0, []) : zm_E) := (ta_2 11).trans rfl
theorem c_206_132 : (zm_cd 206)[132]? = some ((346, .ireturn, 1, 1, 0, 0, 0, 0, []) : zm_E) := (ta_2 12).trans rfl
theorem c_206_133 : (zm_cd 206)[133]? = some ((347, .goto 1305, 3, 970, 0, 0, 0, 0, []) : zm_E) := (ta_2 13).trans rfl
theorem c_206_134 : (zm_cd 206)[134]? = some ((350, .aload_n 1, 1, 1, 0, 0, 0, 0, []) : zm_E) := (ta_2 14).trans rfl
theorem c_206_135 : (zm_cd 206)[135]? = some ((351, .aload_n 0, 1, 0, 0, 0, 0, 0, []) : zm_E) := (ta_2 15).trans rfl
theorem c_206_136 : (zm_cd 206)[136]? = some ((352, .iload 4, 2, 4, 0, 0, 0, 0, []) : zm_E) := (ta_2 16).trans rfl
theorem c_206_137 : (zm_cd 206)[137]? = some ((354, .iconst 1, 1, 0, 0, 0, 1, 0, []) : zm_E) := (ta_2 17).trans rfl
theorem c_206_138 : (zm_cd 206)[138]? = some ((355, .iadd, 1, 0, 0, 0, 0, 0, []) : zm_E) := (ta_2 18).trans rfl
theorem c_206_139 : (zm_cd 206)[139]? = some ((356, .iaload, 1, 0, 0, 0, 0, 0, []) : zm_E) := (ta_2 19).trans rfl
theorem c_206_140 : (zm_cd 206)[140]? = some ((357, .aload_n 0, 1, 0, 0, 0, 0, 0, []) : zm_E) := (ta_2 20).trans rfl
theorem c_206_141 : (zm_cd 206)[141]? = some ((358, .iload 4, 2, 4, 0, 0, 0, 0, []) : zm_E) := (ta_2 21).trans rfl
theorem c_206_142 : (zm_cd 206)[142]? = some ((360, .iconst 2, 1, 0, 0, 0, 2, 0, []) : zm_E) := (ta_2 22).trans rfl
theorem c_206_143 : (zm_cd 206)[143]? = some ((361, .iadd, 1, 0, 0, 0, 0, 0, []) : zm_E) := (ta_2 23).trans rfl
theorem c_206_144 : (zm_cd 206)[144]? = some ((362, .iaload, 1, 0, 0, 0, 0, 0, []) : zm_E) := (ta_2 24).trans rfl
theorem c_206_145 : (zm_cd 206)[145]? = some ((363, .aload_n 3, 1, 3, 0, 0, 0, 0, []) : zm_E) := (ta_2 25).trans rfl
theorem c_206_146 : (zm_cd 206)[146]? = some ((364, .invokestatic 112, 3, 188, 4, 1, 0, 0, []) : zm_E) := (ta_2 26).trans rfl
theorem c_206_147 : (zm_cd 206)[147]? = some ((367, .istore 5, 2, 5, 0, 0, 0, 0, []) : zm_E) := (ta_2 27).trans rfl
theorem c_206_148 : (zm_cd 206)[148]? = some ((369, .aload_n 2, 1, 2, 0, 0, 0, 0, []) : zm_E) := (ta_2 28).trans rfl
theorem c_206_149 : (zm_cd 206)[149]? = some ((370, .aload_n 0, 1, 0, 0, 0, 0, 0, []) : zm_E) := (ta_2 29).trans rfl
theorem c_206_150 : (zm_cd 206)[150]? = some ((371, .iload 4, 2, 4, 0, 0, 0, 0, []) : zm_E) := (ta_2 30).trans rfl
theorem c_206_151 : (zm_cd 206)[151]? = some ((373, .iconst 1, 1, 0, 0, 0, 1, 0, []) : zm_E) := (ta_2 31).trans rfl
theorem c_206_152 : (zm_cd 206)[152]? = some ((374, .iadd, 1, 0, 0, 0, 0, 0, []) : zm_E) := (ta_2 32).trans rfl
theorem c_206_153 : (zm_cd 206)[153]? = some ((375, .iaload, 1, 0, 0, 0, 0, 0, []) : zm_E) := (ta_2 33).trans rfl
theorem c_206_154 : (zm_cd 206)[154]? = some ((376, .aload_n 0, 1, 0, 0, 0, 0, 0, []) : zm_E) := (ta_2 34).trans rfl
theorem c_206_155 : (zm_cd 206)[155]? = some ((377, .iload 4, 2, 4, 0, 0, 0, 0, []) : zm_E) := (ta_2 35).trans rfl
theorem c_206_156 : (zm_cd 206)[156]? = some ((379, .iconst 2, 1, 0, 0, 0, 2, 0, []) : zm_E) := (ta_2 36).trans rfl
theorem c_206_157 : (zm_cd 206)[157]? = some ((380, .iadd, 1, 0, 0, 0, 0, 0, []) : zm_E) := (ta_2 37).trans rfl
theorem c_206_158 : (zm_cd 206)[158]? = some ((381, .iaload, 1, 0, 0, 0, 0, 0, []) : zm_E) := (ta_2 38).trans rfl
theorem c_206_159 : (zm_cd 206)[159]? = some ((382, .invokevirtual 115, 3, 67, 2, 1, 0, 0, [8]) : zm_E) := (ta_2 39).trans rfl
theorem c_206_160 : (zm_cd 206)[160]? = some ((385, .istore 6, 2, 6, 0, 0, 0, 0, []) : zm_E) := (ta_2 40).trans rfl
theorem c_206_161 : (zm_cd 206)[161]? = some ((387, .aload_n 2, 1, 2, 0, 0, 0, 0, []) : zm_E) := (ta_2 41).trans rfl
theorem c_206_162 : (zm_cd 206)[162]? = some ((388, .invokevirtual 94, 3, 39, 0, 1, 0, 0, [8]) : zm_E) := (ta_2 42).trans rfl
theorem c_206_163 : (zm_cd 206)[163]? = some ((391, .iload 5, 2, 5, 0, 0, 0, 0, []) : zm_E) := (ta_2 43).trans rfl
theorem c_206_164 : (zm_cd 206)[164]? = some ((393, .if_icmp .eq 5, 3, 167, 0, 0, 0, 0, []) : zm_E) := (ta_2 44).trans rfl
theorem c_206_165 : (zm_cd 206)[165]? = some ((396, .iconst 0, 1, 0, 0, 0, 0, 0, []) : zm_E) := (ta_2 45).trans rfl
theorem c_206_166 : (zm_cd 206)[166]? = some ((397, .ireturn, 1, 1, 0, 0, 0, 0, []) : zm_E) := (ta_2 46).trans rfl
theorem c_206_167 : (zm_cd 206)[167]? = some ((398, .iload 5, 2, 5, 0, 0, 0, 0, []) : zm_E) := (ta_2 47).trans rfl
theorem c_206_168 : (zm_cd 206)[168]? = some ((400, .ifCond .ne 15, 3, 178, 0, 0, 0, 0, []) : zm_E) := (ta_2 48).trans rfl
theorem c_206_169 : (zm_cd 206)[169]? = some ((403, .aload_n 3, 1, 3, 0, 0, 0, 0, []) : zm_E) := (ta_2 49).trans rfl
theorem c_206_170 : (zm_cd 206)[170]? = some ((404, .iconst 0, 1, 0, 0, 0, 0, 0, []) : zm_E) := (ta_2 50).trans rfl
theorem c_206_171 : (zm_cd 206)[171]? = some ((405, .laload, 1, 0, 0, 0, 0, 0, []) : zm_E) := (ta_2 51).trans rfl
theorem c_206_172 : (zm_cd 206)[172]? = some ((406, .iload 6, 2, 6, 0, 0, 0, 0, []) : zm_E) := (ta_2 52).trans rfl
theorem c_206_173 : (zm_cd 206)[173]? = some ((408, .i2l, 1, 0, 0, 0, 0, 0, []) : zm_E) := (ta_2 53).trans rfl
theorem c_206_174 : (zm_cd 206)[174]? = some ((409, .lcmp, 1, 0, 0, 0, 0, 0, []) : zm_E) := (ta_2 54).trans rfl
theorem c_206_175 : (zm_cd 206)[175]? = some ((410, .ifCond .eq 5, 3, 178, 0, 0, 0, 0, []) : zm_E) := (ta_2 55).trans rfl
theorem c_206_176 : (zm_cd 206)[176]? = some ((413, .iconst 0, 1, 0, 0, 0, 0, 0, []) : zm_E) := (ta_2 56).trans rfl
theorem c_206_177 : (zm_cd 206)[177]? = some ((414, .ireturn, 1, 1, 0, 0, 0, 0, []) : zm_E) := (ta_2 57).trans rfl
theorem c_206_178 : (zm_cd 206)[178]? = some ((415, .goto 1237, 3, 970, 0, 0, 0, 0, []) : zm_E) := (ta_2 58).trans rfl
theorem c_206_179 : (zm_cd 206)[179]? = some ((418, .aload_n 1, 1, 1, 0, 0, 0, 0, []) : zm_E) := (ta_2 59).trans rfl
theorem ta_3 : ∀ j : Nat, (zm_cd 206)[180 + j]? = (zd_206_3 ++ (zd_206_4 ++ (zd_206_5 ++ (zd_206_6 ++ (zd_206_7 ++ (zd_206_8 ++ (zd_206_9 ++ (zd_206_10 ++ (zd_206_11 ++ (zd_206_12 ++ (zd_206_13 ++ (zd_206_14 ++ (zd_206_15 ++ zd_206_16)))))))))))))[j]? := fun j => by rw [show 180 + j = 120 + (60 + j) by omega]; exact (ta_2 (60 + j)).trans (zq_r zd_206_2 _ j)
theorem c_206_180 : (zm_cd 206)[180]? = some ((419, .aload_n 0, 1, 0, 0, 0, 0, 0, []) : zm_E) := (ta_3 0).trans rfl
theorem c_206_181 : (zm_cd 206)[181]? = some ((420, .iload 4, 2, 4, 0, 0, 0, 0, []) : zm_E) := (ta_3 1).trans rfl
theorem c_206_182 : (zm_cd 206)[182]? = some ((422, .iconst 1, 1, 0, 0, 0, 1, 0, []) : zm_E) := (ta_3 2).trans rfl
theorem c_206_183 : (zm_cd 206)[183]? = some ((423, .iadd, 1, 0, 0, 0, 0, 0, []) : zm_E) := (ta_3 3).trans rfl
theorem c_206_184 : (zm_cd 206)[184]? = some ((424, .iaload, 1, 0, 0, 0, 0, 0, []) : zm_E) := (ta_3 4).trans rfl
theorem c_206_185 : (zm_cd 206)[185]? = some ((425, .aload_n 0, 1, 0, 0, 0, 0, 0, []) : zm_E) := (ta_3 5).trans rfl
theorem c_206_186 : (zm_cd 206)[186]? = some ((426, .iload 4, 2, 4, 0, 0, 0, 0, []) : zm_E) := (ta_3 6).trans rfl
theorem c_206_187 : (zm_cd 206)[187]? = some ((428, .iconst 2, 1, 0, 0, 0, 2, 0, []) : zm_E) := (ta_3 7).trans rfl
theorem c_206_188 : (zm_cd 206)[188]? = some ((429, .iadd, 1, 0, 0, 0, 0, 0, []) : zm_E) := (ta_3 8).trans rfl
theorem c_206_189 : (zm_cd 206)[189]? = some ((430, .iaload, 1, 0, 0, 0, 0, 0, []) : zm_E) := (ta_3 9).trans rfl
theorem c_206_190 : (zm_cd 206)[190]? = some ((431, .aload_n 3, 1, 3, 0, 0, 0, 0, []) : zm_E) := (ta_3 10).trans rfl
theorem c_206_191 : (zm_cd 206)[191]? = some ((432, .invokestatic 116, 3, 189, 4, 1, 0, 0, []) : zm_E) := (ta_3 11).trans rfl
theorem c_206_192 : (zm_cd 206)[192]? = some ((435, .istore 5, 2, 5, 0, 0, 0, 0, []) : zm_E) := (ta_3 12).trans rfl
theorem c_206_193 : (zm_cd 206)[193]? = some ((437, .aload_n 2, 1, 2, 0, 0, 0, 0, []) : zm_E) := (ta_3 13).trans rfl
theorem c_206_194 : (zm_cd 206)[194]? = some ((438, .aload_n 0, 1, 0, 0, 0, 0, 0, []) : zm_E) := (ta_3 14).trans rfl
theorem c_206_195 : (zm_cd 206)[195]? = some ((439, .iload 4, 2, 4, 0, 0, 0, 0, []) : zm_E) := (ta_3 15).trans rfl
theorem c_206_196 : (zm_cd 206)[196]? = some ((441, .iconst 1, 1, 0, 0, 0, 1, 0, []) : zm_E) := (ta_3 16).trans rfl
theorem c_206_197 : (zm_cd 206)[197]? = some ((442, .iadd, 1, 0, 0, 0, 0, 0, []) : zm_E) := (ta_3 17).trans rfl
theorem c_206_198 : (zm_cd 206)[198]? = some ((443, .iaload, 1, 0, 0, 0, 0, 0, []) : zm_E) := (ta_3 18).trans rfl
theorem c_206_199 : (zm_cd 206)[199]? = some ((444, .aload_n 0, 1, 0, 0, 0, 0, 0, []) : zm_E) := (ta_3 19).trans rfl
theorem c_206_200 : (zm_cd 206)[200]? = some ((445, .iload 4, 2, 4, 0, 0, 0, 0, []) : zm_E) := (ta_3 20).trans rfl
theorem c_206_201 : (zm_cd 206)[201]? = some ((447, .iconst 2, 1, 0, 0, 0, 2, 0, []) : zm_E) := (ta_3 21).trans rfl
theorem c_206_202 : (zm_cd 206)[202]? = some ((448, .iadd, 1, 0, 0, 0, 0, 0, []) : zm_E) := (ta_3 22).trans rfl
theorem c_206_203 : (zm_cd 206)[203]? = some ((449, .iaload, 1, 0, 0, 0, 0, 0, []) : zm_E) := (ta_3 23).trans rfl
theorem c_206_204 : (zm_cd 206)[204]? = some ((450, .invokevirtual 118, 3, 68, 2, 1, 0, 0, [8]) : zm_E) := (ta_3 24).trans rfl
theorem c_206_205 : (zm_cd 206)[205]? = some ((453, .istore 6, 2, 6, 0, 0, 0, 0, []) : zm_E) := (ta_3 25).trans rfl
theorem c_206_206 : (zm_cd 206)[206]? = some ((455, .aload_n 2, 1, 2, 0, 0, 0, 0, []) : zm_E) := (ta_3 26).trans rfl
theorem c_206_207 : (zm_cd 206)[207]? = some ((456, .invokevirtual 94, 3, 39, 0, 1, 0, 0, [8]) : zm_E) := (ta_3 27).trans rfl
theorem c_206_208 : (zm_cd 206)[208]? = some ((459, .iload 5, 2, 5, 0, 0, 0, 0, []) : zm_E) := (ta_3 28).trans rfl
theorem c_206_209 : (zm_cd 206)[209]? = some ((461, .if_icmp .eq 5, 3, 212, 0, 0, 0, 0, []) : zm_E) := (ta_3 29).trans rfl
theorem c_206_210 : (zm_cd 206)[210]? = some ((464, .iconst 0, 1, 0, 0, 0, 0, 0, []) : zm_E) := (ta_3 30).trans rfl
theorem c_206_211 : (zm_cd 206)[211]? = some ((465, .ireturn, 1, 1, 0, 0, 0, 0, []) : zm_E) := (ta_3 31).trans rfl
theorem c_206_212 : (zm_cd 206)[212]? = some ((466, .iload 5, 2, 5, 0, 0, 0, 0, []) : zm_E) := (ta_3 32).trans rfl
theorem c_206_213 : (zm_cd 206)[213]? = some ((468, .ifCond .ne 15, 3, 223, 0, 0, 0, 0, []) : zm_E) := (ta_3 33).trans rfl
theorem c_206_214 : (zm_cd 206)[214]? = some ((471, .aload_n 3, 1, 3, 0, 0, 0, 0, []) : zm_E) := (ta_3 34).trans rfl
theorem c_206_215 : (zm_cd 206)[215]? = some ((472, .iconst 0, 1, 0, 0, 0, 0, 0, []) : zm_E) := (ta_3 35).trans rfl
theorem c_206_216 : (zm_cd 206)[216]? = some ((473, .laload, 1, 0, 0, 0, 0, 0, []) : zm_E) := (ta_3 36).trans rfl
theorem c_206_217 : (zm_cd 206)[217]? = some ((474, .iload 6, 2, 6, 0, 0, 0, 0, []) : zm_E) := (ta_3 37).trans rfl
theorem c_206_218 : (zm_cd 206)[218]? = some ((476, .i2l, 1, 0, 0, 0, 0, 0, []) : zm_E) := (ta_3 38).trans rfl
theorem c_206_219 : (zm_cd 206)[219]? = some ((477, .lcmp, 1, 0, 0, 0, 0, 0, []) : zm_E) := (ta_3 39).trans rfl
theorem c_206_220 : (zm_cd 206)[220]? = some ((478, .ifCond .eq 5, 3, 223, 0, 0, 0, 0, []) : zm_E) := (ta_3 40).trans rfl
theorem c_206_221 : (zm_cd 206)[221]? = some ((481, .iconst 0, 1, 0, 0, 0, 0, 0, []) : zm_E) := (ta_3 41).trans rfl
theorem c_206_222 : (zm_cd 206)[222]? = some ((482, .ireturn, 1, 1, 0, 0, 0, 0, []) : zm_E) := (ta_3 42).trans rfl
theorem c_206_223 : (zm_cd 206)[223]? = some ((483, .goto 1169, 3, 970, 0, 0, 0, 0, []) : zm_E) := (ta_3 43).trans rfl
theorem c_206_224 : (zm_cd 206)[224]? = some ((486, .aload_n 1, 1, 1, 0, 0, 0, 0, []) : zm_E) := (ta_3 44).trans rfl
theorem c_206_225 : (zm_cd 206)[225]? = some ((487, .aload_n 0, 1, 0, 0, 0, 0, 0, []) : zm_E) := (ta_3 45).trans rfl
theorem c_206_226 : (zm_cd 206)[226]? = some ((488, .iload 4, 2, 4, 0, 0, 0, 0, []) : zm_E) := (ta_3 46).trans rfl
theorem c_206_227 : (zm_cd 206)[227]? = some ((490, .iconst 1, 1, 0, 0, 0, 1, 0, []) : zm_E) := (ta_3 47).trans rfl
theorem c_206_228 : (zm_cd 206)[228]? = some ((491, .iadd, 1, 0, 0, 0, 0, 0, []) : zm_E) := (ta_3 48).trans rfl
theorem c_206_229 : (zm_cd 206)[229]? = some ((492, .iaload, 1, 0, 0, 0, 0, 0, []) : zm_E) := (ta_3 49).trans rfl
theorem c_206_230 : (zm_cd 206)[230]? = some ((493, .aload_n 3, 1, 3, 0, 0, 0, 0, []) : zm_E) := (ta_3 50).trans rfl
theorem c_206_231 : (zm_cd 206)[231]? = some ((494, .invokestatic 119, 3, 190, 3, 1, 0, 0, []) : zm_E) := (ta_3 51).trans rfl
theorem c_206_232 : (zm_cd 206)[232]? = some ((497, .istore 5, 2, 5, 0, 0, 0, 0, []) : zm_E) := (ta_3 52).trans rfl
theorem c_206_233 : (zm_cd 206)[233]? = some ((499, .aload_n 2, 1, 2, 0, 0, 0, 0, []) : zm_E) := (ta_3 53).trans rfl
theorem c_206_234 : (zm_cd 206)[234]? = some ((500, .aload_n 0, 1, 0, 0, 0, 0, 0, []) : zm_E) := (ta_3 54).trans rfl
theorem c_206_235 : (zm_cd 206)[235]? = some ((501, .iload 4, 2, 4, 0, 0, 0, 0, []) : zm_E) := (ta_3 55).trans rfl
theorem c_206_236 : (zm_cd 206)[236]? = some ((503, .iconst 1, 1, 0, 0, 0, 1, 0, []) : zm_E) := (ta_3 56).trans rfl
theorem c_206_237 : (zm_cd 206)[237]? = some ((504, .iadd, 1, 0, 0, 0, 0, 0, []) : zm_E) := (ta_3 57).trans rfl
theorem c_206_238 : (zm_cd 206)[238]? = some ((505, .iaload, 1, 0, 0, 0, 0, 0, []) : zm_E) := (ta_3 58).trans rfl
theorem c_206_239 : (zm_cd 206)[239]? = some ((506, .invokevirtual 121, 3, 69, 1, 1, 0, 0, [8]) : zm_E) := (ta_3 59).trans rfl
theorem ta_4 : ∀ j : Nat, (zm_cd 206)[240 + j]? = (zd_206_4 ++ (zd_206_5 ++ (zd_206_6 ++ (zd_206_7 ++ (zd_206_8 ++ (zd_206_9 ++ (zd_206_10 ++ (zd_206_11 ++ (zd_206_12 ++ (zd_206_13 ++ (zd_206_14 ++ (zd_206_15 ++ zd_206_16))))))))))))[j]? := fun j => by rw [show 240 + j = 180 + (60 + j) by omega]; exact (ta_3 (60 + j)).trans (zq_r zd_206_3 _ j)
theorem c_206_240 : (zm_cd 206)[240]? = some ((509, .istore 6, 2, 6, 0, 0, 0, 0, []) : zm_E) := (ta_4 0).trans rfl
theorem c_206_241 : (zm_cd 206)[241]? = some ((511, .aload_n 2, 1, 2, 0, 0, 0, 0, []) : zm_E) := (ta_4 1).trans rfl
theorem c_206_242 : (zm_cd 206)[242]? = some ((512, .invokevirtual 94, 3, 39, 0, 1, 0, 0, [8]) : zm_E) := (ta_4 2).trans rfl
theorem c_206_243 : (zm_cd 206)[243]? = some ((515, .iload 5, 2, 5, 0, 0, 0, 0, []) : zm_E) := (ta_4 3).trans rfl
theorem c_206_244 : (zm_cd 206)[244]? = some ((517, .if_icmp .eq 5, 3, 247, 0, 0, 0, 0, []) : zm_E) := (ta_4 4).trans rfl
theorem c_206_245 : (zm_cd 206)[245]? = some ((520, .iconst 0, 1, 0, 0, 0, 0, 0, []) : zm_E) := (ta_4 5).trans rfl
theorem c_206_246 : (zm_cd 206)[246]? = some ((521, .ireturn, 1, 1, 0, 0, 0, 0, []) : zm_E) := (ta_4 6).trans rfl
theorem c_206_247 : (zm_cd 206)[247]? = some ((522, .iload 5, 2, 5, 0, 0, 0, 0, []) : zm_E) := (ta_4 7).trans rfl
theorem c_206_248 : (zm_cd 206)[248]? = some ((524, .ifCond .ne 15, 3, 258, 0, 0, 0, 0, []) : zm_E) := (ta_4 8).trans rfl
theorem c_206_249 : (zm_cd 206)[249]? = some ((527, .aload_n 3, 1, 3, 0, 0, 0, 0, []) : zm_E) := (ta_4 9).trans rfl
theorem c_206_250 : (zm_cd 206)[250]? = some ((528, .iconst 0, 1, 0, 0, 0, 0, 0, []) : zm_E) := (ta_4 10).trans rfl
theorem c_206_251 : (zm_cd 206)[251]? = some ((529, .laload, 1, 0, 0, 0, 0, 0, []) : zm_E) := (ta_4 11).trans rfl
theorem c_206_252 : (zm_cd 206)[252]? = some ((530, .iload 6, 2, 6, 0, 0, 0, 0, []) : zm_E) := (ta_4 12).trans rfl
theorem c_206_253 : (zm_cd 206)[253]? = some ((532, .i2l, 1, 0, 0, 0, 0, 0, []) : zm_E) := (ta_4 13).trans rfl
theorem c_206_254 : (zm_cd 206)[254]? = some ((533, .lcmp, 1, 0, 0, 0, 0, 0, []) : zm_E) := (ta_4 14).trans rfl
theorem c_206_255 : (zm_cd 206)[255]? = some ((534, .ifCond .eq 5, 3, 258, 0, 0, 0, 0, []) : zm_E) := (ta_4 15).trans rfl
theorem c_206_256 : (zm_cd 206)[256]? = some ((537, .iconst 0, 1, 0, 0, 0, 0, 0, []) : zm_E) := (ta_4 16).trans rfl
theorem c_206_257 : (zm_cd 206)[257]? = some ((538, .ireturn, 1, 1, 0, 0, 0, 0, []) : zm_E) := (ta_4 17).trans rfl
theorem c_206_258 : (zm_cd 206)[258]? = some ((539, .goto 1113, 3, 970, 0, 0, 0, 0, []) : zm_E) := (ta_4 18).trans rfl
theorem c_206_259 : (zm_cd 206)[259]? = some ((542, .aload_n 1, 1, 1, 0, 0, 0, 0, []) : zm_E) := (ta_4 19).trans rfl
theorem c_206_260 : (zm_cd 206)[260]? = some ((543, .aload_n 0, 1, 0, 0, 0, 0, 0, []) : zm_E) := (ta_4 20).trans rfl
theorem c_206_261 : (zm_cd 206)[261]? = some ((544, .iload 4, 2, 4, 0, 0, 0, 0, []) : zm_E) := (ta_4 21).trans rfl
theorem c_206_262 : (zm_cd 206)[262]? = some ((546, .iconst 1, 1, 0, 0, 0, 1, 0, []) : zm_E) := (ta_4 22).trans rfl
theorem c_206_263 : (zm_cd 206)[263]? = some ((547, .iadd, 1, 0, 0, 0, 0, 0, []) : zm_E) := (ta_4 23).trans rfl
theorem c_206_264 : (zm_cd 206)[264]? = some ((548, .iaload, 1, 0, 0, 0, 0, 0, []) : zm_E) := (ta_4 24).trans rfl
theorem c_206_265 : (zm_cd 206)[265]? = some ((549, .aload_n 0, 1, 0, 0, 0, 0, 0, []) : zm_E) := (ta_4 25).trans rfl
theorem c_206_266 : (zm_cd 206)[266]? = some ((550, .iload 4, 2, 4, 0, 0, 0, 0, []) : zm_E) := (ta_4 26).trans rfl
theorem c_206_267 : (zm_cd 206)[267]? = some ((552, .iconst 2, 1, 0, 0, 0, 2, 0, []) : zm_E) := (ta_4 27).trans rfl
theorem c_206_268 : (zm_cd 206)[268]? = some ((553, .iadd, 1, 0, 0, 0, 0, 0, []) : zm_E) := (ta_4 28).trans rfl
theorem c_206_269 : (zm_cd 206)[269]? = some ((554, .iaload, 1, 0, 0, 0, 0, 0, []) : zm_E) := (ta_4 29).trans rfl
theorem c_206_270 : (zm_cd 206)[270]? = some ((555, .aload_n 3, 1, 3, 0, 0, 0, 0, []) : zm_E) := (ta_4 30).trans rfl
theorem c_206_271 : (zm_cd 206)[271]? = some ((556, .invokestatic 122, 3, 191, 4, 1, 0, 0, []) : zm_E) := (ta_4 31).trans rfl
theorem c_206_272 : (zm_cd 206)[272]? = some ((559, .istore 5, 2, 5, 0, 0, 0, 0, []) : zm_E) := (ta_4 32).trans rfl
theorem c_206_273 : (zm_cd 206)[273]? = some ((561, .aload_n 2, 1, 2, 0, 0, 0, 0, []) : zm_E) := (ta_4 33).trans rfl
theorem c_206_274 : (zm_cd 206)[274]? = some ((562, .aload_n 0, 1, 0, 0, 0, 0, 0, []) : zm_E) := (ta_4 34).trans rfl
theorem c_206_275 : (zm_cd 206)[275]? = some ((563, .iload 4, 2, 4, 0, 0, 0, 0, []) : zm_E) := (ta_4 35).trans rfl
theorem c_206_276 : (zm_cd 206)[276]? = some ((565, .iconst 1, 1, 0, 0, 0, 1, 0, []) : zm_E) := (ta_4 36).trans rfl
theorem c_206_277 : (zm_cd 206)[277]? = some ((566, .iadd, 1, 0, 0, 0, 0, 0, []) : zm_E) := (ta_4 37).trans rfl
theorem c_206_278 : (zm_cd 206)[278]? = some ((567, .iaload, 1, 0, 0, 0, 0, 0, []) : zm_E) := (ta_4 38).trans rfl
theorem c_206_279 : (zm_cd 206)[279]? = some ((568, .aload_n 0, 1, 0, 0, 0, 0, 0, []) : zm_E) := (ta_4 39).trans rfl
theorem c_206_280 : (zm_cd 206)[280]? = some ((569, .iload 4, 2, 4, 0, 0, 0, 0, []) : zm_E) := (ta_4 40).trans rfl
theorem c_206_281 : (zm_cd 206)[281]? = some ((571, .iconst 2, 1, 0, 0, 0, 2, 0, []) : zm_E) := (ta_4 41).trans rfl
theorem c_206_282 : (zm_cd 206)[282]? = some ((572, .iadd, 1, 0, 0, 0, 0, 0, []) : zm_E) := (ta_4 42).trans rfl
theorem c_206_283 : (zm_cd 206)[283]? = some ((573, .iaload, 1, 0, 0, 0, 0, 0, []) : zm_E) := (ta_4 43).trans rfl
theorem c_206_284 : (zm_cd 206)[284]? = some ((574, .invokevirtual 124, 3, 70, 2, 1, 0, 0, [8]) : zm_E) := (ta_4 44).trans rfl
theorem c_206_285 : (zm_cd 206)[285]? = some ((577, .istore 6, 2, 6, 0, 0, 0, 0, []) : zm_E) := (ta_4 45).trans rfl
theorem c_206_286 : (zm_cd 206)[286]? = some ((579, .aload_n 2, 1, 2, 0, 0, 0, 0, []) : zm_E) := (ta_4 46).trans rfl
theorem c_206_287 : (zm_cd 206)[287]? = some ((580, .invokevirtual 94, 3, 39, 0, 1, 0, 0, [8]) : zm_E) := (ta_4 47).trans rfl
theorem c_206_288 : (zm_cd 206)[288]? = some ((583, .iload 5, 2, 5, 0, 0, 0, 0, []) : zm_E) := (ta_4 48).trans rfl
theorem c_206_289 : (zm_cd 206)[289]? = some ((585, .if_icmp .eq 5, 3, 292, 0, 0, 0, 0, []) : zm_E) := (ta_4 49).trans rfl
theorem c_206_290 : (zm_cd 206)[290]? = some ((588, .iconst 0, 1, 0, 0, 0, 0, 0, []) : zm_E) := (ta_4 50).trans rfl
theorem c_206_291 : (zm_cd 206)[291]? = some ((589, .ireturn, 1, 1, 0, 0, 0, 0, []) : zm_E) := (ta_4 51).trans rfl
theorem c_206_292 : (zm_cd 206)[292]? = some ((590, .iload 5, 2, 5, 0, 0, 0, 0, []) : zm_E) := (ta_4 52).trans rfl
theorem c_206_293 : (zm_cd 206)[293]? = some ((592, .ifCond .ne 15, 3, 303, 0, 0, 0, 0, []) : zm_E) := (ta_4 53).trans rfl
theorem c_206_294 : (zm_cd 206)[294]? = some ((595, .aload_n 3, 1, 3, 0, 0, 0, 0, []) : zm_E) := (ta_4 54).trans rfl
theorem c_206_295 : (zm_cd 206)[295]? = some ((596, .iconst 0, 1, 0, 0, 0, 0, 0, []) : zm_E) := (ta_4 55).trans rfl
theorem c_206_296 : (zm_cd 206)[296]? = some ((597, .laload, 1, 0, 0, 0, 0, 0, []) : zm_E) := (ta_4 56).trans rfl
theorem c_206_297 : (zm_cd 206)[297]? = some ((598, .iload 6, 2, 6, 0, 0, 0, 0, []) : zm_E) := (ta_4 57).trans rfl
theorem c_206_298 : (zm_cd 206)[298]? = some ((600, .i2l, 1, 0, 0, 0, 0, 0, []) : zm_E) := (ta_4 58).trans rfl
theorem c_206_299 : (zm_cd 206)[299]? = some ((601, .lcmp, 1, 0, 0, 0, 0, 0, []) : zm_E) := (ta_4 59).trans rfl
theorem ta_5 : ∀ j : Nat, (zm_cd 206)[300 + j]? = (zd_206_5 ++ (zd_206_6 ++ (zd_206_7 ++ (zd_206_8 ++ (zd_206_9 ++ (zd_206_10 ++ (zd_206_11 ++ (zd_206_12 ++ (zd_206_13 ++ (zd_206_14 ++ (zd_206_15 ++ zd_206_16)))))))))))[j]? := fun j => by rw [show 300 + j = 240 + (60 + j) by omega]; exact (ta_4 (60 + j)).trans (zq_r zd_206_4 _ j)
theorem c_206_300 : (zm_cd 206)[300]? = some ((602, .ifCond .eq 5, 3, 303, 0, 0, 0, 0, []) : zm_E) := (ta_5 0).trans rfl
theorem c_206_301 : (zm_cd 206)[301]? = some ((605, .iconst 0, 1, 0, 0, 0, 0, 0, []) : zm_E) := (ta_5 1).trans rfl
theorem c_206_302 : (zm_cd 206)[302]? = some ((606, .ireturn, 1, 1, 0, 0, 0, 0, []) : zm_E) := (ta_5 2).trans rfl
theorem c_206_303 : (zm_cd 206)[303]? = some ((607, .goto 1045, 3, 970, 0, 0, 0, 0, []) : zm_E) := (ta_5 3).trans rfl
theorem c_206_304 : (zm_cd 206)[304]? = some ((610, .aload_n 1, 1, 1, 0, 0, 0, 0, []) : zm_E) := (ta_5 4).trans rfl
theorem c_206_305 : (zm_cd 206)[305]? = some ((611, .aload_n 0, 1, 0, 0, 0, 0, 0, []) : zm_E) := (ta_5 5).trans rfl
theorem c_206_306 : (zm_cd 206)[306]? = some ((612, .iload 4, 2, 4, 0, 0, 0, 0, []) : zm_E) := (ta_5 6).trans rfl
theorem c_206_307 : (zm_cd 206)[307]? = some ((614, .iconst 1, 1, 0, 0, 0, 1, 0, []) : zm_E) := (ta_5 7).trans rfl
theorem c_206_308 : (zm_cd 206)[308]? = some ((615, .iadd, 1, 0, 0, 0, 0, 0, []) : zm_E) := (ta_5 8).trans rfl
theorem c_206_309 : (zm_cd 206)[309]? = some ((616, .iaload, 1, 0, 0, 0, 0, 0, []) : zm_E) := (ta_5 9).trans rfl
theorem c_206_310 : (zm_cd 206)[310]? = some ((617, .aload_n 0, 1, 0, 0, 0, 0, 0, []) : zm_E) := (ta_5 10).trans rfl
theorem c_206_311 : (zm_cd 206)[311]? = some ((618, .iload 4, 2, 4, 0, 0, 0, 0, []) : zm_E) := (ta_5 11).trans rfl
theorem c_206_312 : (zm_cd 206)[312]? = some ((620, .iconst 2, 1, 0, 0, 0, 2, 0, []) : zm_E) := (ta_5 12).trans rfl
theorem c_206_313 : (zm_cd 206)[313]? = some ((621, .iadd, 1, 0, 0, 0, 0, 0, []) : zm_E) := (ta_5 13).trans rfl
theorem c_206_314 : (zm_cd 206)[314]? = some ((622, .iaload, 1, 0, 0, 0, 0, 0, []) : zm_E) := (ta_5 14).trans rfl
theorem c_206_315 : (zm_cd 206)[315]? = some ((623, .aload_n 3, 1, 3, 0, 0, 0, 0, []) : zm_E) := (ta_5 15).trans rfl
theorem c_206_316 : (zm_cd 206)[316]? = some ((624, .invokestatic 125, 3, 192, 4, 1, 0, 0, []) : zm_E) := (ta_5 16).trans rfl
theorem c_206_317 : (zm_cd 206)[317]? = some ((627, .istore 5, 2, 5, 0, 0, 0, 0, []) : zm_E) := (ta_5 17).trans rfl
theorem c_206_318 : (zm_cd 206)[318]? = some ((629, .aload_n 2, 1, 2, 0, 0, 0, 0, []) : zm_E) := (ta_5 18).trans rfl
theorem c_206_319 : (zm_cd 206)[319]? = some ((630, .aload_n 0, 1, 0, 0, 0, 0, 0, []) : zm_E) := (ta_5 19).trans rfl
theorem c_206_320 : (zm_cd 206)[320]? = some ((631, .iload 4, 2, 4, 0, 0, 0, 0, []) : zm_E) := (ta_5 20).trans rfl
theorem c_206_321 : (zm_cd 206)[321]? = some ((633, .iconst 1, 1, 0, 0, 0, 1, 0, []) : zm_E) := (ta_5 21).trans rfl
theorem c_206_322 : (zm_cd 206)[322]? = some ((634, .iadd, 1, 0, 0, 0, 0, 0, []) : zm_E) := (ta_5 22).trans rfl
theorem c_206_323 : (zm_cd 206)[323]? = some ((635, .iaload, 1, 0, 0, 0, 0, 0, []) : zm_E) := (ta_5 23).trans rfl
theorem c_206_324 : (zm_cd 206)[324]? = some ((636, .aload_n 0, 1, 0, 0, 0, 0, 0, []) : zm_E) := (ta_5 24).trans rfl
theorem c_206_325 : (zm_cd 206)[325]? = some ((637, .iload 4, 2, 4, 0, 0, 0, 0, []) : zm_E) := (ta_5 25).trans rfl
theorem c_206_326 : (zm_cd 206)[326]? = some ((639, .iconst 2, 1, 0, 0, 0, 2, 0, []) : zm_E) := (ta_5 26).trans rfl
theorem c_206_327 : (zm_cd 206)[327]? = some ((640, .iadd, 1, 0, 0, 0, 0, 0, []) : zm_E) := (ta_5 27).trans rfl
theorem c_206_328 : (zm_cd 206)[328]? = some ((641, .iaload, 1, 0, 0, 0, 0, 0, []) : zm_E) := (ta_5 28).trans rfl
theorem c_206_329 : (zm_cd 206)[329]? = some ((642, .invokevirtual 127, 3, 72, 2, 1, 0, 0, [8]) : zm_E) := (ta_5 29).trans rfl
theorem c_206_330 : (zm_cd 206)[330]? = some ((645, .istore 6, 2, 6, 0, 0, 0, 0, []) : zm_E) := (ta_5 30).trans rfl
theorem c_206_331 : (zm_cd 206)[331]? = some ((647, .aload_n 2, 1, 2, 0, 0, 0, 0, []) : zm_E) := (ta_5 31).trans rfl
theorem c_206_332 : (zm_cd 206)[332]? = some ((648, .invokevirtual 94, 3, 39, 0, 1, 0, 0, [8]) : zm_E) := (ta_5 32).trans rfl
theorem c_206_333 : (zm_cd 206)[333]? = some ((651, .iload 5, 2, 5, 0, 0, 0, 0, []) : zm_E) := (ta_5 33).trans rfl
theorem c_206_334 : (zm_cd 206)[334]? = some ((653, .if_icmp .eq 5, 3, 337, 0, 0, 0, 0, []) : zm_E) := (ta_5 34).trans rfl
theorem c_206_335 : (zm_cd 206)[335]? = some ((656, .iconst 0, 1, 0, 0, 0, 0, 0, []) : zm_E) := (ta_5 35).trans rfl
theorem c_206_336 : (zm_cd 206)[336]? = some ((657, .ireturn, 1, 1, 0, 0, 0, 0, []) : zm_E) := (ta_5 36).trans rfl
theorem c_206_337 : (zm_cd 206)[337]? = some ((658, .iload 5, 2, 5, 0, 0, 0, 0, []) : zm_E) := (ta_5 37).trans rfl
theorem c_206_338 : (zm_cd 206)[338]? = some ((660, .ifCond .ne 15, 3, 348, 0, 0, 0, 0, []) : zm_E) := (ta_5 38).trans rfl
theorem c_206_339 : (zm_cd 206)[339]? = some ((663, .aload_n 3, 1, 3, 0, 0, 0, 0, []) : zm_E) := (ta_5 39).trans rfl
theorem c_206_340 : (zm_cd 206)[340]? = some ((664, .iconst 0, 1, 0, 0, 0, 0, 0, []) : zm_E) := (ta_5 40).trans rfl
theorem c_206_341 : (zm_cd 206)[341]? = some ((665, .laload, 1, 0, 0, 0, 0, 0, []) : zm_E) := (ta_5 41).trans rfl
theorem c_206_342 : (zm_cd 206)[342]? = some ((666, .iload 6, 2, 6, 0, 0, 0, 0, []) : zm_E) := (ta_5 42).trans rfl
theorem c_206_343 : (zm_cd 206)[343]? = some ((668, .i2l, 1, 0, 0, 0, 0, 0, []) : zm_E) := (ta_5 43).trans rfl
theorem c_206_344 : (zm_cd 206)[344]? = some ((669, .lcmp, 1, 0, 0, 0, 0, 0, []) : zm_E) := (ta_5 44).trans rfl
theorem c_206_345 : (zm_cd 206)[345]? = some ((670, .ifCond .eq 5, 3, 348, 0, 0, 0, 0, []) : zm_E) := (ta_5 45).trans rfl
theorem c_206_346 : (zm_cd 206)[346]? = some ((673, .iconst 0, 1, 0, 0, 0, 0, 0, []) : zm_E) := (ta_5 46).trans rfl
theorem c_206_347 : (zm_cd 206)[347]? = some ((674, .ireturn, 1, 1, 0, 0, 0, 0, []) : zm_E) := (ta_5 47).trans rfl
theorem c_206_348 : (zm_cd 206)[348]? = some ((675, .goto 977, 3, 970, 0, 0, 0, 0, []) : zm_E) := (ta_5 48).trans rfl
theorem c_206_349 : (zm_cd 206)[349]? = some ((678, .aload_n 1, 1, 1, 0, 0, 0, 0, []) : zm_E) := (ta_5 49).trans rfl
theorem c_206_350 : (zm_cd 206)[350]? = some ((679, .aload_n 3, 1, 3, 0, 0, 0, 0, []) : zm_E) := (ta_5 50).trans rfl
theorem c_206_351 : (zm_cd 206)[351]? = some ((680, .invokestatic 128, 3, 193, 2, 1, 0, 0, []) : zm_E) := (ta_5 51).trans rfl
theorem c_206_352 : (zm_cd 206)[352]? = some ((683, .istore 5, 2, 5, 0, 0, 0, 0, []) : zm_E) := (ta_5 52).trans rfl
theorem c_206_353 : (zm_cd 206)[353]? = some ((685, .aload_n 2, 1, 2, 0, 0, 0, 0, []) : zm_E) := (ta_5 53).trans rfl
theorem c_206_354 : (zm_cd 206)[354]? = some ((686, .invokevirtual 130, 3, 73, 0, 1, 0, 0, [8]) : zm_E) := (ta_5 54).trans rfl
theorem c_206_355 : (zm_cd 206)[355]? = some ((689, .istore 6, 2, 6, 0, 0, 0, 0, []) : zm_E) := (ta_5 55).trans rfl
theorem c_206_356 : (zm_cd 206)[356]? = some ((691, .aload_n 2, 1, 2, 0, 0, 0, 0, []) : zm_E) := (ta_5 56).trans rfl
theorem c_206_357 : (zm_cd 206)[357]? = some ((692, .invokevirtual 94, 3, 39, 0, 1, 0, 0, [8]) : zm_E) := (ta_5 57).trans rfl
theorem c_206_358 : (zm_cd 206)[358]? = some ((695, .iload 5, 2, 5, 0, 0, 0, 0, []) : zm_E) := (ta_5 58).trans rfl
theorem c_206_359 : (zm_cd 206)[359]? = some ((697, .if_icmp .eq 5, 3, 362, 0, 0, 0, 0, []) : zm_E) := (ta_5 59).trans rfl
theorem ta_6 : ∀ j : Nat, (zm_cd 206)[360 + j]? = (zd_206_6 ++ (zd_206_7 ++ (zd_206_8 ++ (zd_206_9 ++ (zd_206_10 ++ (zd_206_11 ++ (zd_206_12 ++ (zd_206_13 ++ (zd_206_14 ++ (zd_206_15 ++ zd_206_16))))))))))[j]? := fun j => by rw [show 360 + j = 300 + (60 + j) by omega]; exact (ta_5 (60 + j)).trans (zq_r zd_206_5 _ j)
theorem c_206_360 : (zm_cd 206)[360]? = some ((700, .iconst 0, 1, 0, 0, 0, 0, 0, []) : zm_E) := (ta_6 0).trans rfl
theorem c_206_361 : (zm_cd 206)[361]? = some ((701, .ireturn, 1, 1, 0, 0, 0, 0, []) : zm_E) := (ta_6 1).trans rfl
theorem c_206_362 : (zm_cd 206)[362]? = some ((702, .iload 5, 2, 5, 0, 0, 0, 0, []) : zm_E) := (ta_6 2).trans rfl
theorem c_206_363 : (zm_cd 206)[363]? = some ((704, .ifCond .ne 15, 3, 373, 0, 0, 0, 0, []) : zm_E) := (ta_6 3).trans rfl
theorem c_206_364 : (zm_cd 206)[364]? = some ((707, .aload_n 3, 1, 3, 0, 0, 0, 0, []) : zm_E) := (ta_6 4).trans rfl
theorem c_206_365 : (zm_cd 206)[365]? = some ((708, .iconst 0, 1, 0, 0, 0, 0, 0, []) : zm_E) := (ta_6 5).trans rfl
theorem c_206_366 : (zm_cd 206)[366]? = some ((709, .laload, 1, 0, 0, 0, 0, 0, []) : zm_E) := (ta_6 6).trans rfl
theorem c_206_367 : (zm_cd 206)[367]? = some ((710, .iload 6, 2, 6, 0, 0, 0, 0, []) : zm_E) := (ta_6 7).trans rfl
theorem c_206_368 : (zm_cd 206)[368]? = some ((712, .i2l, 1, 0, 0, 0, 0, 0, []) : zm_E) := (ta_6 8).trans rfl
theorem c_206_369 : (zm_cd 206)[369]? = some ((713, .lcmp, 1, 0, 0, 0, 0, 0, []) : zm_E) := (ta_6 9).trans rfl
theorem c_206_370 : (zm_cd 206)[370]? = some ((714, .ifCond .eq 5, 3, 373, 0, 0, 0, 0, []) : zm_E) := (ta_6 10).trans rfl
theorem c_206_371 : (zm_cd 206)[371]? = some ((717, .iconst 0, 1, 0, 0, 0, 0, 0, []) : zm_E) := (ta_6 11).trans rfl
theorem c_206_372 : (zm_cd 206)[372]? = some ((718, .ireturn, 1, 1, 0, 0, 0, 0, []) : zm_E) := (ta_6 12).trans rfl
theorem c_206_373 : (zm_cd 206)[373]? = some ((719, .goto 933, 3, 970, 0, 0, 0, 0, []) : zm_E) := (ta_6 13).trans rfl
theorem c_206_374 : (zm_cd 206)[374]? = some ((722, .aload_n 1, 1, 1, 0, 0, 0, 0, []) : zm_E) := (ta_6 14).trans rfl
theorem c_206_375 : (zm_cd 206)[375]? = some ((723, .aload_n 0, 1, 0, 0, 0, 0, 0, []) : zm_E) := (ta_6 15).trans rfl
theorem c_206_376 : (zm_cd 206)[376]? = some ((724, .iload 4, 2, 4, 0, 0, 0, 0, []) : zm_E) := (ta_6 16).trans rfl
theorem c_206_377 : (zm_cd 206)[377]? = some ((726, .iconst 1, 1, 0, 0, 0, 1, 0, []) : zm_E) := (ta_6 17).trans rfl
theorem c_206_378 : (zm_cd 206)[378]? = some ((727, .iadd, 1, 0, 0, 0, 0, 0, []) : zm_E) := (ta_6 18).trans rfl
theorem c_206_379 : (zm_cd 206)[379]? = some ((728, .iaload, 1, 0, 0, 0, 0, 0, []) : zm_E) := (ta_6 19).trans rfl
theorem c_206_380 : (zm_cd 206)[380]? = some ((729, .aload_n 0, 1, 0, 0, 0, 0, 0, []) : zm_E) := (ta_6 20).trans rfl
theorem c_206_381 : (zm_cd 206)[381]? = some ((730, .iload 4, 2, 4, 0, 0, 0, 0, []) : zm_E) := (ta_6 21).trans rfl
theorem c_206_382 : (zm_cd 206)[382]? = some ((732, .iconst 2, 1, 0, 0, 0, 2, 0, []) : zm_E) := (ta_6 22).trans rfl
theorem c_206_383 : (zm_cd 206)[383]? = some ((733, .iadd, 1, 0, 0, 0, 0, 0, []) : zm_E) := (ta_6 23).trans rfl
theorem c_206_384 : (zm_cd 206)[384]? = some ((734, .iaload, 1, 0, 0, 0, 0, 0, []) : zm_E) := (ta_6 24).trans rfl
theorem c_206_385 : (zm_cd 206)[385]? = some ((735, .aload_n 0, 1, 0, 0, 0, 0, 0, []) : zm_E) := (ta_6 25).trans rfl
theorem c_206_386 : (zm_cd 206)[386]? = some ((736, .iload 4, 2, 4, 0, 0, 0, 0, []) : zm_E) := (ta_6 26).trans rfl
theorem c_206_387 : (zm_cd 206)[387]? = some ((738, .iconst 3, 1, 0, 0, 0, 3, 0, []) : zm_E) := (ta_6 27).trans rfl
theorem c_206_388 : (zm_cd 206)[388]? = some ((739, .iadd, 1, 0, 0, 0, 0, 0, []) : zm_E) := (ta_6 28).trans rfl
theorem c_206_389 : (zm_cd 206)[389]? = some ((740, .iaload, 1, 0, 0, 0, 0, 0, []) : zm_E) := (ta_6 29).trans rfl
theorem c_206_390 : (zm_cd 206)[390]? = some ((741, .aload_n 3, 1, 3, 0, 0, 0, 0, []) : zm_E) := (ta_6 30).trans rfl
theorem c_206_391 : (zm_cd 206)[391]? = some ((742, .invokestatic 131, 3, 194, 5, 1, 0, 0, []) : zm_E) := (ta_6 31).trans rfl
theorem c_206_392 : (zm_cd 206)[392]? = some ((745, .istore 5, 2, 5, 0, 0, 0, 0, []) : zm_E) := (ta_6 32).trans rfl
theorem c_206_393 : (zm_cd 206)[393]? = some ((747, .aload_n 2, 1, 2, 0, 0, 0, 0, []) : zm_E) := (ta_6 33).trans rfl
theorem c_206_394 : (zm_cd 206)[394]? = some ((748, .aload_n 0, 1, 0, 0, 0, 0, 0, []) : zm_E) := (ta_6 34).trans rfl
theorem c_206_395 : (zm_cd 206)[395]? = some ((749, .iload 4, 2, 4, 0, 0, 0, 0, []) : zm_E) := (ta_6 35).trans rfl
theorem c_206_396 : (zm_cd 206)[396]? = some ((751, .iconst 1, 1, 0, 0, 0, 1, 0, []) : zm_E) := (ta_6 36).trans rfl
theorem c_206_397 : (zm_cd 206)[397]? = some ((752, .iadd, 1, 0, 0, 0, 0, 0, []) : zm_E) := (ta_6 37).trans rfl
theorem c_206_398 : (zm_cd 206)[398]? = some ((753, .iaload, 1, 0, 0, 0, 0, 0, []) : zm_E) := (ta_6 38).trans rfl
theorem c_206_399 : (zm_cd 206)[399]? = some ((754, .aload_n 0, 1, 0, 0, 0, 0, 0, []) : zm_E) := (ta_6 39).trans rfl
theorem c_206_400 : (zm_cd 206)[400]? = some ((755, .iload 4, 2, 4, 0, 0, 0, 0, []) : zm_E) := (ta_6 40).trans rfl
theorem c_206_401 : (zm_cd 206)[401]? = some ((757, .iconst 2, 1, 0, 0, 0, 2, 0, []) : zm_E) := (ta_6 41).trans rfl
theorem c_206_402 : (zm_cd 206)[402]? = some ((758, .iadd, 1, 0, 0, 0, 0, 0, []) : zm_E) := (ta_6 42).trans rfl
theorem c_206_403 : (zm_cd 206)[403]? = some ((759, .iaload, 1, 0, 0, 0, 0, 0, []) : zm_E) := (ta_6 43).trans rfl
theorem c_206_404 : (zm_cd 206)[404]? = some ((760, .aload_n 0, 1, 0, 0, 0, 0, 0, []) : zm_E) := (ta_6 44).trans rfl
theorem c_206_405 : (zm_cd 206)[405]? = some ((761, .iload 4, 2, 4, 0, 0, 0, 0, []) : zm_E) := (ta_6 45).trans rfl
theorem c_206_406 : (zm_cd 206)[406]? = some ((763, .iconst 3, 1, 0, 0, 0, 3, 0, []) : zm_E) := (ta_6 46).trans rfl
theorem c_206_407 : (zm_cd 206)[407]? = some ((764, .iadd, 1, 0, 0, 0, 0, 0, []) : zm_E) := (ta_6 47).trans rfl
theorem c_206_408 : (zm_cd 206)[408]? = some ((765, .iaload, 1, 0, 0, 0, 0, 0, []) : zm_E) := (ta_6 48).trans rfl
theorem c_206_409 : (zm_cd 206)[409]? = some ((766, .invokevirtual 134, 3, 75, 3, 1, 0, 0, [8]) : zm_E) := (ta_6 49).trans rfl
theorem c_206_410 : (zm_cd 206)[410]? = some ((769, .istore 6, 2, 6, 0, 0, 0, 0, []) : zm_E) := (ta_6 50).trans rfl
theorem c_206_411 : (zm_cd 206)[411]? = some ((771, .aload_n 2, 1, 2, 0, 0, 0, 0, []) : zm_E) := (ta_6 51).trans rfl
theorem c_206_412 : (zm_cd 206)[412]? = some ((772, .invokevirtual 94, 3, 39, 0, 1, 0, 0, [8]) : zm_E) := (ta_6 52).trans rfl
theorem c_206_413 : (zm_cd 206)[413]? = some ((775, .iload 5, 2, 5, 0, 0, 0, 0, []) : zm_E) := (ta_6 53).trans rfl
theorem c_206_414 : (zm_cd 206)[414]? = some ((777, .if_icmp .eq 5, 3, 417, 0, 0, 0, 0, []) : zm_E) := (ta_6 54).trans rfl
theorem c_206_415 : (zm_cd 206)[415]? = some ((780, .iconst 0, 1, 0, 0, 0, 0, 0, []) : zm_E) := (ta_6 55).trans rfl
theorem c_206_416 : (zm_cd 206)[416]? = some ((781, .ireturn, 1, 1, 0, 0, 0, 0, []) : zm_E) := (ta_6 56).trans rfl
theorem c_206_417 : (zm_cd 206)[417]? = some ((782, .iload 5, 2, 5, 0, 0, 0, 0, []) : zm_E) := (ta_6 57).trans rfl
theorem c_206_418 : (zm_cd 206)[418]? = some ((784, .ifCond .ne 15, 3, 428, 0, 0, 0, 0, []) : zm_E) := (ta_6 58).trans rfl
theorem c_206_419 : (zm_cd 206)[419]? = some ((787, .aload_n 3, 1, 3, 0, 0, 0, 0, []) : zm_E) := (ta_6 59).trans rfl
theorem ta_7 : ∀ j : Nat, (zm_cd 206)[420 + j]? = (zd_206_7 ++ (zd_206_8 ++ (zd_206_9 ++ (zd_206_10 ++ (zd_206_11 ++ (zd_206_12 ++ (zd_206_13 ++ (zd_206_14 ++ (zd_206_15 ++ zd_206_16)))))))))[j]? := fun j => by rw [show 420 + j = 360 + (60 + j) by omega]; exact (ta_6 (60 + j)).trans (zq_r zd_206_6 _ j)
theorem c_206_420 : (zm_cd 206)[420]? = some ((788, .iconst 0, 1, 0, 0, 0, 0, 0, []) : zm_E) := (ta_7 0).trans rfl
theorem c_206_421 : (zm_cd 206)[421]? = some ((789, .laload, 1, 0, 0, 0, 0, 0, []) : zm_E) := (ta_7 1).trans rfl
theorem c_206_422 : (zm_cd 206)[422]? = some ((790, .iload 6, 2, 6, 0, 0, 0, 0, []) : zm_E) := (ta_7 2).trans rfl
theorem c_206_423 : (zm_cd 206)[423]? = some ((792, .i2l, 1, 0, 0, 0, 0, 0, []) : zm_E) := (ta_7 3).trans rfl
theorem c_206_424 : (zm_cd 206)[424]? = some ((793, .lcmp, 1, 0, 0, 0, 0, 0, []) : zm_E) := (ta_7 4).trans rfl
theorem c_206_425 : (zm_cd 206)[425]? = some ((794, .ifCond .eq 5, 3, 428, 0, 0, 0, 0, []) : zm_E) := (ta_7 5).trans rfl
theorem c_206_426 : (zm_cd 206)[426]? = some ((797, .iconst 0, 1, 0, 0, 0, 0, 0, []) : zm_E) := (ta_7 6).trans rfl
theorem c_206_427 : (zm_cd 206)[427]? = some ((798, .ireturn, 1, 1, 0, 0, 0, 0, []) : zm_E) := (ta_7 7).trans rfl
theorem c_206_428 : (zm_cd 206)[428]? = some ((799, .goto 853, 3, 970, 0, 0, 0, 0, []) : zm_E) := (ta_7 8).trans rfl
theorem c_206_429 : (zm_cd 206)[429]? = some ((802, .aload_n 1, 1, 1, 0, 0, 0, 0, []) : zm_E) := (ta_7 9).trans rfl
theorem c_206_430 : (zm_cd 206)[430]? = some ((803, .aload_n 0, 1, 0, 0, 0, 0, 0, []) : zm_E) := (ta_7 10).trans rfl
theorem c_206_431 : (zm_cd 206)[431]? = some ((804, .iload 4, 2, 4, 0, 0, 0, 0, []) : zm_E) := (ta_7 11).trans rfl
theorem c_206_432 : (zm_cd 206)[432]? = some ((806, .iconst 1, 1, 0, 0, 0, 1, 0, []) : zm_E) := (ta_7 12).trans rfl
theorem c_206_433 : (zm_cd 206)[433]? = some ((807, .iadd, 1, 0, 0, 0, 0, 0, []) : zm_E) := (ta_7 13).trans rfl
theorem c_206_434 : (zm_cd 206)[434]? = some ((808, .iaload, 1, 0, 0, 0, 0, 0, []) : zm_E) := (ta_7 14).trans rfl
theorem c_206_435 : (zm_cd 206)[435]? = some ((809, .aload_n 0, 1, 0, 0, 0, 0, 0, []) : zm_E) := (ta_7 15).trans rfl
theorem c_206_436 : (zm_cd 206)[436]? = some ((810, .iload 4, 2, 4, 0, 0, 0, 0, []) : zm_E) := (ta_7 16).trans rfl
theorem c_206_437 : (zm_cd 206)[437]? = some ((812, .iconst 2, 1, 0, 0, 0, 2, 0, []) : zm_E) := (ta_7 17).trans rfl
theorem c_206_438 : (zm_cd 206)[438]? = some ((813, .iadd, 1, 0, 0, 0, 0, 0, []) : zm_E) := (ta_7 18).trans rfl
theorem c_206_439 : (zm_cd 206)[439]? = some ((814, .iaload, 1, 0, 0, 0, 0, 0, []) : zm_E) := (ta_7 19).trans rfl
theorem c_206_440 : (zm_cd 206)[440]? = some ((815, .aload_n 3, 1, 3, 0, 0, 0, 0, []) : zm_E) := (ta_7 20).trans rfl
theorem c_206_441 : (zm_cd 206)[441]? = some ((816, .invokestatic 135, 3, 195, 4, 1, 0, 0, []) : zm_E) := (ta_7 21).trans rfl
theorem c_206_442 : (zm_cd 206)[442]? = some ((819, .istore 5, 2, 5, 0, 0, 0, 0, []) : zm_E) := (ta_7 22).trans rfl
theorem c_206_443 : (zm_cd 206)[443]? = some ((821, .aload_n 2, 1, 2, 0, 0, 0, 0, []) : zm_E) := (ta_7 23).trans rfl
theorem c_206_444 : (zm_cd 206)[444]? = some ((822, .aload_n 0, 1, 0, 0, 0, 0, 0, []) : zm_E) := (ta_7 24).trans rfl
theorem c_206_445 : (zm_cd 206)[445]? = some ((823, .iload 4, 2, 4, 0, 0, 0, 0, []) : zm_E) := (ta_7 25).trans rfl
theorem c_206_446 : (zm_cd 206)[446]? = some ((825, .iconst 1, 1, 0, 0, 0, 1, 0, []) : zm_E) := (ta_7 26).trans rfl
theorem c_206_447 : (zm_cd 206)[447]? = some ((826, .iadd, 1, 0, 0, 0, 0, 0, []) : zm_E) := (ta_7 27).trans rfl
theorem c_206_448 : (zm_cd 206)[448]? = some ((827, .iaload, 1, 0, 0, 0, 0, 0, []) : zm_E) := (ta_7 28).trans rfl
theorem c_206_449 : (zm_cd 206)[449]? = some ((828, .aload_n 0, 1, 0, 0, 0, 0, 0, []) : zm_E) := (ta_7 29).trans rfl
theorem c_206_450 : (zm_cd 206)[450]? = some ((829, .iload 4, 2, 4, 0, 0, 0, 0, []) : zm_E) := (ta_7 30).trans rfl
theorem c_206_451 : (zm_cd 206)[451]? = some ((831, .iconst 2, 1, 0, 0, 0, 2, 0, []) : zm_E) := (ta_7 31).trans rfl
theorem c_206_452 : (zm_cd 206)[452]? = some ((832, .iadd, 1, 0, 0, 0, 0, 0, []) : zm_E) := (ta_7 32).trans rfl
theorem c_206_453 : (zm_cd 206)[453]? = some ((833, .iaload, 1, 0, 0, 0, 0, 0, []) : zm_E) := (ta_7 33).trans rfl
theorem c_206_454 : (zm_cd 206)[454]? = some ((834, .invokevirtual 137, 3, 77, 2, 1, 0, 0, [8]) : zm_E) := (ta_7 34).trans rfl
theorem c_206_455 : (zm_cd 206)[455]? = some ((837, .istore 6, 2, 6, 0, 0, 0, 0, []) : zm_E) := (ta_7 35).trans rfl
theorem c_206_456 : (zm_cd 206)[456]? = some ((839, .aload_n 2, 1, 2, 0, 0, 0, 0, []) : zm_E) := (ta_7 36).trans rfl
theorem c_206_457 : (zm_cd 206)[457]? = some ((840, .invokevirtual 94, 3, 39, 0, 1, 0, 0, [8]) : zm_E) := (ta_7 37).trans rfl
theorem c_206_458 : (zm_cd 206)[458]? = some ((843, .iload 5, 2, 5, 0, 0, 0, 0, []) : zm_E) := (ta_7 38).trans rfl
theorem c_206_459 : (zm_cd 206)[459]? = some ((845, .if_icmp .eq 5, 3, 462, 0, 0, 0, 0, []) : zm_E) := (ta_7 39).trans rfl
theorem c_206_460 : (zm_cd 206)[460]? = some ((848, .iconst 0, 1, 0, 0, 0, 0, 0, []) : zm_E) := (ta_7 40).trans rfl
theorem c_206_461 : (zm_cd 206)[461]? = some ((849, .ireturn, 1, 1, 0, 0, 0, 0, []) : zm_E) := (ta_7 41).trans rfl
theorem c_206_462 : (zm_cd 206)[462]? = some ((850, .iload 5, 2, 5, 0, 0, 0, 0, []) : zm_E) := (ta_7 42).trans rfl
theorem c_206_463 : (zm_cd 206)[463]? = some ((852, .ifCond .ne 15, 3, 473, 0, 0, 0, 0, []) : zm_E) := (ta_7 43).trans rfl
theorem c_206_464 : (zm_cd 206)[464]? = some ((855, .aload_n 3, 1, 3, 0, 0, 0, 0, []) : zm_E) := (ta_7 44).trans rfl
theorem c_206_465 : (zm_cd 206)[465]? = some ((856, .iconst 0, 1, 0, 0, 0, 0, 0, []) : zm_E) := (ta_7 45).trans rfl
theorem c_206_466 : (zm_cd 206)[466]? = some ((857, .laload, 1, 0, 0, 0, 0, 0, []) : zm_E) := (ta_7 46).trans rfl
theorem c_206_467 : (zm_cd 206)[467]? = some ((858, .iload 6, 2, 6, 0, 0, 0, 0, []) : zm_E) := (ta_7 47).trans rfl
theorem c_206_468 : (zm_cd 206)[468]? = some ((860, .i2l, 1, 0, 0, 0, 0, 0, []) : zm_E) := (ta_7 48).trans rfl
theorem c_206_469 : (zm_cd 206)[469]? = some ((861, .lcmp, 1, 0, 0, 0, 0, 0, []) : zm_E) := (ta_7 49).trans rfl
theorem c_206_470 : (zm_cd 206)[470]? = some ((862, .ifCond .eq 5, 3, 473, 0, 0, 0, 0, []) : zm_E) := (ta_7 50).trans rfl
theorem c_206_471 : (zm_cd 206)[471]? = some ((865, .iconst 0, 1, 0, 0, 0, 0, 0, []) : zm_E) := (ta_7 51).trans rfl
theorem c_206_472 : (zm_cd 206)[472]? = some ((866, .ireturn, 1, 1, 0, 0, 0, 0, []) : zm_E) := (ta_7 52).trans rfl
theorem c_206_473 : (zm_cd 206)[473]? = some ((867, .goto 785, 3, 970, 0, 0, 0, 0, []) : zm_E) := (ta_7 53).trans rfl
theorem c_206_474 : (zm_cd 206)[474]? = some ((870, .aload_n 1, 1, 1, 0, 0, 0, 0, []) : zm_E) := (ta_7 54).trans rfl
theorem c_206_475 : (zm_cd 206)[475]? = some ((871, .aload_n 0, 1, 0, 0, 0, 0, 0, []) : zm_E) := (ta_7 55).trans rfl
theorem c_206_476 : (zm_cd 206)[476]? = some ((872, .iload 4, 2, 4, 0, 0, 0, 0, []) : zm_E) := (ta_7 56).trans rfl
theorem c_206_477 : (zm_cd 206)[477]? = some ((874, .iconst 1, 1, 0, 0, 0, 1, 0, []) : zm_E) := (ta_7 57).trans rfl
theorem c_206_478 : (zm_cd 206)[478]? = some ((875, .iadd, 1, 0, 0, 0, 0, 0, []) : zm_E) := (ta_7 58).trans rfl
theorem c_206_479 : (zm_cd 206)[479]? = some ((876, .iaload, 1, 0, 0, 0, 0, 0, []) : zm_E) := (ta_7 59).trans rfl
theorem ta_8 : ∀ j : Nat, (zm_cd 206)[480 + j]? = (zd_206_8 ++ (zd_206_9 ++ (zd_206_10 ++ (zd_206_11 ++ (zd_206_12 ++ (zd_206_13 ++ (zd_206_14 ++ (zd_206_15 ++ zd_206_16))))))))[j]? := fun j => by rw [show 480 + j = 420 + (60 + j) by omega]; exact (ta_7 (60 + j)).trans (zq_r zd_206_7 _ j)
theorem c_206_480 : (zm_cd 206)[480]? = some ((877, .aload_n 3, 1, 3, 0, 0, 0, 0, []) : zm_E) := (ta_8 0).trans rfl
theorem c_206_481 : (zm_cd 206)[481]? = some ((878, .invokestatic 138, 3, 196, 3, 1, 0, 0, []) : zm_E) := (ta_8 1).trans rfl
theorem c_206_482 : (zm_cd 206)[482]? = some ((881, .istore 5, 2, 5, 0, 0, 0, 0, []) : zm_E) := (ta_8 2).trans rfl
theorem c_206_483 : (zm_cd 206)[483]? = some ((883, .aload_n 2, 1, 2, 0, 0, 0, 0, []) : zm_E) := (ta_8 3).trans rfl
theorem c_206_484 : (zm_cd 206)[484]? = some ((884, .aload_n 0, 1, 0, 0, 0, 0, 0, []) : zm_E) := (ta_8 4).trans rfl
theorem c_206_485 : (zm_cd 206)[485]? = some ((885, .iload 4, 2, 4, 0, 0, 0, 0, []) : zm_E) := (ta_8 5).trans rfl
theorem c_206_486 : (zm_cd 206)[486]? = some ((887, .iconst 1, 1, 0, 0, 0, 1, 0, []) : zm_E) := (ta_8 6).trans rfl
theorem c_206_487 : (zm_cd 206)[487]? = some ((888, .iadd, 1, 0, 0, 0, 0, 0, []) : zm_E) := (ta_8 7).trans rfl
theorem c_206_488 : (zm_cd 206)[488]? = some ((889, .iaload, 1, 0, 0, 0, 0, 0, []) : zm_E) := (ta_8 8).trans rfl
theorem c_206_489 : (zm_cd 206)[489]? = some ((890, .invokevirtual 140, 3, 79, 1, 1, 0, 0, [8]) : zm_E) := (ta_8 9).trans rfl
theorem c_206_490 : (zm_cd 206)[490]? = some ((893, .istore 6, 2, 6, 0, 0, 0, 0, []) : zm_E) := (ta_8 10).trans rfl
theorem c_206_491 : (zm_cd 206)[491]? = some ((895, .aload_n 2, 1, 2, 0, 0, 0, 0, []) : zm_E) := (ta_8 11).trans rfl
theorem c_206_492 : (zm_cd 206)[492]? = some ((896, .invokevirtual 94, 3, 39, 0, 1, 0, 0, [8]) : zm_E) := (ta_8 12).trans rfl
theorem c_206_493 : (zm_cd 206)[493]? = some ((899, .iload 5, 2, 5, 0, 0, 0, 0, []) : zm_E) := (ta_8 13).trans rfl
theorem c_206_494 : (zm_cd 206)[494]? = some ((901, .if_icmp .eq 5, 3, 497, 0, 0, 0, 0, []) : zm_E) := (ta_8 14).trans rfl
theorem c_206_495 : (zm_cd 206)[495]? = some ((904, .iconst 0, 1, 0, 0, 0, 0, 0, []) : zm_E) := (ta_8 15).trans rfl
theorem c_206_496 : (zm_cd 206)[496]? = some ((905, .ireturn, 1, 1, 0, 0, 0, 0, []) : zm_E) := (ta_8 16).trans rfl
theorem c_206_497 : (zm_cd 206)[497]? = some ((906, .iload 5, 2, 5, 0, 0, 0, 0, []) : zm_E) := (ta_8 17).trans rfl
theorem c_206_498 : (zm_cd 206)[498]? = some ((908, .ifCond .ne 15, 3, 508, 0, 0, 0, 0, []) : zm_E) := (ta_8 18).trans rfl
theorem c_206_499 : (zm_cd 206)[499]? = some ((911, .aload_n 3, 1, 3, 0, 0, 0, 0, []) : zm_E) := (ta_8 19).trans rfl
theorem c_206_500 : (zm_cd 206)[500]? = some ((912, .iconst 0, 1, 0, 0, 0, 0, 0, []) : zm_E) := (ta_8 20).trans rfl
theorem c_206_501 : (zm_cd 206)[501]? = some ((913, .laload, 1, 0, 0, 0, 0, 0, []) : zm_E) := (ta_8 21).trans rfl
theorem c_206_502 : (zm_cd 206)[502]? = some ((914, .iload 6, 2, 6, 0, 0, 0, 0, []) : zm_E) := (ta_8 22).trans rfl
theorem c_206_503 : (zm_cd 206)[503]? = some ((916, .i2l, 1, 0, 0, 0, 0, 0, []) : zm_E) := (ta_8 23).trans rfl
theorem c_206_504 : (zm_cd 206)[504]? = some ((917, .lcmp, 1, 0, 0, 0, 0, 0, []) : zm_E) := (ta_8 24).trans rfl
theorem c_206_505 : (zm_cd 206)[505]? = some ((918, .ifCond .eq 5, 3, 508, 0, 0, 0, 0, []) : zm_E) := (ta_8 25).trans rfl
theorem c_206_506 : (zm_cd 206)[506]? = some ((921, .iconst 0, 1, 0, 0, 0, 0, 0, []) : zm_E) := (ta_8 26).trans rfl
theorem c_206_507 : (zm_cd 206)[507]? = some ((922, .ireturn, 1, 1, 0, 0, 0, 0, []) : zm_E) := (ta_8 27).trans rfl
theorem c_206_508 : (zm_cd 206)[508]? = some ((923, .goto 729, 3, 970, 0, 0, 0, 0, []) : zm_E) := (ta_8 28).trans rfl
theorem c_206_509 : (zm_cd 206)[509]? = some ((926, .aload_n 1, 1, 1, 0, 0, 0, 0, []) : zm_E) := (ta_8 29).trans rfl
theorem c_206_510 : (zm_cd 206)[510]? = some ((927, .invokevirtual 141, 3, 15, 0, 1, 0, 0, [7]) : zm_E) := (ta_8 30).trans rfl
theorem c_206_511 : (zm_cd 206)[511]? = some ((930, .aload_n 2, 1, 2, 0, 0, 0, 0, []) : zm_E) := (ta_8 31).trans rfl
theorem c_206_512 : (zm_cd 206)[512]? = some ((931, .invokevirtual 144, 3, 81, 0, 1, 0, 0, [8]) : zm_E) := (ta_8 32).trans rfl
theorem c_206_513 : (zm_cd 206)[513]? = some ((934, .if_icmp .eq 718, 3, 970, 0, 0, 0, 0, []) : zm_E) := (ta_8 33).trans rfl
theorem c_206_514 : (zm_cd 206)[514]? = some ((937, .iconst 0, 1, 0, 0, 0, 0, 0, []) : zm_E) := (ta_8 34).trans rfl
theorem c_206_515 : (zm_cd 206)[515]? = some ((938, .ireturn, 1, 1, 0, 0, 0, 0, []) : zm_E) := (ta_8 35).trans rfl
theorem c_206_516 : (zm_cd 206)[516]? = some ((939, .aload_n 1, 1, 1, 0, 0, 0, 0, []) : zm_E) := (ta_8 36).trans rfl
theorem c_206_517 : (zm_cd 206)[517]? = some ((940, .aload_n 0, 1, 0, 0, 0, 0, 0, []) : zm_E) := (ta_8 37).trans rfl
theorem c_206_518 : (zm_cd 206)[518]? = some ((941, .iload 4, 2, 4, 0, 0, 0, 0, []) : zm_E) := (ta_8 38).trans rfl
theorem c_206_519 : (zm_cd 206)[519]? = some ((943, .iconst 1, 1, 0, 0, 0, 1, 0, []) : zm_E) := (ta_8 39).trans rfl
theorem c_206_520 : (zm_cd 206)[520]? = some ((944, .iadd, 1, 0, 0, 0, 0, 0, []) : zm_E) := (ta_8 40).trans rfl
theorem c_206_521 : (zm_cd 206)[521]? = some ((945, .iaload, 1, 0, 0, 0, 0, 0, []) : zm_E) := (ta_8 41).trans rfl
theorem c_206_522 : (zm_cd 206)[522]? = some ((946, .aload_n 3, 1, 3, 0, 0, 0, 0, []) : zm_E) := (ta_8 42).trans rfl
theorem c_206_523 : (zm_cd 206)[523]? = some ((947, .invokestatic 145, 3, 197, 3, 1, 0, 0, []) : zm_E) := (ta_8 43).trans rfl
theorem c_206_524 : (zm_cd 206)[524]? = some ((950, .istore 5, 2, 5, 0, 0, 0, 0, []) : zm_E) := (ta_8 44).trans rfl
theorem c_206_525 : (zm_cd 206)[525]? = some ((952, .aload_n 2, 1, 2, 0, 0, 0, 0, []) : zm_E) := (ta_8 45).trans rfl
theorem c_206_526 : (zm_cd 206)[526]? = some ((953, .aload_n 0, 1, 0, 0, 0, 0, 0, []) : zm_E) := (ta_8 46).trans rfl
theorem c_206_527 : (zm_cd 206)[527]? = some ((954, .iload 4, 2, 4, 0, 0, 0, 0, []) : zm_E) := (ta_8 47).trans rfl
theorem c_206_528 : (zm_cd 206)[528]? = some ((956, .iconst 1, 1, 0, 0, 0, 1, 0, []) : zm_E) := (ta_8 48).trans rfl
theorem c_206_529 : (zm_cd 206)[529]? = some ((957, .iadd, 1, 0, 0, 0, 0, 0, []) : zm_E) := (ta_8 49).trans rfl
theorem c_206_530 : (zm_cd 206)[530]? = some ((958, .iaload, 1, 0, 0, 0, 0, 0, []) : zm_E) := (ta_8 50).trans rfl
theorem c_206_531 : (zm_cd 206)[531]? = some ((959, .invokevirtual 147, 3, 82, 1, 1, 0, 0, [8]) : zm_E) := (ta_8 51).trans rfl
theorem c_206_532 : (zm_cd 206)[532]? = some ((962, .istore 6, 2, 6, 0, 0, 0, 0, []) : zm_E) := (ta_8 52).trans rfl
theorem c_206_533 : (zm_cd 206)[533]? = some ((964, .aload_n 2, 1, 2, 0, 0, 0, 0, []) : zm_E) := (ta_8 53).trans rfl
theorem c_206_534 : (zm_cd 206)[534]? = some ((965, .invokevirtual 94, 3, 39, 0, 1, 0, 0, [8]) : zm_E) := (ta_8 54).trans rfl
theorem c_206_535 : (zm_cd 206)[535]? = some ((968, .iload 5, 2, 5, 0, 0, 0, 0, []) : zm_E) := (ta_8 55).trans rfl
theorem c_206_536 : (zm_cd 206)[536]? = some ((970, .if_icmp .eq 5, 3, 539, 0, 0, 0, 0, []) : zm_E) := (ta_8 56).trans rfl
theorem c_206_537 : (zm_cd 206)[537]? = some ((973, .iconst 0, 1, 0, 0, 0, 0, 0, []) : zm_E) := (ta_8 57).trans rfl
theorem c_206_538 : (zm_cd 206)[538]? = some ((974, .ireturn, 1, 1, 0, 0, 0, 0, []) : zm_E) := (ta_8 58).trans rfl
theorem c_206_539 : (zm_cd 206)[539]? = some ((975, .iload 5, 2, 5, 0, 0, 0, 0, []) : zm_E) := (ta_8 59).trans rfl
theorem ta_9 : ∀ j : Nat, (zm_cd 206)[540 + j]? = (zd_206_9 ++ (zd_206_10 ++ (zd_206_11 ++ (zd_206_12 ++ (zd_206_13 ++ (zd_206_14 ++ (zd_206_15 ++ zd_206_16)))))))[j]? := fun j => by rw [show 540 + j = 480 + (60 + j) by omega]; exact (ta_8 (60 + j)).trans (zq_r zd_206_8 _ j)
theorem c_206_540 : (zm_cd 206)[540]? = some ((977, .ifCond .ne 15, 3, 550, 0, 0, 0, 0, []) : zm_E) := (ta_9 0).trans rfl
theorem c_206_541 : (zm_cd 206)[541]? = some ((980, .aload_n 3, 1, 3, 0, 0, 0, 0, []) : zm_E) := (ta_9 1).trans rfl
theorem c_206_542 : (zm_cd 206)[542]? = some ((981, .iconst 0, 1, 0, 0, 0, 0, 0, []) : zm_E) := (ta_9 2).trans rfl
theorem c_206_543 : (zm_cd 206)[543]? = some ((982, .laload, 1, 0, 0, 0, 0, 0, []) : zm_E) := (ta_9 3).trans rfl
theorem c_206_544 : (zm_cd 206)[544]? = some ((983, .iload 6, 2, 6, 0, 0, 0, 0, []) : zm_E) := (ta_9 4).trans rfl
theorem c_206_545 : (zm_cd 206)[545]? = some ((985, .i2l, 1, 0, 0, 0, 0, 0, []) : zm_E) := (ta_9 5).trans rfl
theorem c_206_546 : (zm_cd 206)[546]? = some ((986, .lcmp, 1, 0, 0, 0, 0, 0, []) : zm_E) := (ta_9 6).trans rfl
theorem c_206_547 : (zm_cd 206)[547]? = some ((987, .ifCond .eq 5, 3, 550, 0, 0, 0, 0, []) : zm_E) := (ta_9 7).trans rfl
theorem c_206_548 : (zm_cd 206)[548]? = some ((990, .iconst 0, 1, 0, 0, 0, 0, 0, []) : zm_E) := (ta_9 8).trans rfl
theorem c_206_549 : (zm_cd 206)[549]? = some ((991, .ireturn, 1, 1, 0, 0, 0, 0, []) : zm_E) := (ta_9 9).trans rfl
theorem c_206_550 : (zm_cd 206)[550]? = some ((992, .goto 660, 3, 970, 0, 0, 0, 0, []) : zm_E) := (ta_9 10).trans rfl
theorem c_206_551 : (zm_cd 206)[551]? = some ((995, .aload_n 1, 1, 1, 0, 0, 0, 0, []) : zm_E) := (ta_9 11).trans rfl
theorem c_206_552 : (zm_cd 206)[552]? = some ((996, .invokevirtual 148, 3, 17, 0, 1, 0, 0, [7]) : zm_E) := (ta_9 12).trans rfl
theorem c_206_553 : (zm_cd 206)[553]? = some ((999, .aload_n 2, 1, 2, 0, 0, 0, 0, []) : zm_E) := (ta_9 13).trans rfl
theorem c_206_554 : (zm_cd 206)[554]? = some ((1000, .invokevirtual 151, 3, 84, 0, 1, 0, 0, [8]) : zm_E) := (ta_9 14).trans rfl
theorem c_206_555 : (zm_cd 206)[555]? = some ((1003, .if_icmp .eq 649, 3, 970, 0, 0, 0, 0, []) : zm_E) := (ta_9 15).trans rfl
theorem c_206_556 : (zm_cd 206)[556]? = some ((1006, .iconst 0, 1, 0, 0, 0, 0, 0, []) : zm_E) := (ta_9 16).trans rfl
theorem c_206_557 : (zm_cd 206)[557]? = some ((1007, .ireturn, 1, 1, 0, 0, 0, 0, []) : zm_E) := (ta_9 17).trans rfl
theorem c_206_558 : (zm_cd 206)[558]? = some ((1008, .aload_n 1, 1, 1, 0, 0, 0, 0, []) : zm_E) := (ta_9 18).trans rfl
theorem c_206_559 : (zm_cd 206)[559]? = some ((1009, .aload_n 3, 1, 3, 0, 0, 0, 0, []) : zm_E) := (ta_9 19).trans rfl
theorem c_206_560 : (zm_cd 206)[560]? = some ((1010, .invokestatic 152, 3, 198, 2, 1, 0, 0, []) : zm_E) := (ta_9 20).trans rfl
theorem c_206_561 : (zm_cd 206)[561]? = some ((1013, .istore 5, 2, 5, 0, 0, 0, 0, []) : zm_E) := (ta_9 21).trans rfl
theorem c_206_562 : (zm_cd 206)[562]? = some ((1015, .aload_n 2, 1, 2, 0, 0, 0, 0, []) : zm_E) := (ta_9 22).trans rfl
theorem c_206_563 : (zm_cd 206)[563]? = some ((1016, .invokevirtual 154, 3, 85, 0, 1, 0, 0, [8]) : zm_E) := (ta_9 23).trans rfl
theorem c_206_564 : (zm_cd 206)[564]? = some ((1019, .istore 6, 2, 6, 0, 0, 0, 0, []) : zm_E) := (ta_9 24).trans rfl
theorem c_206_565 : (zm_cd 206)[565]? = some ((1021, .aload_n 2, 1, 2, 0, 0, 0, 0, []) : zm_E) := (ta_9 25).trans rfl
theorem c_206_566 : (zm_cd 206)[566]? = some ((1022, .invokevirtual 94, 3, 39, 0, 1, 0, 0, [8]) : zm_E) := (ta_9 26).trans rfl
theorem c_206_567 : (zm_cd 206)[567]? = some ((1025, .iload 5, 2, 5, 0, 0, 0, 0, []) : zm_E) := (ta_9 27).trans rfl
theorem c_206_568 : (zm_cd 206)[568]? = some ((1027, .if_icmp .eq 5, 3, 571, 0, 0, 0, 0, []) : zm_E) := (ta_9 28).trans rfl
theorem c_206_569 : (zm_cd 206)[569]? = some ((1030, .iconst 0, 1, 0, 0, 0, 0, 0, []) : zm_E) := (ta_9 29).trans rfl
theorem c_206_570 : (zm_cd 206)[570]? = some ((1031, .ireturn, 1, 1, 0, 0, 0, 0, []) : zm_E) := (ta_9 30).trans rfl
theorem c_206_571 : (zm_cd 206)[571]? = some ((1032, .iload 5, 2, 5, 0, 0, 0, 0, []) : zm_E) := (ta_9 31).trans rfl
theorem c_206_572 : (zm_cd 206)[572]? = some ((1034, .ifCond .ne 15, 3, 582, 0, 0, 0, 0, []) : zm_E) := (ta_9 32).trans rfl
theorem c_206_573 : (zm_cd 206)[573]? = some ((1037, .aload_n 3, 1, 3, 0, 0, 0, 0, []) : zm_E) := (ta_9 33).trans rfl
theorem c_206_574 : (zm_cd 206)[574]? = some ((1038, .iconst 0, 1, 0, 0, 0, 0, 0, []) : zm_E) := (ta_9 34).trans rfl
theorem c_206_575 : (zm_cd 206)[575]? = some ((1039, .laload, 1, 0, 0, 0, 0, 0, []) : zm_E) := (ta_9 35).trans rfl
theorem c_206_576 : (zm_cd 206)[576]? = some ((1040, .iload 6, 2, 6, 0, 0, 0, 0, []) : zm_E) := (ta_9 36).trans rfl
theorem c_206_577 : (zm_cd 206)[577]? = some ((1042, .i2l, 1, 0, 0, 0, 0, 0, []) : zm_E) := (ta_9 37).trans rfl
theorem c_206_578 : (zm_cd 206)[578]? = some ((1043, .lcmp, 1, 0, 0, 0, 0, 0, []) : zm_E) := (ta_9 38).trans rfl
theorem c_206_579 : (zm_cd 206)[579]? = some ((1044, .ifCond .eq 5, 3, 582, 0, 0, 0, 0, []) : zm_E) := (ta_9 39).trans rfl
theorem c_206_580 : (zm_cd 206)[580]? = some ((1047, .iconst 0, 1, 0, 0, 0, 0, 0, []) : zm_E) := (ta_9 40).trans rfl
theorem c_206_581 : (zm_cd 206)[581]? = some ((1048, .ireturn, 1, 1, 0, 0, 0, 0, []) : zm_E) := (ta_9 41).trans rfl
theorem c_206_582 : (zm_cd 206)[582]? = some ((1049, .goto 603, 3, 970, 0, 0, 0, 0, []) : zm_E) := (ta_9 42).trans rfl
theorem c_206_583 : (zm_cd 206)[583]? = some ((1052, .aload_n 1, 1, 1, 0, 0, 0, 0, []) : zm_E) := (ta_9 43).trans rfl
theorem c_206_584 : (zm_cd 206)[584]? = some ((1053, .aload_n 0, 1, 0, 0, 0, 0, 0, []) : zm_E) := (ta_9 44).trans rfl
theorem c_206_585 : (zm_cd 206)[585]? = some ((1054, .iload 4, 2, 4, 0, 0, 0, 0, []) : zm_E) := (ta_9 45).trans rfl
theorem c_206_586 : (zm_cd 206)[586]? = some ((1056, .iconst 1, 1, 0, 0, 0, 1, 0, []) : zm_E) := (ta_9 46).trans rfl
theorem c_206_587 : (zm_cd 206)[587]? = some ((1057, .iadd, 1, 0, 0, 0, 0, 0, []) : zm_E) := (ta_9 47).trans rfl
theorem c_206_588 : (zm_cd 206)[588]? = some ((1058, .iaload, 1, 0, 0, 0, 0, 0, []) : zm_E) := (ta_9 48).trans rfl
theorem c_206_589 : (zm_cd 206)[589]? = some ((1059, .ifCond .eq 7, 3, 592, 0, 0, 0, 0, []) : zm_E) := (ta_9 49).trans rfl
theorem c_206_590 : (zm_cd 206)[590]? = some ((1062, .iconst 1, 1, 0, 0, 0, 1, 0, []) : zm_E) := (ta_9 50).trans rfl
theorem c_206_591 : (zm_cd 206)[591]? = some ((1063, .goto 4, 3, 593, 0, 0, 0, 0, []) : zm_E) := (ta_9 51).trans rfl
theorem c_206_592 : (zm_cd 206)[592]? = some ((1066, .iconst 0, 1, 0, 0, 0, 0, 0, []) : zm_E) := (ta_9 52).trans rfl
theorem c_206_593 : (zm_cd 206)[593]? = some ((1067, .invokevirtual 155, 3, 19, 1, 1, 0, 0, [7]) : zm_E) := (ta_9 53).trans rfl
theorem c_206_594 : (zm_cd 206)[594]? = some ((1070, .aload_n 2, 1, 2, 0, 0, 0, 0, []) : zm_E) := (ta_9 54).trans rfl
theorem c_206_595 : (zm_cd 206)[595]? = some ((1071, .aload_n 0, 1, 0, 0, 0, 0, 0, []) : zm_E) := (ta_9 55).trans rfl
theorem c_206_596 : (zm_cd 206)[596]? = some ((1072, .iload 4, 2, 4, 0, 0, 0, 0, []) : zm_E) := (ta_9 56).trans rfl
theorem c_206_597 : (zm_cd 206)[597]? = some ((1074, .iconst 1, 1, 0, 0, 0, 1, 0, []) : zm_E) := (ta_9 57).trans rfl
theorem c_206_598 : (zm_cd 206)[598]? = some ((1075, .iadd, 1, 0, 0, 0, 0, 0, []) : zm_E) := (ta_9 58).trans rfl
theorem c_206_599 : (zm_cd 206)[599]? = some ((1076, .iaload, 1, 0, 0, 0, 0, 0, []) : zm_E) := (ta_9 59).trans rfl
theorem ta_10 : ∀ j : Nat, (zm_cd 206)[600 + j]? = (zd_206_10 ++ (zd_206_11 ++ (zd_206_12 ++ (zd_206_13 ++ (zd_206_14 ++ (zd_206_15 ++ zd_206_16))))))[j]? := fun j => by rw [show 600 + j = 540 + (60 + j) by omega]; exact (ta_9 (60 + j)).trans (zq_r zd_206_9 _ j)
theorem c_206_600 : (zm_cd 206)[600]? = some ((1077, .ifCond .eq 7, 3, 603, 0, 0, 0, 0, []) : zm_E) := (ta_10 0).trans rfl
theorem c_206_601 : (zm_cd 206)[601]? = some ((1080, .iconst 1, 1, 0, 0, 0, 1, 0, []) : zm_E) := (ta_10 1).trans rfl
theorem c_206_602 : (zm_cd 206)[602]? = some ((1081, .goto 4, 3, 604, 0, 0, 0, 0, []) : zm_E) := (ta_10 2).trans rfl
theorem c_206_603 : (zm_cd 206)[603]? = some ((1084, .iconst 0, 1, 0, 0, 0, 0, 0, []) : zm_E) := (ta_10 3).trans rfl
theorem c_206_604 : (zm_cd 206)[604]? = some ((1085, .invokevirtual 159, 3, 89, 1, 1, 0, 0, [8]) : zm_E) := (ta_10 4).trans rfl
theorem c_206_605 : (zm_cd 206)[605]? = some ((1088, .if_icmp .eq 564, 3, 970, 0, 0, 0, 0, []) : zm_E) := (ta_10 5).trans rfl
theorem c_206_606 : (zm_cd 206)[606]? = some ((1091, .iconst 0, 1, 0, 0, 0, 0, 0, []) : zm_E) := (ta_10 6).trans rfl
theorem c_206_607 : (zm_cd 206)[607]? = some ((1092, .ireturn, 1, 1, 0, 0, 0, 0, []) : zm_E) := (ta_10 7).trans rfl
theorem c_206_608 : (zm_cd 206)[608]? = some ((1093, .aload_n 1, 1, 1, 0, 0, 0, 0, []) : zm_E) := (ta_10 8).trans rfl
theorem c_206_609 : (zm_cd 206)[609]? = some ((1094, .aload_n 0, 1, 0, 0, 0, 0, 0, []) : zm_E) := (ta_10 9).trans rfl
theorem c_206_610 : (zm_cd 206)[610]? = some ((1095, .iload 4, 2, 4, 0, 0, 0, 0, []) : zm_E) := (ta_10 10).trans rfl
theorem c_206_611 : (zm_cd 206)[611]? = some ((1097, .iconst 1, 1, 0, 0, 0, 1, 0, []) : zm_E) := (ta_10 11).trans rfl
theorem c_206_612 : (zm_cd 206)[612]? = some ((1098, .iadd, 1, 0, 0, 0, 0, 0, []) : zm_E) := (ta_10 12).trans rfl
theorem c_206_613 : (zm_cd 206)[613]? = some ((1099, .iaload, 1, 0, 0, 0, 0, 0, []) : zm_E) := (ta_10 13).trans rfl
theorem c_206_614 : (zm_cd 206)[614]? = some ((1100, .ifCond .eq 7, 3, 617, 0, 0, 0, 0, []) : zm_E) := (ta_10 14).trans rfl
theorem c_206_615 : (zm_cd 206)[615]? = some ((1103, .iconst 1, 1, 0, 0, 0, 1, 0, []) : zm_E) := (ta_10 15).trans rfl
theorem c_206_616 : (zm_cd 206)[616]? = some ((1104, .goto 4, 3, 618, 0, 0, 0, 0, []) : zm_E) := (ta_10 16).trans rfl
theorem c_206_617 : (zm_cd 206)[617]? = some ((1107, .iconst 0, 1, 0, 0, 0, 0, 0, []) : zm_E) := (ta_10 17).trans rfl
theorem c_206_618 : (zm_cd 206)[618]? = some ((1108, .invokevirtual 160, 3, 20, 1, 1, 0, 0, [7]) : zm_E) := (ta_10 18).trans rfl
theorem c_206_619 : (zm_cd 206)[619]? = some ((1111, .aload_n 2, 1, 2, 0, 0, 0, 0, []) : zm_E) := (ta_10 19).trans rfl
theorem c_206_620 : (zm_cd 206)[620]? = some ((1112, .aload_n 0, 1, 0, 0, 0, 0, 0, []) : zm_E) := (ta_10 20).trans rfl
theorem c_206_621 : (zm_cd 206)[621]? = some ((1113, .iload 4, 2, 4, 0, 0, 0, 0, []) : zm_E) := (ta_10 21).trans rfl
theorem c_206_622 : (zm_cd 206)[622]? = some ((1115, .iconst 1, 1, 0, 0, 0, 1, 0, []) : zm_E) := (ta_10 22).trans rfl
theorem c_206_623 : (zm_cd 206)[623]? = some ((1116, .iadd, 1, 0, 0, 0, 0, 0, []) : zm_E) := (ta_10 23).trans rfl
theorem c_206_624 : (zm_cd 206)[624]? = some ((1117, .iaload, 1, 0, 0, 0, 0, 0, []) : zm_E) := (ta_10 24).trans rfl
theorem c_206_625 : (zm_cd 206)[625]? = some ((1118, .ifCond .eq 7, 3, 628, 0, 0, 0, 0, []) : zm_E) := (ta_10 25).trans rfl
theorem c_206_626 : (zm_cd 206)[626]? = some ((1121, .iconst 1, 1, 0, 0, 0, 1, 0, []) : zm_E) := (ta_10 26).trans rfl
theorem c_206_627 : (zm_cd 206)[627]? = some ((1122, .goto 4, 3, 629, 0, 0, 0, 0, []) : zm_E) := (ta_10 27).trans rfl
theorem c_206_628 : (zm_cd 206)[628]? = some ((1125, .iconst 0, 1, 0, 0, 0, 0, 0, []) : zm_E) := (ta_10 28).trans rfl
theorem c_206_629 : (zm_cd 206)[629]? = some ((1126, .invokevirtual 163, 3, 91, 1, 1, 0, 0, [8]) : zm_E) := (ta_10 29).trans rfl
theorem c_206_630 : (zm_cd 206)[630]? = some ((1129, .if_icmp .eq 523, 3, 970, 0, 0, 0, 0, []) : zm_E) := (ta_10 30).trans rfl
theorem c_206_631 : (zm_cd 206)[631]? = some ((1132, .iconst 0, 1, 0, 0, 0, 0, 0, []) : zm_E) := (ta_10 31).trans rfl
theorem c_206_632 : (zm_cd 206)[632]? = some ((1133, .ireturn, 1, 1, 0, 0, 0, 0, []) : zm_E) := (ta_10 32).trans rfl
theorem c_206_633 : (zm_cd 206)[633]? = some ((1134, .aload_n 1, 1, 1, 0, 0, 0, 0, []) : zm_E) := (ta_10 33).trans rfl
theorem c_206_634 : (zm_cd 206)[634]? = some ((1135, .invokevirtual 164, 3, 21, 0, 1, 0, 0, [7]) : zm_E) := (ta_10 34).trans rfl
theorem c_206_635 : (zm_cd 206)[635]? = some ((1138, .aload_n 2, 1, 2, 0, 0, 0, 0, []) : zm_E) := (ta_10 35).trans rfl
theorem c_206_636 : (zm_cd 206)[636]? = some ((1139, .invokevirtual 167, 3, 95, 0, 1, 0, 0, [8]) : zm_E) := (ta_10 36).trans rfl
theorem c_206_637 : (zm_cd 206)[637]? = some ((1142, .if_icmp .eq 510, 3, 970, 0, 0, 0, 0, []) : zm_E) := (ta_10 37).trans rfl
theorem c_206_638 : (zm_cd 206)[638]? = some ((1145, .iconst 0, 1, 0, 0, 0, 0, 0, []) : zm_E) := (ta_10 38).trans rfl
theorem c_206_639 : (zm_cd 206)[639]? = some ((1146, .ireturn, 1, 1, 0, 0, 0, 0, []) : zm_E) := (ta_10 39).trans rfl
theorem c_206_640 : (zm_cd 206)[640]? = some ((1147, .aload_n 1, 1, 1, 0, 0, 0, 0, []) : zm_E) := (ta_10 40).trans rfl
theorem c_206_641 : (zm_cd 206)[641]? = some ((1148, .aload_n 0, 1, 0, 0, 0, 0, 0, []) : zm_E) := (ta_10 41).trans rfl
theorem c_206_642 : (zm_cd 206)[642]? = some ((1149, .iload 4, 2, 4, 0, 0, 0, 0, []) : zm_E) := (ta_10 42).trans rfl
theorem c_206_643 : (zm_cd 206)[643]? = some ((1151, .iconst 1, 1, 0, 0, 0, 1, 0, []) : zm_E) := (ta_10 43).trans rfl
theorem c_206_644 : (zm_cd 206)[644]? = some ((1152, .iadd, 1, 0, 0, 0, 0, 0, []) : zm_E) := (ta_10 44).trans rfl
theorem c_206_645 : (zm_cd 206)[645]? = some ((1153, .iaload, 1, 0, 0, 0, 0, 0, []) : zm_E) := (ta_10 45).trans rfl
theorem c_206_646 : (zm_cd 206)[646]? = some ((1154, .aload_n 3, 1, 3, 0, 0, 0, 0, []) : zm_E) := (ta_10 46).trans rfl
theorem c_206_647 : (zm_cd 206)[647]? = some ((1155, .invokestatic 168, 3, 199, 3, 1, 0, 0, []) : zm_E) := (ta_10 47).trans rfl
theorem c_206_648 : (zm_cd 206)[648]? = some ((1158, .istore 5, 2, 5, 0, 0, 0, 0, []) : zm_E) := (ta_10 48).trans rfl
theorem c_206_649 : (zm_cd 206)[649]? = some ((1160, .aload_n 2, 1, 2, 0, 0, 0, 0, []) : zm_E) := (ta_10 49).trans rfl
theorem c_206_650 : (zm_cd 206)[650]? = some ((1161, .aload_n 0, 1, 0, 0, 0, 0, 0, []) : zm_E) := (ta_10 50).trans rfl
theorem c_206_651 : (zm_cd 206)[651]? = some ((1162, .iload 4, 2, 4, 0, 0, 0, 0, []) : zm_E) := (ta_10 51).trans rfl
theorem c_206_652 : (zm_cd 206)[652]? = some ((1164, .iconst 1, 1, 0, 0, 0, 1, 0, []) : zm_E) := (ta_10 52).trans rfl
theorem c_206_653 : (zm_cd 206)[653]? = some ((1165, .iadd, 1, 0, 0, 0, 0, 0, []) : zm_E) := (ta_10 53).trans rfl
theorem c_206_654 : (zm_cd 206)[654]? = some ((1166, .iaload, 1, 0, 0, 0, 0, 0, []) : zm_E) := (ta_10 54).trans rfl
theorem c_206_655 : (zm_cd 206)[655]? = some ((1167, .invokevirtual 170, 3, 96, 1, 1, 0, 0, [8]) : zm_E) := (ta_10 55).trans rfl
theorem c_206_656 : (zm_cd 206)[656]? = some ((1170, .istore 6, 2, 6, 0, 0, 0, 0, []) : zm_E) := (ta_10 56).trans rfl
theorem c_206_657 : (zm_cd 206)[657]? = some ((1172, .aload_n 2, 1, 2, 0, 0, 0, 0, []) : zm_E) := (ta_10 57).trans rfl
theorem c_206_658 : (zm_cd 206)[658]? = some ((1173, .invokevirtual 94, 3, 39, 0, 1, 0, 0, [8]) : zm_E) := (ta_10 58).trans rfl
theorem c_206_659 : (zm_cd 206)[659]? = some ((1176, .iload 5, 2, 5, 0, 0, 0, 0, []) : zm_E) := (ta_10 59).trans rfl
theorem ta_11 : ∀ j : Nat, (zm_cd 206)[660 + j]? = (zd_206_11 ++ (zd_206_12 ++ (zd_206_13 ++ (zd_206_14 ++ (zd_206_15 ++ zd_206_16)))))[j]? := fun j => by rw [show 660 + j = 600 + (60 + j) by omega]; exact (ta_10 (60 + j)).trans (zq_r zd_206_10 _ j)
theorem c_206_660 : (zm_cd 206)[660]? = some ((1178, .if_icmp .eq 5, 3, 663, 0, 0, 0, 0, []) : zm_E) := (ta_11 0).trans rfl
theorem c_206_661 : (zm_cd 206)[661]? = some ((1181, .iconst 0, 1, 0, 0, 0, 0, 0, []) : zm_E) := (ta_11 1).trans rfl
theorem c_206_662 : (zm_cd 206)[662]? = some ((1182, .ireturn, 1, 1, 0, 0, 0, 0, []) : zm_E) := (ta_11 2).trans rfl
theorem c_206_663 : (zm_cd 206)[663]? = some ((1183, .iload 5, 2, 5, 0, 0, 0, 0, []) : zm_E) := (ta_11 3).trans rfl
theorem c_206_664 : (zm_cd 206)[664]? = some ((1185, .ifCond .ne 15, 3, 674, 0, 0, 0, 0, []) : zm_E) := (ta_11 4).trans rfl
theorem c_206_665 : (zm_cd 206)[665]? = some ((1188, .aload_n 3, 1, 3, 0, 0, 0, 0, []) : zm_E) := (ta_11 5).trans rfl
theorem c_206_666 : (zm_cd 206)[666]? = some ((1189, .iconst 0, 1, 0, 0, 0, 0, 0, []) : zm_E) := (ta_11 6).trans rfl
theorem c_206_667 : (zm_cd 206)[667]? = some ((1190, .laload, 1, 0, 0, 0, 0, 0, []) : zm_E) := (ta_11 7).trans rfl
theorem c_206_668 : (zm_cd 206)[668]? = some ((1191, .iload 6, 2, 6, 0, 0, 0, 0, []) : zm_E) := (ta_11 8).trans rfl
theorem c_206_669 : (zm_cd 206)[669]? = some ((1193, .i2l, 1, 0, 0, 0, 0, 0, []) : zm_E) := (ta_11 9).trans rfl
theorem c_206_670 : (zm_cd 206)[670]? = some ((1194, .lcmp, 1, 0, 0, 0, 0, 0, []) : zm_E) := (ta_11 10).trans rfl
theorem c_206_671 : (zm_cd 206)[671]? = some ((1195, .ifCond .eq 5, 3, 674, 0, 0, 0, 0, []) : zm_E) := (ta_11 11).trans rfl
theorem c_206_672 : (zm_cd 206)[672]? = some ((1198, .iconst 0, 1, 0, 0, 0, 0, 0, []) : zm_E) := (ta_11 12).trans rfl
theorem c_206_673 : (zm_cd 206)[673]? = some ((1199, .ireturn, 1, 1, 0, 0, 0, 0, []) : zm_E) := (ta_11 13).trans rfl
theorem c_206_674 : (zm_cd 206)[674]? = some ((1200, .goto 452, 3, 970, 0, 0, 0, 0, []) : zm_E) := (ta_11 14).trans rfl
theorem c_206_675 : (zm_cd 206)[675]? = some ((1203, .aload_n 1, 1, 1, 0, 0, 0, 0, []) : zm_E) := (ta_11 15).trans rfl
theorem c_206_676 : (zm_cd 206)[676]? = some ((1204, .invokevirtual 171, 3, 23, 0, 1, 0, 0, [7]) : zm_E) := (ta_11 16).trans rfl
theorem c_206_677 : (zm_cd 206)[677]? = some ((1207, .aload_n 2, 1, 2, 0, 0, 0, 0, []) : zm_E) := (ta_11 17).trans rfl
theorem c_206_678 : (zm_cd 206)[678]? = some ((1208, .invokevirtual 174, 3, 97, 0, 1, 0, 0, [8]) : zm_E) := (ta_11 18).trans rfl
theorem c_206_679 : (zm_cd 206)[679]? = some ((1211, .if_icmp .eq 441, 3, 970, 0, 0, 0, 0, []) : zm_E) := (ta_11 19).trans rfl
theorem c_206_680 : (zm_cd 206)[680]? = some ((1214, .iconst 0, 1, 0, 0, 0, 0, 0, []) : zm_E) := (ta_11 20).trans rfl
theorem c_206_681 : (zm_cd 206)[681]? = some ((1215, .ireturn, 1, 1, 0, 0, 0, 0, []) : zm_E) := (ta_11 21).trans rfl
theorem c_206_682 : (zm_cd 206)[682]? = some ((1216, .aload_n 1, 1, 1, 0, 0, 0, 0, []) : zm_E) := (ta_11 22).trans rfl
theorem c_206_683 : (zm_cd 206)[683]? = some ((1217, .aload_n 0, 1, 0, 0, 0, 0, 0, []) : zm_E) := (ta_11 23).trans rfl
theorem c_206_684 : (zm_cd 206)[684]? = some ((1218, .iload 4, 2, 4, 0, 0, 0, 0, []) : zm_E) := (ta_11 24).trans rfl
theorem c_206_685 : (zm_cd 206)[685]? = some ((1220, .iconst 1, 1, 0, 0, 0, 1, 0, []) : zm_E) := (ta_11 25).trans rfl
theorem c_206_686 : (zm_cd 206)[686]? = some ((1221, .iadd, 1, 0, 0, 0, 0, 0, []) : zm_E) := (ta_11 26).trans rfl
theorem c_206_687 : (zm_cd 206)[687]? = some ((1222, .iaload, 1, 0, 0, 0, 0, 0, []) : zm_E) := (ta_11 27).trans rfl
theorem c_206_688 : (zm_cd 206)[688]? = some ((1223, .aload_n 3, 1, 3, 0, 0, 0, 0, []) : zm_E) := (ta_11 28).trans rfl
theorem c_206_689 : (zm_cd 206)[689]? = some ((1224, .invokestatic 175, 3, 200, 3, 1, 0, 0, []) : zm_E) := (ta_11 29).trans rfl
theorem c_206_690 : (zm_cd 206)[690]? = some ((1227, .istore 5, 2, 5, 0, 0, 0, 0, []) : zm_E) := (ta_11 30).trans rfl
theorem c_206_691 : (zm_cd 206)[691]? = some ((1229, .aload_n 2, 1, 2, 0, 0, 0, 0, []) : zm_E) := (ta_11 31).trans rfl
theorem c_206_692 : (zm_cd 206)[692]? = some ((1230, .aload_n 0, 1, 0, 0, 0, 0, 0, []) : zm_E) := (ta_11 32).trans rfl
theorem c_206_693 : (zm_cd 206)[693]? = some ((1231, .iload 4, 2, 4, 0, 0, 0, 0, []) : zm_E) := (ta_11 33).trans rfl
theorem c_206_694 : (zm_cd 206)[694]? = some ((1233, .iconst 1, 1, 0, 0, 0, 1, 0, []) : zm_E) := (ta_11 34).trans rfl
theorem c_206_695 : (zm_cd 206)[695]? = some ((1234, .iadd, 1, 0, 0, 0, 0, 0, []) : zm_E) := (ta_11 35).trans rfl
theorem c_206_696 : (zm_cd 206)[696]? = some ((1235, .iaload, 1, 0, 0, 0, 0, 0, []) : zm_E) := (ta_11 36).trans rfl
theorem c_206_697 : (zm_cd 206)[697]? = some ((1236, .invokevirtual 177, 3, 98, 1, 1, 0, 0, [8]) : zm_E) := (ta_11 37).trans rfl
theorem c_206_698 : (zm_cd 206)[698]? = some ((1239, .istore 6, 2, 6, 0, 0, 0, 0, []) : zm_E) := (ta_11 38).trans rfl
theorem c_206_699 : (zm_cd 206)[699]? = some ((1241, .aload_n 2, 1, 2, 0, 0, 0, 0, []) : zm_E) := (ta_11 39).trans rfl
theorem c_206_700 : (zm_cd 206)[700]? = some ((1242, .invokevirtual 94, 3, 39, 0, 1, 0, 0, [8]) : zm_E) := (ta_11 40).trans rfl
theorem c_206_701 : (zm_cd 206)[701]? = some ((1245, .iload 5, 2, 5, 0, 0, 0, 0, []) : zm_E) := (ta_11 41).trans rfl
theorem c_206_702 : (zm_cd 206)[702]? = some ((1247, .if_icmp .eq 5, 3, 705, 0, 0, 0, 0, []) : zm_E) := (ta_11 42).trans rfl
theorem c_206_703 : (zm_cd 206)[703]? = some ((1250, .iconst 0, 1, 0, 0, 0, 0, 0, []) : zm_E) := (ta_11 43).trans rfl
theorem c_206_704 : (zm_cd 206)[704]? = some ((1251, .ireturn, 1, 1, 0, 0, 0, 0, []) : zm_E) := (ta_11 44).trans rfl
theorem c_206_705 : (zm_cd 206)[705]? = some ((1252, .iload 5, 2, 5, 0, 0, 0, 0, []) : zm_E) := (ta_11 45).trans rfl
theorem c_206_706 : (zm_cd 206)[706]? = some ((1254, .ifCond .ne 15, 3, 716, 0, 0, 0, 0, []) : zm_E) := (ta_11 46).trans rfl
theorem c_206_707 : (zm_cd 206)[707]? = some ((1257, .aload_n 3, 1, 3, 0, 0, 0, 0, []) : zm_E) := (ta_11 47).trans rfl
theorem c_206_708 : (zm_cd 206)[708]? = some ((1258, .iconst 0, 1, 0, 0, 0, 0, 0, []) : zm_E) := (ta_11 48).trans rfl
theorem c_206_709 : (zm_cd 206)[709]? = some ((1259, .laload, 1, 0, 0, 0, 0, 0, []) : zm_E) := (ta_11 49).trans rfl
theorem c_206_710 : (zm_cd 206)[710]? = some ((1260, .iload 6, 2, 6, 0, 0, 0, 0, []) : zm_E) := (ta_11 50).trans rfl
theorem c_206_711 : (zm_cd 206)[711]? = some ((1262, .i2l, 1, 0, 0, 0, 0, 0, []) : zm_E) := (ta_11 51).trans rfl
theorem c_206_712 : (zm_cd 206)[712]? = some ((1263, .lcmp, 1, 0, 0, 0, 0, 0, []) : zm_E) := (ta_11 52).trans rfl
theorem c_206_713 : (zm_cd 206)[713]? = some ((1264, .ifCond .eq 5, 3, 716, 0, 0, 0, 0, []) : zm_E) := (ta_11 53).trans rfl
theorem c_206_714 : (zm_cd 206)[714]? = some ((1267, .iconst 0, 1, 0, 0, 0, 0, 0, []) : zm_E) := (ta_11 54).trans rfl
theorem c_206_715 : (zm_cd 206)[715]? = some ((1268, .ireturn, 1, 1, 0, 0, 0, 0, []) : zm_E) := (ta_11 55).trans rfl
theorem c_206_716 : (zm_cd 206)[716]? = some ((1269, .goto 383, 3, 970, 0, 0, 0, 0, []) : zm_E) := (ta_11 56).trans rfl
theorem c_206_717 : (zm_cd 206)[717]? = some ((1272, .aload_n 1, 1, 1, 0, 0, 0, 0, []) : zm_E) := (ta_11 57).trans rfl
theorem c_206_718 : (zm_cd 206)[718]? = some ((1273, .aload_n 0, 1, 0, 0, 0, 0, 0, []) : zm_E) := (ta_11 58).trans rfl
theorem c_206_719 : (zm_cd 206)[719]? = some ((1274, .iload 4, 2, 4, 0, 0, 0, 0, []) : zm_E) := (ta_11 59).trans rfl
theorem ta_12 : ∀ j : Nat, (zm_cd 206)[720 + j]? = (zd_206_12 ++ (zd_206_13 ++ (zd_206_14 ++ (zd_206_15 ++ zd_206_16))))[j]? := fun j => by rw [show 720 + j = 660 + (60 + j) by omega]; exact (ta_11 (60 + j)).trans (zq_r zd_206_11 _ j)
theorem c_206_720 : (zm_cd 206)[720]? = some ((1276, .iconst 1, 1, 0, 0, 0, 1, 0, []) : zm_E) := (ta_12 0).trans rfl
theorem c_206_721 : (zm_cd 206)[721]? = some ((1277, .iadd, 1, 0, 0, 0, 0, 0, []) : zm_E) := (ta_12 1).trans rfl
theorem c_206_722 : (zm_cd 206)[722]? = some ((1278, .iaload, 1, 0, 0, 0, 0, 0, []) : zm_E) := (ta_12 2).trans rfl
theorem c_206_723 : (zm_cd 206)[723]? = some ((1279, .aload_n 0, 1, 0, 0, 0, 0, 0, []) : zm_E) := (ta_12 3).trans rfl
theorem c_206_724 : (zm_cd 206)[724]? = some ((1280, .iload 4, 2, 4, 0, 0, 0, 0, []) : zm_E) := (ta_12 4).trans rfl
theorem c_206_725 : (zm_cd 206)[725]? = some ((1282, .iconst 2, 1, 0, 0, 0, 2, 0, []) : zm_E) := (ta_12 5).trans rfl
theorem c_206_726 : (zm_cd 206)[726]? = some ((1283, .iadd, 1, 0, 0, 0, 0, 0, []) : zm_E) := (ta_12 6).trans rfl
theorem c_206_727 : (zm_cd 206)[727]? = some ((1284, .iaload, 1, 0, 0, 0, 0, 0, []) : zm_E) := (ta_12 7).trans rfl
theorem c_206_728 : (zm_cd 206)[728]? = some ((1285, .aload_n 3, 1, 3, 0, 0, 0, 0, []) : zm_E) := (ta_12 8).trans rfl
theorem c_206_729 : (zm_cd 206)[729]? = some ((1286, .invokestatic 178, 3, 201, 4, 1, 0, 0, []) : zm_E) := (ta_12 9).trans rfl
theorem c_206_730 : (zm_cd 206)[730]? = some ((1289, .istore 5, 2, 5, 0, 0, 0, 0, []) : zm_E) := (ta_12 10).trans rfl
theorem c_206_731 : (zm_cd 206)[731]? = some ((1291, .aload_n 2, 1, 2, 0, 0, 0, 0, []) : zm_E) := (ta_12 11).trans rfl
theorem c_206_732 : (zm_cd 206)[732]? = some ((1292, .aload_n 0, 1, 0, 0, 0, 0, 0, []) : zm_E) := (ta_12 12).trans rfl
theorem c_206_733 : (zm_cd 206)[733]? = some ((1293, .iload 4, 2, 4, 0, 0, 0, 0, []) : zm_E) := (ta_12 13).trans rfl
theorem c_206_734 : (zm_cd 206)[734]? = some ((1295, .iconst 1, 1, 0, 0, 0, 1, 0, []) : zm_E) := (ta_12 14).trans rfl
theorem c_206_735 : (zm_cd 206)[735]? = some ((1296, .iadd, 1, 0, 0, 0, 0, 0, []) : zm_E) := (ta_12 15).trans rfl
theorem c_206_736 : (zm_cd 206)[736]? = some ((1297, .iaload, 1, 0, 0, 0, 0, 0, []) : zm_E) := (ta_12 16).trans rfl
theorem c_206_737 : (zm_cd 206)[737]? = some ((1298, .aload_n 0, 1, 0, 0, 0, 0, 0, []) : zm_E) := (ta_12 17).trans rfl
theorem c_206_738 : (zm_cd 206)[738]? = some ((1299, .iload 4, 2, 4, 0, 0, 0, 0, []) : zm_E) := (ta_12 18).trans rfl
theorem c_206_739 : (zm_cd 206)[739]? = some ((1301, .iconst 2, 1, 0, 0, 0, 2, 0, []) : zm_E) := (ta_12 19).trans rfl
theorem c_206_740 : (zm_cd 206)[740]? = some ((1302, .iadd, 1, 0, 0, 0, 0, 0, []) : zm_E) := (ta_12 20).trans rfl
theorem c_206_741 : (zm_cd 206)[741]? = some ((1303, .iaload, 1, 0, 0, 0, 0, 0, []) : zm_E) := (ta_12 21).trans rfl
theorem c_206_742 : (zm_cd 206)[742]? = some ((1304, .invokevirtual 180, 3, 103, 2, 1, 0, 0, [8]) : zm_E) := (ta_12 22).trans rfl
theorem c_206_743 : (zm_cd 206)[743]? = some ((1307, .istore 6, 2, 6, 0, 0, 0, 0, []) : zm_E) := (ta_12 23).trans rfl
theorem c_206_744 : (zm_cd 206)[744]? = some ((1309, .aload_n 2, 1, 2, 0, 0, 0, 0, []) : zm_E) := (ta_12 24).trans rfl
theorem c_206_745 : (zm_cd 206)[745]? = some ((1310, .invokevirtual 94, 3, 39, 0, 1, 0, 0, [8]) : zm_E) := (ta_12 25).trans rfl
theorem c_206_746 : (zm_cd 206)[746]? = some ((1313, .iload 5, 2, 5, 0, 0, 0, 0, []) : zm_E) := (ta_12 26).trans rfl
theorem c_206_747 : (zm_cd 206)[747]? = some ((1315, .if_icmp .eq 5, 3, 750, 0, 0, 0, 0, []) : zm_E) := (ta_12 27).trans rfl
theorem c_206_748 : (zm_cd 206)[748]? = some ((1318, .iconst 0, 1, 0, 0, 0, 0, 0, []) : zm_E) := (ta_12 28).trans rfl
theorem c_206_749 : (zm_cd 206)[749]? = some ((1319, .ireturn, 1, 1, 0, 0, 0, 0, []) : zm_E) := (ta_12 29).trans rfl
theorem c_206_750 : (zm_cd 206)[750]? = some ((1320, .iload 5, 2, 5, 0, 0, 0, 0, []) : zm_E) := (ta_12 30).trans rfl
theorem c_206_751 : (zm_cd 206)[751]? = some ((1322, .ifCond .ne 15, 3, 761, 0, 0, 0, 0, []) : zm_E) := (ta_12 31).trans rfl
theorem c_206_752 : (zm_cd 206)[752]? = some ((1325, .aload_n 3, 1, 3, 0, 0, 0, 0, []) : zm_E) := (ta_12 32).trans rfl
theorem c_206_753 : (zm_cd 206)[753]? = some ((1326, .iconst 0, 1, 0, 0, 0, 0, 0, []) : zm_E) := (ta_12 33).trans rfl
theorem c_206_754 : (zm_cd 206)[754]? = some ((1327, .laload, 1, 0, 0, 0, 0, 0, []) : zm_E) := (ta_12 34).trans rfl
theorem c_206_755 : (zm_cd 206)[755]? = some ((1328, .iload 6, 2, 6, 0, 0, 0, 0, []) : zm_E) := (ta_12 35).trans rfl
theorem c_206_756 : (zm_cd 206)[756]? = some ((1330, .i2l, 1, 0, 0, 0, 0, 0, []) : zm_E) := (ta_12 36).trans rfl
theorem c_206_757 : (zm_cd 206)[757]? = some ((1331, .lcmp, 1, 0, 0, 0, 0, 0, []) : zm_E) := (ta_12 37).trans rfl
theorem c_206_758 : (zm_cd 206)[758]? = some ((1332, .ifCond .eq 5, 3, 761, 0, 0, 0, 0, []) : zm_E) := (ta_12 38).trans rfl
theorem c_206_759 : (zm_cd 206)[759]? = some ((1335, .iconst 0, 1, 0, 0, 0, 0, 0, []) : zm_E) := (ta_12 39).trans rfl
theorem c_206_760 : (zm_cd 206)[760]? = some ((1336, .ireturn, 1, 1, 0, 0, 0, 0, []) : zm_E) := (ta_12 40).trans rfl
theorem c_206_761 : (zm_cd 206)[761]? = some ((1337, .goto 315, 3, 970, 0, 0, 0, 0, []) : zm_E) := (ta_12 41).trans rfl
theorem c_206_762 : (zm_cd 206)[762]? = some ((1340, .aload_n 1, 1, 1, 0, 0, 0, 0, []) : zm_E) := (ta_12 42).trans rfl
theorem c_206_763 : (zm_cd 206)[763]? = some ((1341, .aload_n 0, 1, 0, 0, 0, 0, 0, []) : zm_E) := (ta_12 43).trans rfl
theorem c_206_764 : (zm_cd 206)[764]? = some ((1342, .iload 4, 2, 4, 0, 0, 0, 0, []) : zm_E) := (ta_12 44).trans rfl
theorem c_206_765 : (zm_cd 206)[765]? = some ((1344, .iconst 1, 1, 0, 0, 0, 1, 0, []) : zm_E) := (ta_12 45).trans rfl
theorem c_206_766 : (zm_cd 206)[766]? = some ((1345, .iadd, 1, 0, 0, 0, 0, 0, []) : zm_E) := (ta_12 46).trans rfl
theorem c_206_767 : (zm_cd 206)[767]? = some ((1346, .iaload, 1, 0, 0, 0, 0, 0, []) : zm_E) := (ta_12 47).trans rfl
theorem c_206_768 : (zm_cd 206)[768]? = some ((1347, .aload_n 0, 1, 0, 0, 0, 0, 0, []) : zm_E) := (ta_12 48).trans rfl
theorem c_206_769 : (zm_cd 206)[769]? = some ((1348, .iload 4, 2, 4, 0, 0, 0, 0, []) : zm_E) := (ta_12 49).trans rfl
theorem c_206_770 : (zm_cd 206)[770]? = some ((1350, .iconst 2, 1, 0, 0, 0, 2, 0, []) : zm_E) := (ta_12 50).trans rfl
theorem c_206_771 : (zm_cd 206)[771]? = some ((1351, .iadd, 1, 0, 0, 0, 0, 0, []) : zm_E) := (ta_12 51).trans rfl
theorem c_206_772 : (zm_cd 206)[772]? = some ((1352, .iaload, 1, 0, 0, 0, 0, 0, []) : zm_E) := (ta_12 52).trans rfl
theorem c_206_773 : (zm_cd 206)[773]? = some ((1353, .i2l, 1, 0, 0, 0, 0, 0, []) : zm_E) := (ta_12 53).trans rfl
theorem c_206_774 : (zm_cd 206)[774]? = some ((1354, .bipush 32, 2, 0, 0, 0, 32, 0, []) : zm_E) := (ta_12 54).trans rfl
theorem c_206_775 : (zm_cd 206)[775]? = some ((1356, .lshl, 1, 0, 0, 0, 0, 0, []) : zm_E) := (ta_12 55).trans rfl
theorem c_206_776 : (zm_cd 206)[776]? = some ((1357, .aload_n 0, 1, 0, 0, 0, 0, 0, []) : zm_E) := (ta_12 56).trans rfl
theorem c_206_777 : (zm_cd 206)[777]? = some ((1358, .iload 4, 2, 4, 0, 0, 0, 0, []) : zm_E) := (ta_12 57).trans rfl
theorem c_206_778 : (zm_cd 206)[778]? = some ((1360, .iconst 3, 1, 0, 0, 0, 3, 0, []) : zm_E) := (ta_12 58).trans rfl
theorem c_206_779 : (zm_cd 206)[779]? = some ((1361, .iadd, 1, 0, 0, 0, 0, 0, []) : zm_E) := (ta_12 59).trans rfl
theorem ta_13 : ∀ j : Nat, (zm_cd 206)[780 + j]? = (zd_206_13 ++ (zd_206_14 ++ (zd_206_15 ++ zd_206_16)))[j]? := fun j => by rw [show 780 + j = 720 + (60 + j) by omega]; exact (ta_12 (60 + j)).trans (zq_r zd_206_12 _ j)
theorem c_206_780 : (zm_cd 206)[780]? = some ((1362, .iaload, 1, 0, 0, 0, 0, 0, []) : zm_E) := (ta_13 0).trans rfl
theorem c_206_781 : (zm_cd 206)[781]? = some ((1363, .i2l, 1, 0, 0, 0, 0, 0, []) : zm_E) := (ta_13 1).trans rfl
theorem c_206_782 : (zm_cd 206)[782]? = some ((1364, .ldc2_w 181, 3, 0, 0, 0, 0, 4294967295, []) : zm_E) := (ta_13 2).trans rfl
theorem c_206_783 : (zm_cd 206)[783]? = some ((1367, .land, 1, 0, 0, 0, 0, 0, []) : zm_E) := (ta_13 3).trans rfl
theorem c_206_784 : (zm_cd 206)[784]? = some ((1368, .lor, 1, 0, 0, 0, 0, 0, []) : zm_E) := (ta_13 4).trans rfl
theorem c_206_785 : (zm_cd 206)[785]? = some ((1369, .aload_n 3, 1, 3, 0, 0, 0, 0, []) : zm_E) := (ta_13 5).trans rfl
theorem c_206_786 : (zm_cd 206)[786]? = some ((1370, .invokestatic 183, 3, 202, 4, 1, 0, 0, []) : zm_E) := (ta_13 6).trans rfl
theorem c_206_787 : (zm_cd 206)[787]? = some ((1373, .istore 5, 2, 5, 0, 0, 0, 0, []) : zm_E) := (ta_13 7).trans rfl
theorem c_206_788 : (zm_cd 206)[788]? = some ((1375, .aload_n 2, 1, 2, 0, 0, 0, 0, []) : zm_E) := (ta_13 8).trans rfl
theorem c_206_789 : (zm_cd 206)[789]? = some ((1376, .aload_n 0, 1, 0, 0, 0, 0, 0, []) : zm_E) := (ta_13 9).trans rfl
theorem c_206_790 : (zm_cd 206)[790]? = some ((1377, .iload 4, 2, 4, 0, 0, 0, 0, []) : zm_E) := (ta_13 10).trans rfl
theorem c_206_791 : (zm_cd 206)[791]? = some ((1379, .iconst 1, 1, 0, 0, 0, 1, 0, []) : zm_E) := (ta_13 11).trans rfl
theorem c_206_792 : (zm_cd 206)[792]? = some ((1380, .iadd, 1, 0, 0, 0, 0, 0, []) : zm_E) := (ta_13 12).trans rfl
theorem c_206_793 : (zm_cd 206)[793]? = some ((1381, .iaload, 1, 0, 0, 0, 0, 0, []) : zm_E) := (ta_13 13).trans rfl
theorem c_206_794 : (zm_cd 206)[794]? = some ((1382, .aload_n 0, 1, 0, 0, 0, 0, 0, []) : zm_E) := (ta_13 14).trans rfl
theorem c_206_795 : (zm_cd 206)[795]? = some ((1383, .iload 4, 2, 4, 0, 0, 0, 0, []) : zm_E) := (ta_13 15).trans rfl
theorem c_206_796 : (zm_cd 206)[796]? = some ((1385, .iconst 2, 1, 0, 0, 0, 2, 0, []) : zm_E) := (ta_13 16).trans rfl
theorem c_206_797 : (zm_cd 206)[797]? = some ((1386, .iadd, 1, 0, 0, 0, 0, 0, []) : zm_E) := (ta_13 17).trans rfl
theorem c_206_798 : (zm_cd 206)[798]? = some ((1387, .iaload, 1, 0, 0, 0, 0, 0, []) : zm_E) := (ta_13 18).trans rfl
theorem c_206_799 : (zm_cd 206)[799]? = some ((1388, .i2l, 1, 0, 0, 0, 0, 0, []) : zm_E) := (ta_13 19).trans rfl
theorem c_206_800 : (zm_cd 206)[800]? = some ((1389, .bipush 32, 2, 0, 0, 0, 32, 0, []) : zm_E) := (ta_13 20).trans rfl
theorem c_206_801 : (zm_cd 206)[801]? = some ((1391, .lshl, 1, 0, 0, 0, 0, 0, []) : zm_E) := (ta_13 21).trans rfl
theorem c_206_802 : (zm_cd 206)[802]? = some ((1392, .aload_n 0, 1, 0, 0, 0, 0, 0, []) : zm_E) := (ta_13 22).trans rfl
theorem c_206_803 : (zm_cd 206)[803]? = some ((1393, .iload 4, 2, 4, 0, 0, 0, 0, []) : zm_E) := (ta_13 23).trans rfl
theorem c_206_804 : (zm_cd 206)[804]? = some ((1395, .iconst 3, 1, 0, 0, 0, 3, 0, []) : zm_E) := (ta_13 24).trans rfl
theorem c_206_805 : (zm_cd 206)[805]? = some ((1396, .iadd, 1, 0, 0, 0, 0, 0, []) : zm_E) := (ta_13 25).trans rfl
theorem c_206_806 : (zm_cd 206)[806]? = some ((1397, .iaload, 1, 0, 0, 0, 0, 0, []) : zm_E) := (ta_13 26).trans rfl
theorem c_206_807 : (zm_cd 206)[807]? = some ((1398, .i2l, 1, 0, 0, 0, 0, 0, []) : zm_E) := (ta_13 27).trans rfl
theorem c_206_808 : (zm_cd 206)[808]? = some ((1399, .ldc2_w 181, 3, 0, 0, 0, 0, 4294967295, []) : zm_E) := (ta_13 28).trans rfl
theorem c_206_809 : (zm_cd 206)[809]? = some ((1402, .land, 1, 0, 0, 0, 0, 0, []) : zm_E) := (ta_13 29).trans rfl
theorem c_206_810 : (zm_cd 206)[810]? = some ((1403, .lor, 1, 0, 0, 0, 0, 0, []) : zm_E) := (ta_13 30).trans rfl
theorem c_206_811 : (zm_cd 206)[811]? = some ((1404, .invokevirtual 186, 3, 106, 2, 1, 0, 0, [8]) : zm_E) := (ta_13 31).trans rfl
theorem c_206_812 : (zm_cd 206)[812]? = some ((1407, .istore 6, 2, 6, 0, 0, 0, 0, []) : zm_E) := (ta_13 32).trans rfl
theorem c_206_813 : (zm_cd 206)[813]? = some ((1409, .aload_n 2, 1, 2, 0, 0, 0, 0, []) : zm_E) := (ta_13 33).trans rfl
theorem c_206_814 : (zm_cd 206)[814]? = some ((1410, .invokevirtual 94, 3, 39, 0, 1, 0, 0, [8]) : zm_E) := (ta_13 34).trans rfl
theorem c_206_815 : (zm_cd 206)[815]? = some ((1413, .iload 5, 2, 5, 0, 0, 0, 0, []) : zm_E) := (ta_13 35).trans rfl
theorem c_206_816 : (zm_cd 206)[816]? = some ((1415, .if_icmp .eq 5, 3, 819, 0, 0, 0, 0, []) : zm_E) := (ta_13 36).trans rfl
theorem c_206_817 : (zm_cd 206)[817]? = some ((1418, .iconst 0, 1, 0, 0, 0, 0, 0, []) : zm_E) := (ta_13 37).trans rfl
theorem c_206_818 : (zm_cd 206)[818]? = some ((1419, .ireturn, 1, 1, 0, 0, 0, 0, []) : zm_E) := (ta_13 38).trans rfl
theorem c_206_819 : (zm_cd 206)[819]? = some ((1420, .iload 5, 2, 5, 0, 0, 0, 0, []) : zm_E) := (ta_13 39).trans rfl
theorem c_206_820 : (zm_cd 206)[820]? = some ((1422, .ifCond .ne 15, 3, 830, 0, 0, 0, 0, []) : zm_E) := (ta_13 40).trans rfl
theorem c_206_821 : (zm_cd 206)[821]? = some ((1425, .aload_n 3, 1, 3, 0, 0, 0, 0, []) : zm_E) := (ta_13 41).trans rfl
theorem c_206_822 : (zm_cd 206)[822]? = some ((1426, .iconst 0, 1, 0, 0, 0, 0, 0, []) : zm_E) := (ta_13 42).trans rfl
theorem c_206_823 : (zm_cd 206)[823]? = some ((1427, .laload, 1, 0, 0, 0, 0, 0, []) : zm_E) := (ta_13 43).trans rfl
theorem c_206_824 : (zm_cd 206)[824]? = some ((1428, .iload 6, 2, 6, 0, 0, 0, 0, []) : zm_E) := (ta_13 44).trans rfl
theorem c_206_825 : (zm_cd 206)[825]? = some ((1430, .i2l, 1, 0, 0, 0, 0, 0, []) : zm_E) := (ta_13 45).trans rfl
theorem c_206_826 : (zm_cd 206)[826]? = some ((1431, .lcmp, 1, 0, 0, 0, 0, 0, []) : zm_E) := (ta_13 46).trans rfl
theorem c_206_827 : (zm_cd 206)[827]? = some ((1432, .ifCond .eq 5, 3, 830, 0, 0, 0, 0, []) : zm_E) := (ta_13 47).trans rfl
theorem c_206_828 : (zm_cd 206)[828]? = some ((1435, .iconst 0, 1, 0, 0, 0, 0, 0, []) : zm_E) := (ta_13 48).trans rfl
theorem c_206_829 : (zm_cd 206)[829]? = some ((1436, .ireturn, 1, 1, 0, 0, 0, 0, []) : zm_E) := (ta_13 49).trans rfl
theorem c_206_830 : (zm_cd 206)[830]? = some ((1437, .goto 215, 3, 970, 0, 0, 0, 0, []) : zm_E) := (ta_13 50).trans rfl
theorem c_206_831 : (zm_cd 206)[831]? = some ((1440, .aload_n 1, 1, 1, 0, 0, 0, 0, []) : zm_E) := (ta_13 51).trans rfl
theorem c_206_832 : (zm_cd 206)[832]? = some ((1441, .aload_n 0, 1, 0, 0, 0, 0, 0, []) : zm_E) := (ta_13 52).trans rfl
theorem c_206_833 : (zm_cd 206)[833]? = some ((1442, .iload 4, 2, 4, 0, 0, 0, 0, []) : zm_E) := (ta_13 53).trans rfl
theorem c_206_834 : (zm_cd 206)[834]? = some ((1444, .iconst 1, 1, 0, 0, 0, 1, 0, []) : zm_E) := (ta_13 54).trans rfl
theorem c_206_835 : (zm_cd 206)[835]? = some ((1445, .iadd, 1, 0, 0, 0, 0, 0, []) : zm_E) := (ta_13 55).trans rfl
theorem c_206_836 : (zm_cd 206)[836]? = some ((1446, .iaload, 1, 0, 0, 0, 0, 0, []) : zm_E) := (ta_13 56).trans rfl
theorem c_206_837 : (zm_cd 206)[837]? = some ((1447, .i2l, 1, 0, 0, 0, 0, 0, []) : zm_E) := (ta_13 57).trans rfl
theorem c_206_838 : (zm_cd 206)[838]? = some ((1448, .bipush 32, 2, 0, 0, 0, 32, 0, []) : zm_E) := (ta_13 58).trans rfl
theorem c_206_839 : (zm_cd 206)[839]? = some ((1450, .lshl, 1, 0, 0, 0, 0, 0, []) : zm_E) := (ta_13 59).trans rfl
theorem ta_14 : ∀ j : Nat, (zm_cd 206)[840 + j]? = (zd_206_14 ++ (zd_206_15 ++ zd_206_16))[j]? := fun j => by rw [show 840 + j = 780 + (60 + j) by omega]; exact (ta_13 (60 + j)).trans (zq_r zd_206_13 _ j)
theorem c_206_840 : (zm_cd 206)[840]? = some ((1451, .aload_n 0, 1, 0, 0, 0, 0, 0, []) : zm_E) := (ta_14 0).trans rfl
theorem c_206_841 : (zm_cd 206)[841]? = some ((1452, .iload 4, 2, 4, 0, 0, 0, 0, []) : zm_E) := (ta_14 1).trans rfl
theorem c_206_842 : (zm_cd 206)[842]? = some ((1454, .iconst 2, 1, 0, 0, 0, 2, 0, []) : zm_E) := (ta_14 2).trans rfl
theorem c_206_843 : (zm_cd 206)[843]? = some ((1455, .iadd, 1, 0, 0, 0, 0, 0, []) : zm_E) := (ta_14 3).trans rfl
theorem c_206_844 : (zm_cd 206)[844]? = some ((1456, .iaload, 1, 0, 0, 0, 0, 0, []) : zm_E) := (ta_14 4).trans rfl
theorem c_206_845 : (zm_cd 206)[845]? = some ((1457, .i2l, 1, 0, 0, 0, 0, 0, []) : zm_E) := (ta_14 5).trans rfl
theorem c_206_846 : (zm_cd 206)[846]? = some ((1458, .ldc2_w 181, 3, 0, 0, 0, 0, 4294967295, []) : zm_E) := (ta_14 6).trans rfl
theorem c_206_847 : (zm_cd 206)[847]? = some ((1461, .land, 1, 0, 0, 0, 0, 0, []) : zm_E) := (ta_14 7).trans rfl
theorem c_206_848 : (zm_cd 206)[848]? = some ((1462, .lor, 1, 0, 0, 0, 0, 0, []) : zm_E) := (ta_14 8).trans rfl
theorem c_206_849 : (zm_cd 206)[849]? = some ((1463, .aload_n 0, 1, 0, 0, 0, 0, 0, []) : zm_E) := (ta_14 9).trans rfl
theorem c_206_850 : (zm_cd 206)[850]? = some ((1464, .iload 4, 2, 4, 0, 0, 0, 0, []) : zm_E) := (ta_14 10).trans rfl
theorem c_206_851 : (zm_cd 206)[851]? = some ((1466, .iconst 3, 1, 0, 0, 0, 3, 0, []) : zm_E) := (ta_14 11).trans rfl
theorem c_206_852 : (zm_cd 206)[852]? = some ((1467, .iadd, 1, 0, 0, 0, 0, 0, []) : zm_E) := (ta_14 12).trans rfl
theorem c_206_853 : (zm_cd 206)[853]? = some ((1468, .iaload, 1, 0, 0, 0, 0, 0, []) : zm_E) := (ta_14 13).trans rfl
theorem c_206_854 : (zm_cd 206)[854]? = some ((1469, .aload_n 3, 1, 3, 0, 0, 0, 0, []) : zm_E) := (ta_14 14).trans rfl
theorem c_206_855 : (zm_cd 206)[855]? = some ((1470, .invokestatic 187, 3, 203, 4, 1, 0, 0, []) : zm_E) := (ta_14 15).trans rfl
theorem c_206_856 : (zm_cd 206)[856]? = some ((1473, .istore 5, 2, 5, 0, 0, 0, 0, []) : zm_E) := (ta_14 16).trans rfl
theorem c_206_857 : (zm_cd 206)[857]? = some ((1475, .aload_n 2, 1, 2, 0, 0, 0, 0, []) : zm_E) := (ta_14 17).trans rfl
theorem c_206_858 : (zm_cd 206)[858]? = some ((1476, .aload_n 0, 1, 0, 0, 0, 0, 0, []) : zm_E) := (ta_14 18).trans rfl
theorem c_206_859 : (zm_cd 206)[859]? = some ((1477, .iload 4, 2, 4, 0, 0, 0, 0, []) : zm_E) := (ta_14 19).trans rfl
theorem c_206_860 : (zm_cd 206)[860]? = some ((1479, .iconst 1, 1, 0, 0, 0, 1, 0, []) : zm_E) := (ta_14 20).trans rfl
theorem c_206_861 : (zm_cd 206)[861]? = some ((1480, .iadd, 1, 0, 0, 0, 0, 0, []) : zm_E) := (ta_14 21).trans rfl
theorem c_206_862 : (zm_cd 206)[862]? = some ((1481, .iaload, 1, 0, 0, 0, 0, 0, []) : zm_E) := (ta_14 22).trans rfl
theorem c_206_863 : (zm_cd 206)[863]? = some ((1482, .i2l, 1, 0, 0, 0, 0, 0, []) : zm_E) := (ta_14 23).trans rfl
theorem c_206_864 : (zm_cd 206)[864]? = some ((1483, .bipush 32, 2, 0, 0, 0, 32, 0, []) : zm_E) := (ta_14 24).trans rfl
theorem c_206_865 : (zm_cd 206)[865]? = some ((1485, .lshl, 1, 0, 0, 0, 0, 0, []) : zm_E) := (ta_14 25).trans rfl
theorem c_206_866 : (zm_cd 206)[866]? = some ((1486, .aload_n 0, 1, 0, 0, 0, 0, 0, []) : zm_E) := (ta_14 26).trans rfl
theorem c_206_867 : (zm_cd 206)[867]? = some ((1487, .iload 4, 2, 4, 0, 0, 0, 0, []) : zm_E) := (ta_14 27).trans rfl
theorem c_206_868 : (zm_cd 206)[868]? = some ((1489, .iconst 2, 1, 0, 0, 0, 2, 0, []) : zm_E) := (ta_14 28).trans rfl
theorem c_206_869 : (zm_cd 206)[869]? = some ((1490, .iadd, 1, 0, 0, 0, 0, 0, []) : zm_E) := (ta_14 29).trans rfl
theorem c_206_870 : (zm_cd 206)[870]? = some ((1491, .iaload, 1, 0, 0, 0, 0, 0, []) : zm_E) := (ta_14 30).trans rfl
theorem c_206_871 : (zm_cd 206)[871]? = some ((1492, .i2l, 1, 0, 0, 0, 0, 0, []) : zm_E) := (ta_14 31).trans rfl
theorem c_206_872 : (zm_cd 206)[872]? = some ((1493, .ldc2_w 181, 3, 0, 0, 0, 0, 4294967295, []) : zm_E) := (ta_14 32).trans rfl
theorem c_206_873 : (zm_cd 206)[873]? = some ((1496, .land, 1, 0, 0, 0, 0, 0, []) : zm_E) := (ta_14 33).trans rfl
theorem c_206_874 : (zm_cd 206)[874]? = some ((1497, .lor, 1, 0, 0, 0, 0, 0, []) : zm_E) := (ta_14 34).trans rfl
theorem c_206_875 : (zm_cd 206)[875]? = some ((1498, .aload_n 0, 1, 0, 0, 0, 0, 0, []) : zm_E) := (ta_14 35).trans rfl
theorem c_206_876 : (zm_cd 206)[876]? = some ((1499, .iload 4, 2, 4, 0, 0, 0, 0, []) : zm_E) := (ta_14 36).trans rfl
theorem c_206_877 : (zm_cd 206)[877]? = some ((1501, .iconst 3, 1, 0, 0, 0, 3, 0, []) : zm_E) := (ta_14 37).trans rfl
theorem c_206_878 : (zm_cd 206)[878]? = some ((1502, .iadd, 1, 0, 0, 0, 0, 0, []) : zm_E) := (ta_14 38).trans rfl
theorem c_206_879 : (zm_cd 206)[879]? = some ((1503, .iaload, 1, 0, 0, 0, 0, 0, []) : zm_E) := (ta_14 39).trans rfl
theorem c_206_880 : (zm_cd 206)[880]? = some ((1504, .invokevirtual 190, 3, 107, 2, 1, 0, 0, [8]) : zm_E) := (ta_14 40).trans rfl
theorem c_206_881 : (zm_cd 206)[881]? = some ((1507, .istore 6, 2, 6, 0, 0, 0, 0, []) : zm_E) := (ta_14 41).trans rfl
theorem c_206_882 : (zm_cd 206)[882]? = some ((1509, .aload_n 2, 1, 2, 0, 0, 0, 0, []) : zm_E) := (ta_14 42).trans rfl
theorem c_206_883 : (zm_cd 206)[883]? = some ((1510, .invokevirtual 94, 3, 39, 0, 1, 0, 0, [8]) : zm_E) := (ta_14 43).trans rfl
theorem c_206_884 : (zm_cd 206)[884]? = some ((1513, .iload 5, 2, 5, 0, 0, 0, 0, []) : zm_E) := (ta_14 44).trans rfl
theorem c_206_885 : (zm_cd 206)[885]? = some ((1515, .if_icmp .eq 5, 3, 888, 0, 0, 0, 0, []) : zm_E) := (ta_14 45).trans rfl
theorem c_206_886 : (zm_cd 206)[886]? = some ((1518, .iconst 0, 1, 0, 0, 0, 0, 0, []) : zm_E) := (ta_14 46).trans rfl
theorem c_206_887 : (zm_cd 206)[887]? = some ((1519, .ireturn, 1, 1, 0, 0, 0, 0, []) : zm_E) := (ta_14 47).trans rfl
theorem c_206_888 : (zm_cd 206)[888]? = some ((1520, .iload 5, 2, 5, 0, 0, 0, 0, []) : zm_E) := (ta_14 48).trans rfl
theorem c_206_889 : (zm_cd 206)[889]? = some ((1522, .ifCond .ne 15, 3, 899, 0, 0, 0, 0, []) : zm_E) := (ta_14 49).trans rfl
theorem c_206_890 : (zm_cd 206)[890]? = some ((1525, .aload_n 3, 1, 3, 0, 0, 0, 0, []) : zm_E) := (ta_14 50).trans rfl
theorem c_206_891 : (zm_cd 206)[891]? = some ((1526, .iconst 0, 1, 0, 0, 0, 0, 0, []) : zm_E) := (ta_14 51).trans rfl
theorem c_206_892 : (zm_cd 206)[892]? = some ((1527, .laload, 1, 0, 0, 0, 0, 0, []) : zm_E) := (ta_14 52).trans rfl
theorem c_206_893 : (zm_cd 206)[893]? = some ((1528, .iload 6, 2, 6, 0, 0, 0, 0, []) : zm_E) := (ta_14 53).trans rfl
theorem c_206_894 : (zm_cd 206)[894]? = some ((1530, .i2l, 1, 0, 0, 0, 0, 0, []) : zm_E) := (ta_14 54).trans rfl
theorem c_206_895 : (zm_cd 206)[895]? = some ((1531, .lcmp, 1, 0, 0, 0, 0, 0, []) : zm_E) := (ta_14 55).trans rfl
theorem c_206_896 : (zm_cd 206)[896]? = some ((1532, .ifCond .eq 5, 3, 899, 0, 0, 0, 0, []) : zm_E) := (ta_14 56).trans rfl
theorem c_206_897 : (zm_cd 206)[897]? = some ((1535, .iconst 0, 1, 0, 0, 0, 0, 0, []) : zm_E) := (ta_14 57).trans rfl
theorem c_206_898 : (zm_cd 206)[898]? = some ((1536, .ireturn, 1, 1, 0, 0, 0, 0, []) : zm_E) := (ta_14 58).trans rfl
theorem c_206_899 : (zm_cd 206)[899]? = some ((1537, .goto 115, 3, 970, 0, 0, 0, 0, []) : zm_E) := (ta_14 59).trans rfl
theorem ta_15 : ∀ j : Nat, (zm_cd 206)[900 + j]? = (zd_206_15 ++ zd_206_16)[j]? := fun j => by rw [show 900 + j = 840 + (60 + j) by omega]; exact (ta_14 (60 + j)).trans (zq_r zd_206_14 _ j)
theorem c_206_900 : (zm_cd 206)[900]? = some ((1540, .aload_n 1, 1, 1, 0, 0, 0, 0, []) : zm_E) := (ta_15 0).trans rfl
theorem c_206_901 : (zm_cd 206)[901]? = some ((1541, .aload_n 0, 1, 0, 0, 0, 0, 0, []) : zm_E) := (ta_15 1).trans rfl
theorem c_206_902 : (zm_cd 206)[902]? = some ((1542, .iload 4, 2, 4, 0, 0, 0, 0, []) : zm_E) := (ta_15 2).trans rfl
theorem c_206_903 : (zm_cd 206)[903]? = some ((1544, .iconst 1, 1, 0, 0, 0, 1, 0, []) : zm_E) := (ta_15 3).trans rfl
theorem c_206_904 : (zm_cd 206)[904]? = some ((1545, .iadd, 1, 0, 0, 0, 0, 0, []) : zm_E) := (ta_15 4).trans rfl
theorem c_206_905 : (zm_cd 206)[905]? = some ((1546, .iaload, 1, 0, 0, 0, 0, 0, []) : zm_E) := (ta_15 5).trans rfl
theorem c_206_906 : (zm_cd 206)[906]? = some ((1547, .aload_n 3, 1, 3, 0, 0, 0, 0, []) : zm_E) := (ta_15 6).trans rfl
theorem c_206_907 : (zm_cd 206)[907]? = some ((1548, .invokestatic 191, 3, 204, 3, 1, 0, 0, []) : zm_E) := (ta_15 7).trans rfl
theorem c_206_908 : (zm_cd 206)[908]? = some ((1551, .istore 5, 2, 5, 0, 0, 0, 0, []) : zm_E) := (ta_15 8).trans rfl
theorem c_206_909 : (zm_cd 206)[909]? = some ((1553, .aload_n 2, 1, 2, 0, 0, 0, 0, []) : zm_E) := (ta_15 9).trans rfl
theorem c_206_910 : (zm_cd 206)[910]? = some ((1554, .aload_n 0, 1, 0, 0, 0, 0, 0, []) : zm_E) := (ta_15 10).trans rfl
theorem c_206_911 : (zm_cd 206)[911]? = some ((1555, .iload 4, 2, 4, 0, 0, 0, 0, []) : zm_E) := (ta_15 11).trans rfl
theorem c_206_912 : (zm_cd 206)[912]? = some ((1557, .iconst 1, 1, 0, 0, 0, 1, 0, []) : zm_E) := (ta_15 12).trans rfl
theorem c_206_913 : (zm_cd 206)[913]? = some ((1558, .iadd, 1, 0, 0, 0, 0, 0, []) : zm_E) := (ta_15 13).trans rfl
theorem c_206_914 : (zm_cd 206)[914]? = some ((1559, .iaload, 1, 0, 0, 0, 0, 0, []) : zm_E) := (ta_15 14).trans rfl
theorem c_206_915 : (zm_cd 206)[915]? = some ((1560, .invokevirtual 193, 3, 108, 1, 1, 0, 0, [8]) : zm_E) := (ta_15 15).trans rfl
theorem c_206_916 : (zm_cd 206)[916]? = some ((1563, .istore 6, 2, 6, 0, 0, 0, 0, []) : zm_E) := (ta_15 16).trans rfl
theorem c_206_917 : (zm_cd 206)[917]? = some ((1565, .aload_n 2, 1, 2, 0, 0, 0, 0, []) : zm_E) := (ta_15 17).trans rfl
theorem c_206_918 : (zm_cd 206)[918]? = some ((1566, .invokevirtual 94, 3, 39, 0, 1, 0, 0, [8]) : zm_E) := (ta_15 18).trans rfl
theorem c_206_919 : (zm_cd 206)[919]? = some ((1569, .iload 5, 2, 5, 0, 0, 0, 0, []) : zm_E) := (ta_15 19).trans rfl
theorem c_206_920 : (zm_cd 206)[920]? = some ((1571, .if_icmp .eq 5, 3, 923, 0, 0, 0, 0, []) : zm_E) := (ta_15 20).trans rfl
theorem c_206_921 : (zm_cd 206)[921]? = some ((1574, .iconst 0, 1, 0, 0, 0, 0, 0, []) : zm_E) := (ta_15 21).trans rfl
theorem c_206_922 : (zm_cd 206)[922]? = some ((1575, .ireturn, 1, 1, 0, 0, 0, 0, []) : zm_E) := (ta_15 22).trans rfl
theorem c_206_923 : (zm_cd 206)[923]? = some ((1576, .iload 5, 2, 5, 0, 0, 0, 0, []) : zm_E) := (ta_15 23).trans rfl
theorem c_206_924 : (zm_cd 206)[924]? = some ((1578, .ifCond .ne 15, 3, 934, 0, 0, 0, 0, []) : zm_E) := (ta_15 24).trans rfl
theorem c_206_925 : (zm_cd 206)[925]? = some ((1581, .aload_n 3, 1, 3, 0, 0, 0, 0, []) : zm_E) := (ta_15 25).trans rfl
theorem c_206_926 : (zm_cd 206)[926]? = some ((1582, .iconst 0, 1, 0, 0, 0, 0, 0, []) : zm_E) := (ta_15 26).trans rfl
theorem c_206_927 : (zm_cd 206)[927]? = some ((1583, .laload, 1, 0, 0, 0, 0, 0, []) : zm_E) := (ta_15 27).trans rfl
theorem c_206_928 : (zm_cd 206)[928]? = some ((1584, .iload 6, 2, 6, 0, 0, 0, 0, []) : zm_E) := (ta_15 28).trans rfl
theorem c_206_929 : (zm_cd 206)[929]? = some ((1586, .i2l, 1, 0, 0, 0, 0, 0, []) : zm_E) := (ta_15 29).trans rfl
theorem c_206_930 : (zm_cd 206)[930]? = some ((1587, .lcmp, 1, 0, 0, 0, 0, 0, []) : zm_E) := (ta_15 30).trans rfl
theorem c_206_931 : (zm_cd 206)[931]? = some ((1588, .ifCond .eq 5, 3, 934, 0, 0, 0, 0, []) : zm_E) := (ta_15 31).trans rfl
theorem c_206_932 : (zm_cd 206)[932]? = some ((1591, .iconst 0, 1, 0, 0, 0, 0, 0, []) : zm_E) := (ta_15 32).trans rfl
theorem c_206_933 : (zm_cd 206)[933]? = some ((1592, .ireturn, 1, 1, 0, 0, 0, 0, []) : zm_E) := (ta_15 33).trans rfl
theorem c_206_934 : (zm_cd 206)[934]? = some ((1593, .goto 59, 3, 970, 0, 0, 0, 0, []) : zm_E) := (ta_15 34).trans rfl
theorem c_206_935 : (zm_cd 206)[935]? = some ((1596, .aload_n 1, 1, 1, 0, 0, 0, 0, []) : zm_E) := (ta_15 35).trans rfl
theorem c_206_936 : (zm_cd 206)[936]? = some ((1597, .aload_n 0, 1, 0, 0, 0, 0, 0, []) : zm_E) := (ta_15 36).trans rfl
theorem c_206_937 : (zm_cd 206)[937]? = some ((1598, .iload 4, 2, 4, 0, 0, 0, 0, []) : zm_E) := (ta_15 37).trans rfl
theorem c_206_938 : (zm_cd 206)[938]? = some ((1600, .iconst 1, 1, 0, 0, 0, 1, 0, []) : zm_E) := (ta_15 38).trans rfl
theorem c_206_939 : (zm_cd 206)[939]? = some ((1601, .iadd, 1, 0, 0, 0, 0, 0, []) : zm_E) := (ta_15 39).trans rfl
theorem c_206_940 : (zm_cd 206)[940]? = some ((1602, .iaload, 1, 0, 0, 0, 0, 0, []) : zm_E) := (ta_15 40).trans rfl
theorem c_206_941 : (zm_cd 206)[941]? = some ((1603, .aload_n 3, 1, 3, 0, 0, 0, 0, []) : zm_E) := (ta_15 41).trans rfl
theorem c_206_942 : (zm_cd 206)[942]? = some ((1604, .invokestatic 194, 3, 205, 3, 1, 0, 0, []) : zm_E) := (ta_15 42).trans rfl
theorem c_206_943 : (zm_cd 206)[943]? = some ((1607, .istore 5, 2, 5, 0, 0, 0, 0, []) : zm_E) := (ta_15 43).trans rfl
theorem c_206_944 : (zm_cd 206)[944]? = some ((1609, .aload_n 2, 1, 2, 0, 0, 0, 0, []) : zm_E) := (ta_15 44).trans rfl
theorem c_206_945 : (zm_cd 206)[945]? = some ((1610, .aload_n 0, 1, 0, 0, 0, 0, 0, []) : zm_E) := (ta_15 45).trans rfl
theorem c_206_946 : (zm_cd 206)[946]? = some ((1611, .iload 4, 2, 4, 0, 0, 0, 0, []) : zm_E) := (ta_15 46).trans rfl
theorem c_206_947 : (zm_cd 206)[947]? = some ((1613, .iconst 1, 1, 0, 0, 0, 1, 0, []) : zm_E) := (ta_15 47).trans rfl
theorem c_206_948 : (zm_cd 206)[948]? = some ((1614, .iadd, 1, 0, 0, 0, 0, 0, []) : zm_E) := (ta_15 48).trans rfl
theorem c_206_949 : (zm_cd 206)[949]? = some ((1615, .iaload, 1, 0, 0, 0, 0, 0, []) : zm_E) := (ta_15 49).trans rfl
theorem c_206_950 : (zm_cd 206)[950]? = some ((1616, .invokevirtual 196, 3, 109, 1, 1, 0, 0, [8]) : zm_E) := (ta_15 50).trans rfl
theorem c_206_951 : (zm_cd 206)[951]? = some ((1619, .istore 6, 2, 6, 0, 0, 0, 0, []) : zm_E) := (ta_15 51).trans rfl
theorem c_206_952 : (zm_cd 206)[952]? = some ((1621, .aload_n 2, 1, 2, 0, 0, 0, 0, []) : zm_E) := (ta_15 52).trans rfl
theorem c_206_953 : (zm_cd 206)[953]? = some ((1622, .invokevirtual 94, 3, 39, 0, 1, 0, 0, [8]) : zm_E) := (ta_15 53).trans rfl
theorem c_206_954 : (zm_cd 206)[954]? = some ((1625, .iload 5, 2, 5, 0, 0, 0, 0, []) : zm_E) := (ta_15 54).trans rfl
theorem c_206_955 : (zm_cd 206)[955]? = some ((1627, .if_icmp .eq 5, 3, 958, 0, 0, 0, 0, []) : zm_E) := (ta_15 55).trans rfl
theorem c_206_956 : (zm_cd 206)[956]? = some ((1630, .iconst 0, 1, 0, 0, 0, 0, 0, []) : zm_E) := (ta_15 56).trans rfl
theorem c_206_957 : (zm_cd 206)[957]? = some ((1631, .ireturn, 1, 1, 0, 0, 0, 0, []) : zm_E) := (ta_15 57).trans rfl
theorem c_206_958 : (zm_cd 206)[958]? = some ((1632, .iload 5, 2, 5, 0, 0, 0, 0, []) : zm_E) := (ta_15 58).trans rfl
theorem c_206_959 : (zm_cd 206)[959]? = some ((1634, .ifCond .ne 15, 3, 969, 0, 0, 0, 0, []) : zm_E) := (ta_15 59).trans rfl
theorem ta_16 : ∀ j : Nat, (zm_cd 206)[960 + j]? = zd_206_16[j]? := fun j => by rw [show 960 + j = 900 + (60 + j) by omega]; exact (ta_15 (60 + j)).trans (zq_r zd_206_15 _ j)
theorem c_206_960 : (zm_cd 206)[960]? = some ((1637, .aload_n 3, 1, 3, 0, 0, 0, 0, []) : zm_E) := (ta_16 0).trans rfl
theorem c_206_961 : (zm_cd 206)[961]? = some ((1638, .iconst 0, 1, 0, 0, 0, 0, 0, []) : zm_E) := (ta_16 1).trans rfl
theorem c_206_962 : (zm_cd 206)[962]? = some ((1639, .laload, 1, 0, 0, 0, 0, 0, []) : zm_E) := (ta_16 2).trans rfl
theorem c_206_963 : (zm_cd 206)[963]? = some ((1640, .iload 6, 2, 6, 0, 0, 0, 0, []) : zm_E) := (ta_16 3).trans rfl
theorem c_206_964 : (zm_cd 206)[964]? = some ((1642, .i2l, 1, 0, 0, 0, 0, 0, []) : zm_E) := (ta_16 4).trans rfl
theorem c_206_965 : (zm_cd 206)[965]? = some ((1643, .lcmp, 1, 0, 0, 0, 0, 0, []) : zm_E) := (ta_16 5).trans rfl
theorem c_206_966 : (zm_cd 206)[966]? = some ((1644, .ifCond .eq 5, 3, 969, 0, 0, 0, 0, []) : zm_E) := (ta_16 6).trans rfl
theorem c_206_967 : (zm_cd 206)[967]? = some ((1647, .iconst 0, 1, 0, 0, 0, 0, 0, []) : zm_E) := (ta_16 7).trans rfl
theorem c_206_968 : (zm_cd 206)[968]? = some ((1648, .ireturn, 1, 1, 0, 0, 0, 0, []) : zm_E) := (ta_16 8).trans rfl
theorem c_206_969 : (zm_cd 206)[969]? = some ((1649, .goto 3, 3, 970, 0, 0, 0, 0, []) : zm_E) := (ta_16 9).trans rfl
theorem c_206_970 : (zm_cd 206)[970]? = some ((1652, .iinc 4 4, 3, 4, 0, 0, 4, 0, []) : zm_E) := (ta_16 10).trans rfl
theorem c_206_971 : (zm_cd 206)[971]? = some ((1655, .goto (-1632), 3, 13, 0, 0, 0, 0, []) : zm_E) := (ta_16 11).trans rfl
theorem c_206_972 : (zm_cd 206)[972]? = some ((1658, .iconst 1, 1, 0, 0, 0, 1, 0, []) : zm_E) := (ta_16 12).trans rfl
theorem c_206_973 : (zm_cd 206)[973]? = some ((1659, .ireturn, 1, 1, 0, 0, 0, 0, []) : zm_E) := (ta_16 13).trans rfl
