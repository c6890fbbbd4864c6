/-! the instructions of the longer methods, by program -/
theorem zq_r {α : Type} (A B : List α) (j : Nat) : (A ++ B)[A.length + j]? = B[j]? := by rw [List.getElem?_append_right (by omega)]; congr 1; omega
theorem ml_187 : zm_ml 187 = 13 := rfl
theorem ht_187 : zm_ht 187 = [] := rfl
theorem ta187_0 : ∀ j : Nat, (zm_cd 187)[j]? = (zd_187_0 ++ (zd_187_1 ++ (zd_187_2 ++ zd_187_3)))[j]? := fun j => rfl
theorem c_187_0 : (zm_cd 187)[0]? = some ((0, .iconst 0, 1, 0, 0, 0, 0, 0, []) : zm_E) := (ta187_0 0).trans rfl
theorem c_187_1 : (zm_cd 187)[1]? = some ((1, .istore_n 1, 1, 1, 0, 0, 0, 0, []) : zm_E) := (ta187_0 1).trans rfl
theorem c_187_2 : (zm_cd 187)[2]? = some ((2, .iconst 0, 1, 0, 0, 0, 0, 0, []) : zm_E) := (ta187_0 2).trans rfl
theorem c_187_3 : (zm_cd 187)[3]? = some ((3, .istore_n 2, 1, 2, 0, 0, 0, 0, []) : zm_E) := (ta187_0 3).trans rfl
theorem c_187_4 : (zm_cd 187)[4]? = some ((4, .iconst 0, 1, 0, 0, 0, 0, 0, []) : zm_E) := (ta187_0 4).trans rfl
theorem c_187_5 : (zm_cd 187)[5]? = some ((5, .istore_n 3, 1, 3, 0, 0, 0, 0, []) : zm_E) := (ta187_0 5).trans rfl
theorem c_187_6 : (zm_cd 187)[6]? = some ((6, .iconst 0, 1, 0, 0, 0, 0, 0, []) : zm_E) := (ta187_0 6).trans rfl
theorem c_187_7 : (zm_cd 187)[7]? = some ((7, .istore 4, 2, 4, 0, 0, 0, 0, []) : zm_E) := (ta187_0 7).trans rfl
theorem c_187_8 : (zm_cd 187)[8]? = some ((9, .iconst 0, 1, 0, 0, 0, 0, 0, []) : zm_E) := (ta187_0 8).trans rfl
theorem c_187_9 : (zm_cd 187)[9]? = some ((10, .istore 5, 2, 5, 0, 0, 0, 0, []) : zm_E) := (ta187_0 9).trans rfl
theorem c_187_10 : (zm_cd 187)[10]? = some ((12, .iconst 0, 1, 0, 0, 0, 0, 0, []) : zm_E) := (ta187_0 10).trans rfl
theorem c_187_11 : (zm_cd 187)[11]? = some ((13, .istore 6, 2, 6, 0, 0, 0, 0, []) : zm_E) := (ta187_0 11).trans rfl
theorem c_187_12 : (zm_cd 187)[12]? = some ((15, .iconst 1, 1, 0, 0, 0, 1, 0, []) : zm_E) := (ta187_0 12).trans rfl
theorem c_187_13 : (zm_cd 187)[13]? = some ((16, .istore 7, 2, 7, 0, 0, 0, 0, []) : zm_E) := (ta187_0 13).trans rfl
theorem c_187_14 : (zm_cd 187)[14]? = some ((18, .iconst 0, 1, 0, 0, 0, 0, 0, []) : zm_E) := (ta187_0 14).trans rfl
theorem c_187_15 : (zm_cd 187)[15]? = some ((19, .istore 8, 2, 8, 0, 0, 0, 0, []) : zm_E) := (ta187_0 15).trans rfl
theorem c_187_16 : (zm_cd 187)[16]? = some ((21, .iload 8, 2, 8, 0, 0, 0, 0, []) : zm_E) := (ta187_0 16).trans rfl
theorem c_187_17 : (zm_cd 187)[17]? = some ((23, .aload_n 0, 1, 0, 0, 0, 0, 0, []) : zm_E) := (ta187_0 17).trans rfl
theorem c_187_18 : (zm_cd 187)[18]? = some ((24, .iconst 0, 1, 0, 0, 0, 0, 0, []) : zm_E) := (ta187_0 18).trans rfl
theorem c_187_19 : (zm_cd 187)[19]? = some ((25, .invokevirtual 9, 3, 5, 1, 1, 0, 0, [7]) : zm_E) := (ta187_0 19).trans rfl
theorem c_187_20 : (zm_cd 187)[20]? = some ((28, .if_icmp .ge 337, 3, 194, 0, 0, 0, 0, []) : zm_E) := (ta187_0 20).trans rfl
theorem c_187_21 : (zm_cd 187)[21]? = some ((31, .iload 7, 2, 7, 0, 0, 0, 0, []) : zm_E) := (ta187_0 21).trans rfl
theorem c_187_22 : (zm_cd 187)[22]? = some ((33, .ifCond .eq 332, 3, 194, 0, 0, 0, 0, []) : zm_E) := (ta187_0 22).trans rfl
theorem c_187_23 : (zm_cd 187)[23]? = some ((36, .aload_n 0, 1, 0, 0, 0, 0, 0, []) : zm_E) := (ta187_0 23).trans rfl
theorem c_187_24 : (zm_cd 187)[24]? = some ((37, .iload 8, 2, 8, 0, 0, 0, 0, []) : zm_E) := (ta187_0 24).trans rfl
theorem c_187_25 : (zm_cd 187)[25]? = some ((39, .iconst 0, 1, 0, 0, 0, 0, 0, []) : zm_E) := (ta187_0 25).trans rfl
theorem c_187_26 : (zm_cd 187)[26]? = some ((40, .invokevirtual 15, 3, 6, 2, 1, 0, 0, [7]) : zm_E) := (ta187_0 26).trans rfl
theorem c_187_27 : (zm_cd 187)[27]? = some ((43, .istore 9, 2, 9, 0, 0, 0, 0, []) : zm_E) := (ta187_0 27).trans rfl
theorem c_187_28 : (zm_cd 187)[28]? = some ((45, .iload_n 1, 1, 1, 0, 0, 0, 0, []) : zm_E) := (ta187_0 28).trans rfl
theorem c_187_29 : (zm_cd 187)[29]? = some ((46, .iconst 1, 1, 0, 0, 0, 1, 0, []) : zm_E) := (ta187_0 29).trans rfl
theorem c_187_30 : (zm_cd 187)[30]? = some ((47, .iload 9, 2, 9, 0, 0, 0, 0, []) : zm_E) := (ta187_0 30).trans rfl
theorem c_187_31 : (zm_cd 187)[31]? = some ((49, .ishl, 1, 0, 0, 0, 0, 0, []) : zm_E) := (ta187_0 31).trans rfl
theorem c_187_32 : (zm_cd 187)[32]? = some ((50, .ior, 1, 0, 0, 0, 0, 0, []) : zm_E) := (ta187_0 32).trans rfl
theorem c_187_33 : (zm_cd 187)[33]? = some ((51, .istore_n 1, 1, 1, 0, 0, 0, 0, []) : zm_E) := (ta187_0 33).trans rfl
theorem c_187_34 : (zm_cd 187)[34]? = some ((52, .iload 4, 2, 4, 0, 0, 0, 0, []) : zm_E) := (ta187_0 34).trans rfl
theorem c_187_35 : (zm_cd 187)[35]? = some ((54, .aload_n 0, 1, 0, 0, 0, 0, 0, []) : zm_E) := (ta187_0 35).trans rfl
theorem c_187_36 : (zm_cd 187)[36]? = some ((55, .iload 8, 2, 8, 0, 0, 0, 0, []) : zm_E) := (ta187_0 36).trans rfl
theorem c_187_37 : (zm_cd 187)[37]? = some ((57, .iload 9, 2, 9, 0, 0, 0, 0, []) : zm_E) := (ta187_0 37).trans rfl
theorem c_187_38 : (zm_cd 187)[38]? = some ((59, .invokevirtual 19, 3, 7, 2, 1, 0, 0, [7]) : zm_E) := (ta187_0 38).trans rfl
theorem c_187_39 : (zm_cd 187)[39]? = some ((62, .iadd, 1, 0, 0, 0, 0, 0, []) : zm_E) := (ta187_0 39).trans rfl
theorem c_187_40 : (zm_cd 187)[40]? = some ((63, .istore 4, 2, 4, 0, 0, 0, 0, []) : zm_E) := (ta187_0 40).trans rfl
theorem c_187_41 : (zm_cd 187)[41]? = some ((65, .iload 5, 2, 5, 0, 0, 0, 0, []) : zm_E) := (ta187_0 41).trans rfl
theorem c_187_42 : (zm_cd 187)[42]? = some ((67, .iload 9, 2, 9, 0, 0, 0, 0, []) : zm_E) := (ta187_0 42).trans rfl
theorem c_187_43 : (zm_cd 187)[43]? = some ((69, .iload 8, 2, 8, 0, 0, 0, 0, []) : zm_E) := (ta187_0 43).trans rfl
theorem c_187_44 : (zm_cd 187)[44]? = some ((71, .if_icmp .ne 7, 3, 47, 0, 0, 0, 0, []) : zm_E) := (ta187_0 44).trans rfl
theorem c_187_45 : (zm_cd 187)[45]? = some ((74, .iconst 1, 1, 0, 0, 0, 1, 0, []) : zm_E) := (ta187_0 45).trans rfl
theorem c_187_46 : (zm_cd 187)[46]? = some ((75, .goto 4, 3, 48, 0, 0, 0, 0, []) : zm_E) := (ta187_0 46).trans rfl
theorem c_187_47 : (zm_cd 187)[47]? = some ((78, .iconst 0, 1, 0, 0, 0, 0, 0, []) : zm_E) := (ta187_0 47).trans rfl
theorem c_187_48 : (zm_cd 187)[48]? = some ((79, .iadd, 1, 0, 0, 0, 0, 0, []) : zm_E) := (ta187_0 48).trans rfl
theorem c_187_49 : (zm_cd 187)[49]? = some ((80, .istore 5, 2, 5, 0, 0, 0, 0, []) : zm_E) := (ta187_0 49).trans rfl
theorem c_187_50 : (zm_cd 187)[50]? = some ((82, .aload_n 0, 1, 0, 0, 0, 0, 0, []) : zm_E) := (ta187_0 50).trans rfl
theorem c_187_51 : (zm_cd 187)[51]? = some ((83, .iload 9, 2, 9, 0, 0, 0, 0, []) : zm_E) := (ta187_0 51).trans rfl
theorem c_187_52 : (zm_cd 187)[52]? = some ((85, .invokevirtual 22, 3, 8, 1, 1, 0, 0, [7]) : zm_E) := (ta187_0 52).trans rfl
theorem c_187_53 : (zm_cd 187)[53]? = some ((88, .iload 8, 2, 8, 0, 0, 0, 0, []) : zm_E) := (ta187_0 53).trans rfl
theorem c_187_54 : (zm_cd 187)[54]? = some ((90, .if_icmp .ne 25, 3, 66, 0, 0, 0, 0, []) : zm_E) := (ta187_0 54).trans rfl
theorem c_187_55 : (zm_cd 187)[55]? = some ((93, .aload_n 0, 1, 0, 0, 0, 0, 0, []) : zm_E) := (ta187_0 55).trans rfl
theorem c_187_56 : (zm_cd 187)[56]? = some ((94, .iload 8, 2, 8, 0, 0, 0, 0, []) : zm_E) := (ta187_0 56).trans rfl
theorem c_187_57 : (zm_cd 187)[57]? = some ((96, .iconst 1, 1, 0, 0, 0, 1, 0, []) : zm_E) := (ta187_0 57).trans rfl
theorem c_187_58 : (zm_cd 187)[58]? = some ((97, .invokevirtual 15, 3, 6, 2, 1, 0, 0, [7]) : zm_E) := (ta187_0 58).trans rfl
theorem c_187_59 : (zm_cd 187)[59]? = some ((100, .aload_n 0, 1, 0, 0, 0, 0, 0, []) : zm_E) := (ta187_0 59).trans rfl
theorem ta187_1 : ∀ j : Nat, (zm_cd 187)[60 + j]? = (zd_187_1 ++ (zd_187_2 ++ zd_187_3))[j]? := fun j => (ta187_0 (60 + j)).trans (zq_r zd_187_0 _ j)
theorem c_187_60 : (zm_cd 187)[60]? = some ((101, .iload 8, 2, 8, 0, 0, 0, 0, []) : zm_E) := (ta187_1 0).trans rfl
theorem c_187_61 : (zm_cd 187)[61]? = some ((103, .iload 9, 2, 9, 0, 0, 0, 0, []) : zm_E) := (ta187_1 1).trans rfl
theorem c_187_62 : (zm_cd 187)[62]? = some ((105, .invokevirtual 19, 3, 7, 2, 1, 0, 0, [7]) : zm_E) := (ta187_1 2).trans rfl
theorem c_187_63 : (zm_cd 187)[63]? = some ((108, .if_icmp .ne 7, 3, 66, 0, 0, 0, 0, []) : zm_E) := (ta187_1 3).trans rfl
theorem c_187_64 : (zm_cd 187)[64]? = some ((111, .iconst 1, 1, 0, 0, 0, 1, 0, []) : zm_E) := (ta187_1 4).trans rfl
theorem c_187_65 : (zm_cd 187)[65]? = some ((112, .goto 4, 3, 67, 0, 0, 0, 0, []) : zm_E) := (ta187_1 5).trans rfl
theorem c_187_66 : (zm_cd 187)[66]? = some ((115, .iconst 0, 1, 0, 0, 0, 0, 0, []) : zm_E) := (ta187_1 6).trans rfl
theorem c_187_67 : (zm_cd 187)[67]? = some ((116, .istore 7, 2, 7, 0, 0, 0, 0, []) : zm_E) := (ta187_1 7).trans rfl
theorem c_187_68 : (zm_cd 187)[68]? = some ((118, .aload_n 0, 1, 0, 0, 0, 0, 0, []) : zm_E) := (ta187_1 8).trans rfl
theorem c_187_69 : (zm_cd 187)[69]? = some ((119, .iload 8, 2, 8, 0, 0, 0, 0, []) : zm_E) := (ta187_1 9).trans rfl
theorem c_187_70 : (zm_cd 187)[70]? = some ((121, .iconst 2, 1, 0, 0, 0, 2, 0, []) : zm_E) := (ta187_1 10).trans rfl
theorem c_187_71 : (zm_cd 187)[71]? = some ((122, .invokevirtual 15, 3, 6, 2, 1, 0, 0, [7]) : zm_E) := (ta187_1 11).trans rfl
theorem c_187_72 : (zm_cd 187)[72]? = some ((125, .iconst 1, 1, 0, 0, 0, 1, 0, []) : zm_E) := (ta187_1 12).trans rfl
theorem c_187_73 : (zm_cd 187)[73]? = some ((126, .if_icmp .ne 7, 3, 76, 0, 0, 0, 0, []) : zm_E) := (ta187_1 13).trans rfl
theorem c_187_74 : (zm_cd 187)[74]? = some ((129, .iconst 1, 1, 0, 0, 0, 1, 0, []) : zm_E) := (ta187_1 14).trans rfl
theorem c_187_75 : (zm_cd 187)[75]? = some ((130, .goto 4, 3, 77, 0, 0, 0, 0, []) : zm_E) := (ta187_1 15).trans rfl
theorem c_187_76 : (zm_cd 187)[76]? = some ((133, .iconst 0, 1, 0, 0, 0, 0, 0, []) : zm_E) := (ta187_1 16).trans rfl
theorem c_187_77 : (zm_cd 187)[77]? = some ((134, .istore 10, 2, 10, 0, 0, 0, 0, []) : zm_E) := (ta187_1 17).trans rfl
theorem c_187_78 : (zm_cd 187)[78]? = some ((136, .aload_n 0, 1, 0, 0, 0, 0, 0, []) : zm_E) := (ta187_1 18).trans rfl
theorem c_187_79 : (zm_cd 187)[79]? = some ((137, .iload 8, 2, 8, 0, 0, 0, 0, []) : zm_E) := (ta187_1 19).trans rfl
theorem c_187_80 : (zm_cd 187)[80]? = some ((139, .iconst 3, 1, 0, 0, 0, 3, 0, []) : zm_E) := (ta187_1 20).trans rfl
theorem c_187_81 : (zm_cd 187)[81]? = some ((140, .invokevirtual 15, 3, 6, 2, 1, 0, 0, [7]) : zm_E) := (ta187_1 21).trans rfl
theorem c_187_82 : (zm_cd 187)[82]? = some ((143, .istore 11, 2, 11, 0, 0, 0, 0, []) : zm_E) := (ta187_1 22).trans rfl
theorem c_187_83 : (zm_cd 187)[83]? = some ((145, .iload_n 3, 1, 3, 0, 0, 0, 0, []) : zm_E) := (ta187_1 23).trans rfl
theorem c_187_84 : (zm_cd 187)[84]? = some ((146, .iload 10, 2, 10, 0, 0, 0, 0, []) : zm_E) := (ta187_1 24).trans rfl
theorem c_187_85 : (zm_cd 187)[85]? = some ((148, .ifCond .eq 10, 3, 90, 0, 0, 0, 0, []) : zm_E) := (ta187_1 25).trans rfl
theorem c_187_86 : (zm_cd 187)[86]? = some ((151, .iconst 1, 1, 0, 0, 0, 1, 0, []) : zm_E) := (ta187_1 26).trans rfl
theorem c_187_87 : (zm_cd 187)[87]? = some ((152, .iload 9, 2, 9, 0, 0, 0, 0, []) : zm_E) := (ta187_1 27).trans rfl
theorem c_187_88 : (zm_cd 187)[88]? = some ((154, .ishl, 1, 0, 0, 0, 0, 0, []) : zm_E) := (ta187_1 28).trans rfl
theorem c_187_89 : (zm_cd 187)[89]? = some ((155, .goto 4, 3, 91, 0, 0, 0, 0, []) : zm_E) := (ta187_1 29).trans rfl
theorem c_187_90 : (zm_cd 187)[90]? = some ((158, .iconst 0, 1, 0, 0, 0, 0, 0, []) : zm_E) := (ta187_1 30).trans rfl
theorem c_187_91 : (zm_cd 187)[91]? = some ((159, .ior, 1, 0, 0, 0, 0, 0, []) : zm_E) := (ta187_1 31).trans rfl
theorem c_187_92 : (zm_cd 187)[92]? = some ((160, .istore_n 3, 1, 3, 0, 0, 0, 0, []) : zm_E) := (ta187_1 32).trans rfl
theorem c_187_93 : (zm_cd 187)[93]? = some ((161, .iload_n 2, 1, 2, 0, 0, 0, 0, []) : zm_E) := (ta187_1 33).trans rfl
theorem c_187_94 : (zm_cd 187)[94]? = some ((162, .iload 10, 2, 10, 0, 0, 0, 0, []) : zm_E) := (ta187_1 34).trans rfl
theorem c_187_95 : (zm_cd 187)[95]? = some ((164, .ifCond .eq 10, 3, 100, 0, 0, 0, 0, []) : zm_E) := (ta187_1 35).trans rfl
theorem c_187_96 : (zm_cd 187)[96]? = some ((167, .iconst 1, 1, 0, 0, 0, 1, 0, []) : zm_E) := (ta187_1 36).trans rfl
theorem c_187_97 : (zm_cd 187)[97]? = some ((168, .iload 11, 2, 11, 0, 0, 0, 0, []) : zm_E) := (ta187_1 37).trans rfl
theorem c_187_98 : (zm_cd 187)[98]? = some ((170, .ishl, 1, 0, 0, 0, 0, 0, []) : zm_E) := (ta187_1 38).trans rfl
theorem c_187_99 : (zm_cd 187)[99]? = some ((171, .goto 4, 3, 101, 0, 0, 0, 0, []) : zm_E) := (ta187_1 39).trans rfl
theorem c_187_100 : (zm_cd 187)[100]? = some ((174, .iconst 0, 1, 0, 0, 0, 0, 0, []) : zm_E) := (ta187_1 40).trans rfl
theorem c_187_101 : (zm_cd 187)[101]? = some ((175, .ior, 1, 0, 0, 0, 0, 0, []) : zm_E) := (ta187_1 41).trans rfl
theorem c_187_102 : (zm_cd 187)[102]? = some ((176, .istore_n 2, 1, 2, 0, 0, 0, 0, []) : zm_E) := (ta187_1 42).trans rfl
theorem c_187_103 : (zm_cd 187)[103]? = some ((177, .iload 7, 2, 7, 0, 0, 0, 0, []) : zm_E) := (ta187_1 43).trans rfl
theorem c_187_104 : (zm_cd 187)[104]? = some ((179, .ifCond .eq 108, 3, 155, 0, 0, 0, 0, []) : zm_E) := (ta187_1 44).trans rfl
theorem c_187_105 : (zm_cd 187)[105]? = some ((182, .iload 10, 2, 10, 0, 0, 0, 0, []) : zm_E) := (ta187_1 45).trans rfl
theorem c_187_106 : (zm_cd 187)[106]? = some ((184, .ifCond .eq 55, 3, 132, 0, 0, 0, 0, []) : zm_E) := (ta187_1 46).trans rfl
theorem c_187_107 : (zm_cd 187)[107]? = some ((187, .aload_n 0, 1, 0, 0, 0, 0, 0, []) : zm_E) := (ta187_1 47).trans rfl
theorem c_187_108 : (zm_cd 187)[108]? = some ((188, .iload 8, 2, 8, 0, 0, 0, 0, []) : zm_E) := (ta187_1 48).trans rfl
theorem c_187_109 : (zm_cd 187)[109]? = some ((190, .iload 11, 2, 11, 0, 0, 0, 0, []) : zm_E) := (ta187_1 49).trans rfl
theorem c_187_110 : (zm_cd 187)[110]? = some ((192, .invokevirtual 19, 3, 7, 2, 1, 0, 0, [7]) : zm_E) := (ta187_1 50).trans rfl
theorem c_187_111 : (zm_cd 187)[111]? = some ((195, .aload_n 0, 1, 0, 0, 0, 0, 0, []) : zm_E) := (ta187_1 51).trans rfl
theorem c_187_112 : (zm_cd 187)[112]? = some ((196, .iload 8, 2, 8, 0, 0, 0, 0, []) : zm_E) := (ta187_1 52).trans rfl
theorem c_187_113 : (zm_cd 187)[113]? = some ((198, .iload 9, 2, 9, 0, 0, 0, 0, []) : zm_E) := (ta187_1 53).trans rfl
theorem c_187_114 : (zm_cd 187)[114]? = some ((200, .invokevirtual 19, 3, 7, 2, 1, 0, 0, [7]) : zm_E) := (ta187_1 54).trans rfl
theorem c_187_115 : (zm_cd 187)[115]? = some ((203, .if_icmp .gt 84, 3, 155, 0, 0, 0, 0, []) : zm_E) := (ta187_1 55).trans rfl
theorem c_187_116 : (zm_cd 187)[116]? = some ((206, .aload_n 0, 1, 0, 0, 0, 0, 0, []) : zm_E) := (ta187_1 56).trans rfl
theorem c_187_117 : (zm_cd 187)[117]? = some ((207, .iload 8, 2, 8, 0, 0, 0, 0, []) : zm_E) := (ta187_1 57).trans rfl
theorem c_187_118 : (zm_cd 187)[118]? = some ((209, .aload_n 0, 1, 0, 0, 0, 0, 0, []) : zm_E) := (ta187_1 58).trans rfl
theorem c_187_119 : (zm_cd 187)[119]? = some ((210, .aload_n 0, 1, 0, 0, 0, 0, 0, []) : zm_E) := (ta187_1 59).trans rfl
theorem ta187_2 : ∀ j : Nat, (zm_cd 187)[120 + j]? = (zd_187_2 ++ zd_187_3)[j]? := fun j => by rw [show 120 + j = 60 + (60 + j) by omega]; exact (ta187_1 (60 + j)).trans (zq_r zd_187_1 _ j)
theorem c_187_120 : (zm_cd 187)[120]? = some ((211, .iload 8, 2, 8, 0, 0, 0, 0, []) : zm_E) := (ta187_2 0).trans rfl
theorem c_187_121 : (zm_cd 187)[121]? = some ((213, .bipush 6, 2, 0, 0, 0, 6, 0, []) : zm_E) := (ta187_2 1).trans rfl
theorem c_187_122 : (zm_cd 187)[122]? = some ((215, .invokevirtual 15, 3, 6, 2, 1, 0, 0, [7]) : zm_E) := (ta187_2 2).trans rfl
theorem c_187_123 : (zm_cd 187)[123]? = some ((218, .iconst 0, 1, 0, 0, 0, 0, 0, []) : zm_E) := (ta187_2 3).trans rfl
theorem c_187_124 : (zm_cd 187)[124]? = some ((219, .invokevirtual 15, 3, 6, 2, 1, 0, 0, [7]) : zm_E) := (ta187_2 4).trans rfl
theorem c_187_125 : (zm_cd 187)[125]? = some ((222, .invokevirtual 19, 3, 7, 2, 1, 0, 0, [7]) : zm_E) := (ta187_2 5).trans rfl
theorem c_187_126 : (zm_cd 187)[126]? = some ((225, .aload_n 0, 1, 0, 0, 0, 0, 0, []) : zm_E) := (ta187_2 6).trans rfl
theorem c_187_127 : (zm_cd 187)[127]? = some ((226, .iload 8, 2, 8, 0, 0, 0, 0, []) : zm_E) := (ta187_2 7).trans rfl
theorem c_187_128 : (zm_cd 187)[128]? = some ((228, .iload 11, 2, 11, 0, 0, 0, 0, []) : zm_E) := (ta187_2 8).trans rfl
theorem c_187_129 : (zm_cd 187)[129]? = some ((230, .invokevirtual 19, 3, 7, 2, 1, 0, 0, [7]) : zm_E) := (ta187_2 9).trans rfl
theorem c_187_130 : (zm_cd 187)[130]? = some ((233, .if_icmp .gt 54, 3, 155, 0, 0, 0, 0, []) : zm_E) := (ta187_2 10).trans rfl
theorem c_187_131 : (zm_cd 187)[131]? = some ((236, .goto 47, 3, 153, 0, 0, 0, 0, []) : zm_E) := (ta187_2 11).trans rfl
theorem c_187_132 : (zm_cd 187)[132]? = some ((239, .iload 11, 2, 11, 0, 0, 0, 0, []) : zm_E) := (ta187_2 12).trans rfl
theorem c_187_133 : (zm_cd 187)[133]? = some ((241, .bipush (-9), 2, 0, 0, 0, (-9), 0, []) : zm_E) := (ta187_2 13).trans rfl
theorem c_187_134 : (zm_cd 187)[134]? = some ((243, .if_icmp .ne 44, 3, 155, 0, 0, 0, 0, []) : zm_E) := (ta187_2 14).trans rfl
theorem c_187_135 : (zm_cd 187)[135]? = some ((246, .aload_n 0, 1, 0, 0, 0, 0, 0, []) : zm_E) := (ta187_2 15).trans rfl
theorem c_187_136 : (zm_cd 187)[136]? = some ((247, .iload 8, 2, 8, 0, 0, 0, 0, []) : zm_E) := (ta187_2 16).trans rfl
theorem c_187_137 : (zm_cd 187)[137]? = some ((249, .iconst 4, 1, 0, 0, 0, 4, 0, []) : zm_E) := (ta187_2 17).trans rfl
theorem c_187_138 : (zm_cd 187)[138]? = some ((250, .invokevirtual 15, 3, 6, 2, 1, 0, 0, [7]) : zm_E) := (ta187_2 18).trans rfl
theorem c_187_139 : (zm_cd 187)[139]? = some ((253, .bipush (-9), 2, 0, 0, 0, (-9), 0, []) : zm_E) := (ta187_2 19).trans rfl
theorem c_187_140 : (zm_cd 187)[140]? = some ((255, .if_icmp .ne 32, 3, 155, 0, 0, 0, 0, []) : zm_E) := (ta187_2 20).trans rfl
theorem c_187_141 : (zm_cd 187)[141]? = some ((258, .aload_n 0, 1, 0, 0, 0, 0, 0, []) : zm_E) := (ta187_2 21).trans rfl
theorem c_187_142 : (zm_cd 187)[142]? = some ((259, .iload 8, 2, 8, 0, 0, 0, 0, []) : zm_E) := (ta187_2 22).trans rfl
theorem c_187_143 : (zm_cd 187)[143]? = some ((261, .iconst 5, 1, 0, 0, 0, 5, 0, []) : zm_E) := (ta187_2 23).trans rfl
theorem c_187_144 : (zm_cd 187)[144]? = some ((262, .invokevirtual 15, 3, 6, 2, 1, 0, 0, [7]) : zm_E) := (ta187_2 24).trans rfl
theorem c_187_145 : (zm_cd 187)[145]? = some ((265, .bipush (-9), 2, 0, 0, 0, (-9), 0, []) : zm_E) := (ta187_2 25).trans rfl
theorem c_187_146 : (zm_cd 187)[146]? = some ((267, .if_icmp .ne 20, 3, 155, 0, 0, 0, 0, []) : zm_E) := (ta187_2 26).trans rfl
theorem c_187_147 : (zm_cd 187)[147]? = some ((270, .aload_n 0, 1, 0, 0, 0, 0, 0, []) : zm_E) := (ta187_2 27).trans rfl
theorem c_187_148 : (zm_cd 187)[148]? = some ((271, .iload 8, 2, 8, 0, 0, 0, 0, []) : zm_E) := (ta187_2 28).trans rfl
theorem c_187_149 : (zm_cd 187)[149]? = some ((273, .bipush 6, 2, 0, 0, 0, 6, 0, []) : zm_E) := (ta187_2 29).trans rfl
theorem c_187_150 : (zm_cd 187)[150]? = some ((275, .invokevirtual 15, 3, 6, 2, 1, 0, 0, [7]) : zm_E) := (ta187_2 30).trans rfl
theorem c_187_151 : (zm_cd 187)[151]? = some ((278, .bipush (-9), 2, 0, 0, 0, (-9), 0, []) : zm_E) := (ta187_2 31).trans rfl
theorem c_187_152 : (zm_cd 187)[152]? = some ((280, .if_icmp .ne 7, 3, 155, 0, 0, 0, 0, []) : zm_E) := (ta187_2 32).trans rfl
theorem c_187_153 : (zm_cd 187)[153]? = some ((283, .iconst 1, 1, 0, 0, 0, 1, 0, []) : zm_E) := (ta187_2 33).trans rfl
theorem c_187_154 : (zm_cd 187)[154]? = some ((284, .goto 4, 3, 156, 0, 0, 0, 0, []) : zm_E) := (ta187_2 34).trans rfl
theorem c_187_155 : (zm_cd 187)[155]? = some ((287, .iconst 0, 1, 0, 0, 0, 0, 0, []) : zm_E) := (ta187_2 35).trans rfl
theorem c_187_156 : (zm_cd 187)[156]? = some ((288, .istore 7, 2, 7, 0, 0, 0, 0, []) : zm_E) := (ta187_2 36).trans rfl
theorem c_187_157 : (zm_cd 187)[157]? = some ((290, .iconst 0, 1, 0, 0, 0, 0, 0, []) : zm_E) := (ta187_2 37).trans rfl
theorem c_187_158 : (zm_cd 187)[158]? = some ((291, .istore 12, 2, 12, 0, 0, 0, 0, []) : zm_E) := (ta187_2 38).trans rfl
theorem c_187_159 : (zm_cd 187)[159]? = some ((293, .iload 12, 2, 12, 0, 0, 0, 0, []) : zm_E) := (ta187_2 39).trans rfl
theorem c_187_160 : (zm_cd 187)[160]? = some ((295, .aload_n 0, 1, 0, 0, 0, 0, 0, []) : zm_E) := (ta187_2 40).trans rfl
theorem c_187_161 : (zm_cd 187)[161]? = some ((296, .iconst 0, 1, 0, 0, 0, 0, 0, []) : zm_E) := (ta187_2 41).trans rfl
theorem c_187_162 : (zm_cd 187)[162]? = some ((297, .invokevirtual 9, 3, 5, 1, 1, 0, 0, [7]) : zm_E) := (ta187_2 42).trans rfl
theorem c_187_163 : (zm_cd 187)[163]? = some ((300, .if_icmp .ge 59, 3, 192, 0, 0, 0, 0, []) : zm_E) := (ta187_2 43).trans rfl
theorem c_187_164 : (zm_cd 187)[164]? = some ((303, .iload 6, 2, 6, 0, 0, 0, 0, []) : zm_E) := (ta187_2 44).trans rfl
theorem c_187_165 : (zm_cd 187)[165]? = some ((305, .iload 10, 2, 10, 0, 0, 0, 0, []) : zm_E) := (ta187_2 45).trans rfl
theorem c_187_166 : (zm_cd 187)[166]? = some ((307, .ifCond .eq 42, 3, 187, 0, 0, 0, 0, []) : zm_E) := (ta187_2 46).trans rfl
theorem c_187_167 : (zm_cd 187)[167]? = some ((310, .aload_n 0, 1, 0, 0, 0, 0, 0, []) : zm_E) := (ta187_2 47).trans rfl
theorem c_187_168 : (zm_cd 187)[168]? = some ((311, .iload 12, 2, 12, 0, 0, 0, 0, []) : zm_E) := (ta187_2 48).trans rfl
theorem c_187_169 : (zm_cd 187)[169]? = some ((313, .iconst 2, 1, 0, 0, 0, 2, 0, []) : zm_E) := (ta187_2 49).trans rfl
theorem c_187_170 : (zm_cd 187)[170]? = some ((314, .invokevirtual 15, 3, 6, 2, 1, 0, 0, [7]) : zm_E) := (ta187_2 50).trans rfl
theorem c_187_171 : (zm_cd 187)[171]? = some ((317, .iconst 1, 1, 0, 0, 0, 1, 0, []) : zm_E) := (ta187_2 51).trans rfl
theorem c_187_172 : (zm_cd 187)[172]? = some ((318, .if_icmp .ne 31, 3, 187, 0, 0, 0, 0, []) : zm_E) := (ta187_2 52).trans rfl
theorem c_187_173 : (zm_cd 187)[173]? = some ((321, .aload_n 0, 1, 0, 0, 0, 0, 0, []) : zm_E) := (ta187_2 53).trans rfl
theorem c_187_174 : (zm_cd 187)[174]? = some ((322, .iload 8, 2, 8, 0, 0, 0, 0, []) : zm_E) := (ta187_2 54).trans rfl
theorem c_187_175 : (zm_cd 187)[175]? = some ((324, .aload_n 0, 1, 0, 0, 0, 0, 0, []) : zm_E) := (ta187_2 55).trans rfl
theorem c_187_176 : (zm_cd 187)[176]? = some ((325, .iload 12, 2, 12, 0, 0, 0, 0, []) : zm_E) := (ta187_2 56).trans rfl
theorem c_187_177 : (zm_cd 187)[177]? = some ((327, .iconst 0, 1, 0, 0, 0, 0, 0, []) : zm_E) := (ta187_2 57).trans rfl
theorem c_187_178 : (zm_cd 187)[178]? = some ((328, .invokevirtual 15, 3, 6, 2, 1, 0, 0, [7]) : zm_E) := (ta187_2 58).trans rfl
theorem c_187_179 : (zm_cd 187)[179]? = some ((331, .invokevirtual 19, 3, 7, 2, 1, 0, 0, [7]) : zm_E) := (ta187_2 59).trans rfl
theorem ta187_3 : ∀ j : Nat, (zm_cd 187)[180 + j]? = zd_187_3[j]? := fun j => by rw [show 180 + j = 120 + (60 + j) by omega]; exact (ta187_2 (60 + j)).trans (zq_r zd_187_2 _ j)
theorem c_187_180 : (zm_cd 187)[180]? = some ((334, .aload_n 0, 1, 0, 0, 0, 0, 0, []) : zm_E) := (ta187_3 0).trans rfl
theorem c_187_181 : (zm_cd 187)[181]? = some ((335, .iload 8, 2, 8, 0, 0, 0, 0, []) : zm_E) := (ta187_3 1).trans rfl
theorem c_187_182 : (zm_cd 187)[182]? = some ((337, .iload 9, 2, 9, 0, 0, 0, 0, []) : zm_E) := (ta187_3 2).trans rfl
theorem c_187_183 : (zm_cd 187)[183]? = some ((339, .invokevirtual 19, 3, 7, 2, 1, 0, 0, [7]) : zm_E) := (ta187_3 3).trans rfl
theorem c_187_184 : (zm_cd 187)[184]? = some ((342, .if_icmp .ge 7, 3, 187, 0, 0, 0, 0, []) : zm_E) := (ta187_3 4).trans rfl
theorem c_187_185 : (zm_cd 187)[185]? = some ((345, .iconst 1, 1, 0, 0, 0, 1, 0, []) : zm_E) := (ta187_3 5).trans rfl
theorem c_187_186 : (zm_cd 187)[186]? = some ((346, .goto 4, 3, 188, 0, 0, 0, 0, []) : zm_E) := (ta187_3 6).trans rfl
theorem c_187_187 : (zm_cd 187)[187]? = some ((349, .iconst 0, 1, 0, 0, 0, 0, 0, []) : zm_E) := (ta187_3 7).trans rfl
theorem c_187_188 : (zm_cd 187)[188]? = some ((350, .iadd, 1, 0, 0, 0, 0, 0, []) : zm_E) := (ta187_3 8).trans rfl
theorem c_187_189 : (zm_cd 187)[189]? = some ((351, .istore 6, 2, 6, 0, 0, 0, 0, []) : zm_E) := (ta187_3 9).trans rfl
theorem c_187_190 : (zm_cd 187)[190]? = some ((353, .iinc 12 1, 3, 12, 0, 0, 1, 0, []) : zm_E) := (ta187_3 10).trans rfl
theorem c_187_191 : (zm_cd 187)[191]? = some ((356, .goto (-63), 3, 159, 0, 0, 0, 0, []) : zm_E) := (ta187_3 11).trans rfl
theorem c_187_192 : (zm_cd 187)[192]? = some ((359, .iinc 8 1, 3, 8, 0, 0, 1, 0, []) : zm_E) := (ta187_3 12).trans rfl
theorem c_187_193 : (zm_cd 187)[193]? = some ((362, .goto (-341), 3, 16, 0, 0, 0, 0, []) : zm_E) := (ta187_3 13).trans rfl
theorem c_187_194 : (zm_cd 187)[194]? = some ((365, .iload 7, 2, 7, 0, 0, 0, 0, []) : zm_E) := (ta187_3 14).trans rfl
theorem c_187_195 : (zm_cd 187)[195]? = some ((367, .ifCond .eq 68, 3, 231, 0, 0, 0, 0, []) : zm_E) := (ta187_3 15).trans rfl
theorem c_187_196 : (zm_cd 187)[196]? = some ((370, .iload_n 1, 1, 1, 0, 0, 0, 0, []) : zm_E) := (ta187_3 16).trans rfl
theorem c_187_197 : (zm_cd 187)[197]? = some ((371, .iconst 1, 1, 0, 0, 0, 1, 0, []) : zm_E) := (ta187_3 17).trans rfl
theorem c_187_198 : (zm_cd 187)[198]? = some ((372, .aload_n 0, 1, 0, 0, 0, 0, 0, []) : zm_E) := (ta187_3 18).trans rfl
theorem c_187_199 : (zm_cd 187)[199]? = some ((373, .iconst 0, 1, 0, 0, 0, 0, 0, []) : zm_E) := (ta187_3 19).trans rfl
theorem c_187_200 : (zm_cd 187)[200]? = some ((374, .invokevirtual 9, 3, 5, 1, 1, 0, 0, [7]) : zm_E) := (ta187_3 20).trans rfl
theorem c_187_201 : (zm_cd 187)[201]? = some ((377, .ishl, 1, 0, 0, 0, 0, 0, []) : zm_E) := (ta187_3 21).trans rfl
theorem c_187_202 : (zm_cd 187)[202]? = some ((378, .iconst 1, 1, 0, 0, 0, 1, 0, []) : zm_E) := (ta187_3 22).trans rfl
theorem c_187_203 : (zm_cd 187)[203]? = some ((379, .isub, 1, 0, 0, 0, 0, 0, []) : zm_E) := (ta187_3 23).trans rfl
theorem c_187_204 : (zm_cd 187)[204]? = some ((380, .if_icmp .ne 55, 3, 231, 0, 0, 0, 0, []) : zm_E) := (ta187_3 24).trans rfl
theorem c_187_205 : (zm_cd 187)[205]? = some ((383, .iload_n 3, 1, 3, 0, 0, 0, 0, []) : zm_E) := (ta187_3 25).trans rfl
theorem c_187_206 : (zm_cd 187)[206]? = some ((384, .iload_n 2, 1, 2, 0, 0, 0, 0, []) : zm_E) := (ta187_3 26).trans rfl
theorem c_187_207 : (zm_cd 187)[207]? = some ((385, .if_icmp .ne 50, 3, 231, 0, 0, 0, 0, []) : zm_E) := (ta187_3 27).trans rfl
theorem c_187_208 : (zm_cd 187)[208]? = some ((388, .aload_n 0, 1, 0, 0, 0, 0, 0, []) : zm_E) := (ta187_3 28).trans rfl
theorem c_187_209 : (zm_cd 187)[209]? = some ((389, .iconst 3, 1, 0, 0, 0, 3, 0, []) : zm_E) := (ta187_3 29).trans rfl
theorem c_187_210 : (zm_cd 187)[210]? = some ((390, .invokevirtual 9, 3, 5, 1, 1, 0, 0, [7]) : zm_E) := (ta187_3 30).trans rfl
theorem c_187_211 : (zm_cd 187)[211]? = some ((393, .iload 4, 2, 4, 0, 0, 0, 0, []) : zm_E) := (ta187_3 31).trans rfl
theorem c_187_212 : (zm_cd 187)[212]? = some ((395, .if_icmp .ne 40, 3, 231, 0, 0, 0, 0, []) : zm_E) := (ta187_3 32).trans rfl
theorem c_187_213 : (zm_cd 187)[213]? = some ((398, .aload_n 0, 1, 0, 0, 0, 0, 0, []) : zm_E) := (ta187_3 33).trans rfl
theorem c_187_214 : (zm_cd 187)[214]? = some ((399, .iconst 2, 1, 0, 0, 0, 2, 0, []) : zm_E) := (ta187_3 34).trans rfl
theorem c_187_215 : (zm_cd 187)[215]? = some ((400, .invokevirtual 9, 3, 5, 1, 1, 0, 0, [7]) : zm_E) := (ta187_3 35).trans rfl
theorem c_187_216 : (zm_cd 187)[216]? = some ((403, .iload 5, 2, 5, 0, 0, 0, 0, []) : zm_E) := (ta187_3 36).trans rfl
theorem c_187_217 : (zm_cd 187)[217]? = some ((405, .if_icmp .ne 30, 3, 231, 0, 0, 0, 0, []) : zm_E) := (ta187_3 37).trans rfl
theorem c_187_218 : (zm_cd 187)[218]? = some ((408, .aload_n 0, 1, 0, 0, 0, 0, 0, []) : zm_E) := (ta187_3 38).trans rfl
theorem c_187_219 : (zm_cd 187)[219]? = some ((409, .bipush 7, 2, 0, 0, 0, 7, 0, []) : zm_E) := (ta187_3 39).trans rfl
theorem c_187_220 : (zm_cd 187)[220]? = some ((411, .invokevirtual 9, 3, 5, 1, 1, 0, 0, [7]) : zm_E) := (ta187_3 40).trans rfl
theorem c_187_221 : (zm_cd 187)[221]? = some ((414, .iload 6, 2, 6, 0, 0, 0, 0, []) : zm_E) := (ta187_3 41).trans rfl
theorem c_187_222 : (zm_cd 187)[222]? = some ((416, .if_icmp .ne 19, 3, 231, 0, 0, 0, 0, []) : zm_E) := (ta187_3 42).trans rfl
theorem c_187_223 : (zm_cd 187)[223]? = some ((419, .aload_n 0, 1, 0, 0, 0, 0, 0, []) : zm_E) := (ta187_3 43).trans rfl
theorem c_187_224 : (zm_cd 187)[224]? = some ((420, .iconst 1, 1, 0, 0, 0, 1, 0, []) : zm_E) := (ta187_3 44).trans rfl
theorem c_187_225 : (zm_cd 187)[225]? = some ((421, .invokevirtual 9, 3, 5, 1, 1, 0, 0, [7]) : zm_E) := (ta187_3 45).trans rfl
theorem c_187_226 : (zm_cd 187)[226]? = some ((424, .iload_n 3, 1, 3, 0, 0, 0, 0, []) : zm_E) := (ta187_3 46).trans rfl
theorem c_187_227 : (zm_cd 187)[227]? = some ((425, .invokestatic 25, 3, 186, 1, 1, 0, 0, []) : zm_E) := (ta187_3 47).trans rfl
theorem c_187_228 : (zm_cd 187)[228]? = some ((428, .if_icmp .ne 7, 3, 231, 0, 0, 0, 0, []) : zm_E) := (ta187_3 48).trans rfl
theorem c_187_229 : (zm_cd 187)[229]? = some ((431, .iconst 1, 1, 0, 0, 0, 1, 0, []) : zm_E) := (ta187_3 49).trans rfl
theorem c_187_230 : (zm_cd 187)[230]? = some ((432, .goto 4, 3, 232, 0, 0, 0, 0, []) : zm_E) := (ta187_3 50).trans rfl
theorem c_187_231 : (zm_cd 187)[231]? = some ((435, .iconst 0, 1, 0, 0, 0, 0, 0, []) : zm_E) := (ta187_3 51).trans rfl
theorem c_187_232 : (zm_cd 187)[232]? = some ((436, .ireturn, 1, 1, 0, 0, 0, 0, []) : zm_E) := (ta187_3 52).trans rfl
theorem ml_188 : zm_ml 188 = 9 := rfl
theorem ht_188 : zm_ht 188 = [] := rfl
theorem ta188_0 : ∀ j : Nat, (zm_cd 188)[j]? = (zd_188_0 ++ (zd_188_1 ++ zd_188_2))[j]? := fun j => rfl
theorem c_188_0 : (zm_cd 188)[0]? = some ((0, .iconst 0, 1, 0, 0, 0, 0, 0, []) : zm_E) := (ta188_0 0).trans rfl
theorem c_188_1 : (zm_cd 188)[1]? = some ((1, .istore_n 1, 1, 1, 0, 0, 0, 0, []) : zm_E) := (ta188_0 1).trans rfl
theorem c_188_2 : (zm_cd 188)[2]? = some ((2, .iconst 0, 1, 0, 0, 0, 0, 0, []) : zm_E) := (ta188_0 2).trans rfl
theorem c_188_3 : (zm_cd 188)[3]? = some ((3, .istore_n 2, 1, 2, 0, 0, 0, 0, []) : zm_E) := (ta188_0 3).trans rfl
theorem c_188_4 : (zm_cd 188)[4]? = some ((4, .iconst 1, 1, 0, 0, 0, 1, 0, []) : zm_E) := (ta188_0 4).trans rfl
theorem c_188_5 : (zm_cd 188)[5]? = some ((5, .istore_n 3, 1, 3, 0, 0, 0, 0, []) : zm_E) := (ta188_0 5).trans rfl
theorem c_188_6 : (zm_cd 188)[6]? = some ((6, .iconst 0, 1, 0, 0, 0, 0, 0, []) : zm_E) := (ta188_0 6).trans rfl
theorem c_188_7 : (zm_cd 188)[7]? = some ((7, .istore 4, 2, 4, 0, 0, 0, 0, []) : zm_E) := (ta188_0 7).trans rfl
theorem c_188_8 : (zm_cd 188)[8]? = some ((9, .iload 4, 2, 4, 0, 0, 0, 0, []) : zm_E) := (ta188_0 8).trans rfl
theorem c_188_9 : (zm_cd 188)[9]? = some ((11, .aload_n 0, 1, 0, 0, 0, 0, 0, []) : zm_E) := (ta188_0 9).trans rfl
theorem c_188_10 : (zm_cd 188)[10]? = some ((12, .iconst 4, 1, 0, 0, 0, 4, 0, []) : zm_E) := (ta188_0 10).trans rfl
theorem c_188_11 : (zm_cd 188)[11]? = some ((13, .invokevirtual 9, 3, 5, 1, 1, 0, 0, [7]) : zm_E) := (ta188_0 11).trans rfl
theorem c_188_12 : (zm_cd 188)[12]? = some ((16, .if_icmp .ge 263, 3, 159, 0, 0, 0, 0, []) : zm_E) := (ta188_0 12).trans rfl
theorem c_188_13 : (zm_cd 188)[13]? = some ((19, .iload_n 3, 1, 3, 0, 0, 0, 0, []) : zm_E) := (ta188_0 13).trans rfl
theorem c_188_14 : (zm_cd 188)[14]? = some ((20, .ifCond .eq 259, 3, 159, 0, 0, 0, 0, []) : zm_E) := (ta188_0 14).trans rfl
theorem c_188_15 : (zm_cd 188)[15]? = some ((23, .aload_n 0, 1, 0, 0, 0, 0, 0, []) : zm_E) := (ta188_0 15).trans rfl
theorem c_188_16 : (zm_cd 188)[16]? = some ((24, .iload 4, 2, 4, 0, 0, 0, 0, []) : zm_E) := (ta188_0 16).trans rfl
theorem c_188_17 : (zm_cd 188)[17]? = some ((26, .iconst 0, 1, 0, 0, 0, 0, 0, []) : zm_E) := (ta188_0 17).trans rfl
theorem c_188_18 : (zm_cd 188)[18]? = some ((27, .invokevirtual 30, 3, 9, 2, 1, 0, 0, [7]) : zm_E) := (ta188_0 18).trans rfl
theorem c_188_19 : (zm_cd 188)[19]? = some ((30, .istore 5, 2, 5, 0, 0, 0, 0, []) : zm_E) := (ta188_0 19).trans rfl
theorem c_188_20 : (zm_cd 188)[20]? = some ((32, .iload 5, 2, 5, 0, 0, 0, 0, []) : zm_E) := (ta188_0 20).trans rfl
theorem c_188_21 : (zm_cd 188)[21]? = some ((34, .ifCond .le 78, 3, 61, 0, 0, 0, 0, []) : zm_E) := (ta188_0 21).trans rfl
theorem c_188_22 : (zm_cd 188)[22]? = some ((37, .iload 5, 2, 5, 0, 0, 0, 0, []) : zm_E) := (ta188_0 22).trans rfl
theorem c_188_23 : (zm_cd 188)[23]? = some ((39, .iload_n 1, 1, 1, 0, 0, 0, 0, []) : zm_E) := (ta188_0 23).trans rfl
theorem c_188_24 : (zm_cd 188)[24]? = some ((40, .iand, 1, 0, 0, 0, 0, 0, []) : zm_E) := (ta188_0 24).trans rfl
theorem c_188_25 : (zm_cd 188)[25]? = some ((41, .ifCond .ne 71, 3, 61, 0, 0, 0, 0, []) : zm_E) := (ta188_0 25).trans rfl
theorem c_188_26 : (zm_cd 188)[26]? = some ((44, .aload_n 0, 1, 0, 0, 0, 0, 0, []) : zm_E) := (ta188_0 26).trans rfl
theorem c_188_27 : (zm_cd 188)[27]? = some ((45, .iload 4, 2, 4, 0, 0, 0, 0, []) : zm_E) := (ta188_0 27).trans rfl
theorem c_188_28 : (zm_cd 188)[28]? = some ((47, .iconst 1, 1, 0, 0, 0, 1, 0, []) : zm_E) := (ta188_0 28).trans rfl
theorem c_188_29 : (zm_cd 188)[29]? = some ((48, .invokevirtual 30, 3, 9, 2, 1, 0, 0, [7]) : zm_E) := (ta188_0 29).trans rfl
theorem c_188_30 : (zm_cd 188)[30]? = some ((51, .iload 5, 2, 5, 0, 0, 0, 0, []) : zm_E) := (ta188_0 30).trans rfl
theorem c_188_31 : (zm_cd 188)[31]? = some ((53, .invokestatic 25, 3, 186, 1, 1, 0, 0, []) : zm_E) := (ta188_0 31).trans rfl
theorem c_188_32 : (zm_cd 188)[32]? = some ((56, .if_icmp .ne 56, 3, 61, 0, 0, 0, 0, []) : zm_E) := (ta188_0 32).trans rfl
theorem c_188_33 : (zm_cd 188)[33]? = some ((59, .aload_n 0, 1, 0, 0, 0, 0, 0, []) : zm_E) := (ta188_0 33).trans rfl
theorem c_188_34 : (zm_cd 188)[34]? = some ((60, .iload 4, 2, 4, 0, 0, 0, 0, []) : zm_E) := (ta188_0 34).trans rfl
theorem c_188_35 : (zm_cd 188)[35]? = some ((62, .iconst 2, 1, 0, 0, 0, 2, 0, []) : zm_E) := (ta188_0 35).trans rfl
theorem c_188_36 : (zm_cd 188)[36]? = some ((63, .invokevirtual 30, 3, 9, 2, 1, 0, 0, [7]) : zm_E) := (ta188_0 36).trans rfl
theorem c_188_37 : (zm_cd 188)[37]? = some ((66, .aload_n 0, 1, 0, 0, 0, 0, 0, []) : zm_E) := (ta188_0 37).trans rfl
theorem c_188_38 : (zm_cd 188)[38]? = some ((67, .iconst 5, 1, 0, 0, 0, 5, 0, []) : zm_E) := (ta188_0 38).trans rfl
theorem c_188_39 : (zm_cd 188)[39]? = some ((68, .invokevirtual 9, 3, 5, 1, 1, 0, 0, [7]) : zm_E) := (ta188_0 39).trans rfl
theorem c_188_40 : (zm_cd 188)[40]? = some ((71, .if_icmp .ge 41, 3, 61, 0, 0, 0, 0, []) : zm_E) := (ta188_0 40).trans rfl
theorem c_188_41 : (zm_cd 188)[41]? = some ((74, .aload_n 0, 1, 0, 0, 0, 0, 0, []) : zm_E) := (ta188_0 41).trans rfl
theorem c_188_42 : (zm_cd 188)[42]? = some ((75, .iload 4, 2, 4, 0, 0, 0, 0, []) : zm_E) := (ta188_0 42).trans rfl
theorem c_188_43 : (zm_cd 188)[43]? = some ((77, .iconst 3, 1, 0, 0, 0, 3, 0, []) : zm_E) := (ta188_0 43).trans rfl
theorem c_188_44 : (zm_cd 188)[44]? = some ((78, .invokevirtual 30, 3, 9, 2, 1, 0, 0, [7]) : zm_E) := (ta188_0 44).trans rfl
theorem c_188_45 : (zm_cd 188)[45]? = some ((81, .ifCond .lt 31, 3, 61, 0, 0, 0, 0, []) : zm_E) := (ta188_0 45).trans rfl
theorem c_188_46 : (zm_cd 188)[46]? = some ((84, .iload 4, 2, 4, 0, 0, 0, 0, []) : zm_E) := (ta188_0 46).trans rfl
theorem c_188_47 : (zm_cd 188)[47]? = some ((86, .ifCond .eq 22, 3, 59, 0, 0, 0, 0, []) : zm_E) := (ta188_0 47).trans rfl
theorem c_188_48 : (zm_cd 188)[48]? = some ((89, .aload_n 0, 1, 0, 0, 0, 0, 0, []) : zm_E) := (ta188_0 48).trans rfl
theorem c_188_49 : (zm_cd 188)[49]? = some ((90, .iload 4, 2, 4, 0, 0, 0, 0, []) : zm_E) := (ta188_0 49).trans rfl
theorem c_188_50 : (zm_cd 188)[50]? = some ((92, .iconst 2, 1, 0, 0, 0, 2, 0, []) : zm_E) := (ta188_0 50).trans rfl
theorem c_188_51 : (zm_cd 188)[51]? = some ((93, .invokevirtual 30, 3, 9, 2, 1, 0, 0, [7]) : zm_E) := (ta188_0 51).trans rfl
theorem c_188_52 : (zm_cd 188)[52]? = some ((96, .aload_n 0, 1, 0, 0, 0, 0, 0, []) : zm_E) := (ta188_0 52).trans rfl
theorem c_188_53 : (zm_cd 188)[53]? = some ((97, .iload 4, 2, 4, 0, 0, 0, 0, []) : zm_E) := (ta188_0 53).trans rfl
theorem c_188_54 : (zm_cd 188)[54]? = some ((99, .iconst 1, 1, 0, 0, 0, 1, 0, []) : zm_E) := (ta188_0 54).trans rfl
theorem c_188_55 : (zm_cd 188)[55]? = some ((100, .isub, 1, 0, 0, 0, 0, 0, []) : zm_E) := (ta188_0 55).trans rfl
theorem c_188_56 : (zm_cd 188)[56]? = some ((101, .iconst 2, 1, 0, 0, 0, 2, 0, []) : zm_E) := (ta188_0 56).trans rfl
theorem c_188_57 : (zm_cd 188)[57]? = some ((102, .invokevirtual 30, 3, 9, 2, 1, 0, 0, [7]) : zm_E) := (ta188_0 57).trans rfl
theorem c_188_58 : (zm_cd 188)[58]? = some ((105, .if_icmp .lt 7, 3, 61, 0, 0, 0, 0, []) : zm_E) := (ta188_0 58).trans rfl
theorem c_188_59 : (zm_cd 188)[59]? = some ((108, .iconst 1, 1, 0, 0, 0, 1, 0, []) : zm_E) := (ta188_0 59).trans rfl
theorem ta188_1 : ∀ j : Nat, (zm_cd 188)[60 + j]? = (zd_188_1 ++ zd_188_2)[j]? := fun j => (ta188_0 (60 + j)).trans (zq_r zd_188_0 _ j)
theorem c_188_60 : (zm_cd 188)[60]? = some ((109, .goto 4, 3, 62, 0, 0, 0, 0, []) : zm_E) := (ta188_1 0).trans rfl
theorem c_188_61 : (zm_cd 188)[61]? = some ((112, .iconst 0, 1, 0, 0, 0, 0, 0, []) : zm_E) := (ta188_1 1).trans rfl
theorem c_188_62 : (zm_cd 188)[62]? = some ((113, .istore_n 3, 1, 3, 0, 0, 0, 0, []) : zm_E) := (ta188_1 2).trans rfl
theorem c_188_63 : (zm_cd 188)[63]? = some ((114, .iconst 0, 1, 0, 0, 0, 0, 0, []) : zm_E) := (ta188_1 3).trans rfl
theorem c_188_64 : (zm_cd 188)[64]? = some ((115, .istore 6, 2, 6, 0, 0, 0, 0, []) : zm_E) := (ta188_1 4).trans rfl
theorem c_188_65 : (zm_cd 188)[65]? = some ((117, .iconst 0, 1, 0, 0, 0, 0, 0, []) : zm_E) := (ta188_1 5).trans rfl
theorem c_188_66 : (zm_cd 188)[66]? = some ((118, .istore 7, 2, 7, 0, 0, 0, 0, []) : zm_E) := (ta188_1 6).trans rfl
theorem c_188_67 : (zm_cd 188)[67]? = some ((120, .iconst 0, 1, 0, 0, 0, 0, 0, []) : zm_E) := (ta188_1 7).trans rfl
theorem c_188_68 : (zm_cd 188)[68]? = some ((121, .istore 8, 2, 8, 0, 0, 0, 0, []) : zm_E) := (ta188_1 8).trans rfl
theorem c_188_69 : (zm_cd 188)[69]? = some ((123, .iload 8, 2, 8, 0, 0, 0, 0, []) : zm_E) := (ta188_1 9).trans rfl
theorem c_188_70 : (zm_cd 188)[70]? = some ((125, .aload_n 0, 1, 0, 0, 0, 0, 0, []) : zm_E) := (ta188_1 10).trans rfl
theorem c_188_71 : (zm_cd 188)[71]? = some ((126, .iconst 0, 1, 0, 0, 0, 0, 0, []) : zm_E) := (ta188_1 11).trans rfl
theorem c_188_72 : (zm_cd 188)[72]? = some ((127, .invokevirtual 9, 3, 5, 1, 1, 0, 0, [7]) : zm_E) := (ta188_1 12).trans rfl
theorem c_188_73 : (zm_cd 188)[73]? = some ((130, .if_icmp .ge 111, 3, 137, 0, 0, 0, 0, []) : zm_E) := (ta188_1 13).trans rfl
theorem c_188_74 : (zm_cd 188)[74]? = some ((133, .iload_n 3, 1, 3, 0, 0, 0, 0, []) : zm_E) := (ta188_1 14).trans rfl
theorem c_188_75 : (zm_cd 188)[75]? = some ((134, .ifCond .eq 107, 3, 137, 0, 0, 0, 0, []) : zm_E) := (ta188_1 15).trans rfl
theorem c_188_76 : (zm_cd 188)[76]? = some ((137, .iload 5, 2, 5, 0, 0, 0, 0, []) : zm_E) := (ta188_1 16).trans rfl
theorem c_188_77 : (zm_cd 188)[77]? = some ((139, .iload 8, 2, 8, 0, 0, 0, 0, []) : zm_E) := (ta188_1 17).trans rfl
theorem c_188_78 : (zm_cd 188)[78]? = some ((141, .ishr, 1, 0, 0, 0, 0, 0, []) : zm_E) := (ta188_1 18).trans rfl
theorem c_188_79 : (zm_cd 188)[79]? = some ((142, .iconst 1, 1, 0, 0, 0, 1, 0, []) : zm_E) := (ta188_1 19).trans rfl
theorem c_188_80 : (zm_cd 188)[80]? = some ((143, .iand, 1, 0, 0, 0, 0, 0, []) : zm_E) := (ta188_1 20).trans rfl
theorem c_188_81 : (zm_cd 188)[81]? = some ((144, .iconst 1, 1, 0, 0, 0, 1, 0, []) : zm_E) := (ta188_1 21).trans rfl
theorem c_188_82 : (zm_cd 188)[82]? = some ((145, .if_icmp .ne 90, 3, 135, 0, 0, 0, 0, []) : zm_E) := (ta188_1 22).trans rfl
theorem c_188_83 : (zm_cd 188)[83]? = some ((148, .iload 6, 2, 6, 0, 0, 0, 0, []) : zm_E) := (ta188_1 23).trans rfl
theorem c_188_84 : (zm_cd 188)[84]? = some ((150, .iconst 1, 1, 0, 0, 0, 1, 0, []) : zm_E) := (ta188_1 24).trans rfl
theorem c_188_85 : (zm_cd 188)[85]? = some ((151, .aload_n 0, 1, 0, 0, 0, 0, 0, []) : zm_E) := (ta188_1 25).trans rfl
theorem c_188_86 : (zm_cd 188)[86]? = some ((152, .iload 8, 2, 8, 0, 0, 0, 0, []) : zm_E) := (ta188_1 26).trans rfl
theorem c_188_87 : (zm_cd 188)[87]? = some ((154, .iconst 0, 1, 0, 0, 0, 0, 0, []) : zm_E) := (ta188_1 27).trans rfl
theorem c_188_88 : (zm_cd 188)[88]? = some ((155, .invokevirtual 15, 3, 6, 2, 1, 0, 0, [7]) : zm_E) := (ta188_1 28).trans rfl
theorem c_188_89 : (zm_cd 188)[89]? = some ((158, .ishl, 1, 0, 0, 0, 0, 0, []) : zm_E) := (ta188_1 29).trans rfl
theorem c_188_90 : (zm_cd 188)[90]? = some ((159, .ior, 1, 0, 0, 0, 0, 0, []) : zm_E) := (ta188_1 30).trans rfl
theorem c_188_91 : (zm_cd 188)[91]? = some ((160, .istore 6, 2, 6, 0, 0, 0, 0, []) : zm_E) := (ta188_1 31).trans rfl
theorem c_188_92 : (zm_cd 188)[92]? = some ((162, .iload 7, 2, 7, 0, 0, 0, 0, []) : zm_E) := (ta188_1 32).trans rfl
theorem c_188_93 : (zm_cd 188)[93]? = some ((164, .iconst 1, 1, 0, 0, 0, 1, 0, []) : zm_E) := (ta188_1 33).trans rfl
theorem c_188_94 : (zm_cd 188)[94]? = some ((165, .aload_n 0, 1, 0, 0, 0, 0, 0, []) : zm_E) := (ta188_1 34).trans rfl
theorem c_188_95 : (zm_cd 188)[95]? = some ((166, .iload 8, 2, 8, 0, 0, 0, 0, []) : zm_E) := (ta188_1 35).trans rfl
theorem c_188_96 : (zm_cd 188)[96]? = some ((168, .iconst 3, 1, 0, 0, 0, 3, 0, []) : zm_E) := (ta188_1 36).trans rfl
theorem c_188_97 : (zm_cd 188)[97]? = some ((169, .invokevirtual 15, 3, 6, 2, 1, 0, 0, [7]) : zm_E) := (ta188_1 37).trans rfl
theorem c_188_98 : (zm_cd 188)[98]? = some ((172, .ishl, 1, 0, 0, 0, 0, 0, []) : zm_E) := (ta188_1 38).trans rfl
theorem c_188_99 : (zm_cd 188)[99]? = some ((173, .ior, 1, 0, 0, 0, 0, 0, []) : zm_E) := (ta188_1 39).trans rfl
theorem c_188_100 : (zm_cd 188)[100]? = some ((174, .istore 7, 2, 7, 0, 0, 0, 0, []) : zm_E) := (ta188_1 40).trans rfl
theorem c_188_101 : (zm_cd 188)[101]? = some ((176, .iload_n 2, 1, 2, 0, 0, 0, 0, []) : zm_E) := (ta188_1 41).trans rfl
theorem c_188_102 : (zm_cd 188)[102]? = some ((177, .aload_n 0, 1, 0, 0, 0, 0, 0, []) : zm_E) := (ta188_1 42).trans rfl
theorem c_188_103 : (zm_cd 188)[103]? = some ((178, .iload 8, 2, 8, 0, 0, 0, 0, []) : zm_E) := (ta188_1 43).trans rfl
theorem c_188_104 : (zm_cd 188)[104]? = some ((180, .iconst 1, 1, 0, 0, 0, 1, 0, []) : zm_E) := (ta188_1 44).trans rfl
theorem c_188_105 : (zm_cd 188)[105]? = some ((181, .invokevirtual 15, 3, 6, 2, 1, 0, 0, [7]) : zm_E) := (ta188_1 45).trans rfl
theorem c_188_106 : (zm_cd 188)[106]? = some ((184, .aload_n 0, 1, 0, 0, 0, 0, 0, []) : zm_E) := (ta188_1 46).trans rfl
theorem c_188_107 : (zm_cd 188)[107]? = some ((185, .iload 8, 2, 8, 0, 0, 0, 0, []) : zm_E) := (ta188_1 47).trans rfl
theorem c_188_108 : (zm_cd 188)[108]? = some ((187, .aload_n 0, 1, 0, 0, 0, 0, 0, []) : zm_E) := (ta188_1 48).trans rfl
theorem c_188_109 : (zm_cd 188)[109]? = some ((188, .iload 8, 2, 8, 0, 0, 0, 0, []) : zm_E) := (ta188_1 49).trans rfl
theorem c_188_110 : (zm_cd 188)[110]? = some ((190, .iconst 3, 1, 0, 0, 0, 3, 0, []) : zm_E) := (ta188_1 50).trans rfl
theorem c_188_111 : (zm_cd 188)[111]? = some ((191, .invokevirtual 15, 3, 6, 2, 1, 0, 0, [7]) : zm_E) := (ta188_1 51).trans rfl
theorem c_188_112 : (zm_cd 188)[112]? = some ((194, .invokevirtual 19, 3, 7, 2, 1, 0, 0, [7]) : zm_E) := (ta188_1 52).trans rfl
theorem c_188_113 : (zm_cd 188)[113]? = some ((197, .isub, 1, 0, 0, 0, 0, 0, []) : zm_E) := (ta188_1 53).trans rfl
theorem c_188_114 : (zm_cd 188)[114]? = some ((198, .iadd, 1, 0, 0, 0, 0, 0, []) : zm_E) := (ta188_1 54).trans rfl
theorem c_188_115 : (zm_cd 188)[115]? = some ((199, .istore_n 2, 1, 2, 0, 0, 0, 0, []) : zm_E) := (ta188_1 55).trans rfl
theorem c_188_116 : (zm_cd 188)[116]? = some ((200, .aload_n 0, 1, 0, 0, 0, 0, 0, []) : zm_E) := (ta188_1 56).trans rfl
theorem c_188_117 : (zm_cd 188)[117]? = some ((201, .iload 8, 2, 8, 0, 0, 0, 0, []) : zm_E) := (ta188_1 57).trans rfl
theorem c_188_118 : (zm_cd 188)[118]? = some ((203, .iconst 5, 1, 0, 0, 0, 5, 0, []) : zm_E) := (ta188_1 58).trans rfl
theorem c_188_119 : (zm_cd 188)[119]? = some ((204, .invokevirtual 15, 3, 6, 2, 1, 0, 0, [7]) : zm_E) := (ta188_1 59).trans rfl
theorem ta188_2 : ∀ j : Nat, (zm_cd 188)[120 + j]? = zd_188_2[j]? := fun j => by rw [show 120 + j = 60 + (60 + j) by omega]; exact (ta188_1 (60 + j)).trans (zq_r zd_188_1 _ j)
theorem c_188_120 : (zm_cd 188)[120]? = some ((207, .iload 4, 2, 4, 0, 0, 0, 0, []) : zm_E) := (ta188_2 0).trans rfl
theorem c_188_121 : (zm_cd 188)[121]? = some ((209, .if_icmp .ne 24, 3, 133, 0, 0, 0, 0, []) : zm_E) := (ta188_2 1).trans rfl
theorem c_188_122 : (zm_cd 188)[122]? = some ((212, .aload_n 0, 1, 0, 0, 0, 0, 0, []) : zm_E) := (ta188_2 2).trans rfl
theorem c_188_123 : (zm_cd 188)[123]? = some ((213, .iload 8, 2, 8, 0, 0, 0, 0, []) : zm_E) := (ta188_2 3).trans rfl
theorem c_188_124 : (zm_cd 188)[124]? = some ((215, .iconst 4, 1, 0, 0, 0, 4, 0, []) : zm_E) := (ta188_2 4).trans rfl
theorem c_188_125 : (zm_cd 188)[125]? = some ((216, .invokevirtual 15, 3, 6, 2, 1, 0, 0, [7]) : zm_E) := (ta188_2 5).trans rfl
theorem c_188_126 : (zm_cd 188)[126]? = some ((219, .aload_n 0, 1, 0, 0, 0, 0, 0, []) : zm_E) := (ta188_2 6).trans rfl
theorem c_188_127 : (zm_cd 188)[127]? = some ((220, .iload 4, 2, 4, 0, 0, 0, 0, []) : zm_E) := (ta188_2 7).trans rfl
theorem c_188_128 : (zm_cd 188)[128]? = some ((222, .iconst 2, 1, 0, 0, 0, 2, 0, []) : zm_E) := (ta188_2 8).trans rfl
theorem c_188_129 : (zm_cd 188)[129]? = some ((223, .invokevirtual 30, 3, 9, 2, 1, 0, 0, [7]) : zm_E) := (ta188_2 9).trans rfl
theorem c_188_130 : (zm_cd 188)[130]? = some ((226, .if_icmp .ne 7, 3, 133, 0, 0, 0, 0, []) : zm_E) := (ta188_2 10).trans rfl
theorem c_188_131 : (zm_cd 188)[131]? = some ((229, .iconst 1, 1, 0, 0, 0, 1, 0, []) : zm_E) := (ta188_2 11).trans rfl
theorem c_188_132 : (zm_cd 188)[132]? = some ((230, .goto 4, 3, 134, 0, 0, 0, 0, []) : zm_E) := (ta188_2 12).trans rfl
theorem c_188_133 : (zm_cd 188)[133]? = some ((233, .iconst 0, 1, 0, 0, 0, 0, 0, []) : zm_E) := (ta188_2 13).trans rfl
theorem c_188_134 : (zm_cd 188)[134]? = some ((234, .istore_n 3, 1, 3, 0, 0, 0, 0, []) : zm_E) := (ta188_2 14).trans rfl
theorem c_188_135 : (zm_cd 188)[135]? = some ((235, .iinc 8 1, 3, 8, 0, 0, 1, 0, []) : zm_E) := (ta188_2 15).trans rfl
theorem c_188_136 : (zm_cd 188)[136]? = some ((238, .goto (-115), 3, 69, 0, 0, 0, 0, []) : zm_E) := (ta188_2 16).trans rfl
theorem c_188_137 : (zm_cd 188)[137]? = some ((241, .iload_n 3, 1, 3, 0, 0, 0, 0, []) : zm_E) := (ta188_2 17).trans rfl
theorem c_188_138 : (zm_cd 188)[138]? = some ((242, .ifCond .eq 14, 3, 144, 0, 0, 0, 0, []) : zm_E) := (ta188_2 18).trans rfl
theorem c_188_139 : (zm_cd 188)[139]? = some ((245, .iload 6, 2, 6, 0, 0, 0, 0, []) : zm_E) := (ta188_2 19).trans rfl
theorem c_188_140 : (zm_cd 188)[140]? = some ((247, .iload 7, 2, 7, 0, 0, 0, 0, []) : zm_E) := (ta188_2 20).trans rfl
theorem c_188_141 : (zm_cd 188)[141]? = some ((249, .if_icmp .ne 7, 3, 144, 0, 0, 0, 0, []) : zm_E) := (ta188_2 21).trans rfl
theorem c_188_142 : (zm_cd 188)[142]? = some ((252, .iconst 1, 1, 0, 0, 0, 1, 0, []) : zm_E) := (ta188_2 22).trans rfl
theorem c_188_143 : (zm_cd 188)[143]? = some ((253, .goto 4, 3, 145, 0, 0, 0, 0, []) : zm_E) := (ta188_2 23).trans rfl
theorem c_188_144 : (zm_cd 188)[144]? = some ((256, .iconst 0, 1, 0, 0, 0, 0, 0, []) : zm_E) := (ta188_2 24).trans rfl
theorem c_188_145 : (zm_cd 188)[145]? = some ((257, .istore_n 3, 1, 3, 0, 0, 0, 0, []) : zm_E) := (ta188_2 25).trans rfl
theorem c_188_146 : (zm_cd 188)[146]? = some ((258, .iload_n 2, 1, 2, 0, 0, 0, 0, []) : zm_E) := (ta188_2 26).trans rfl
theorem c_188_147 : (zm_cd 188)[147]? = some ((259, .aload_n 0, 1, 0, 0, 0, 0, 0, []) : zm_E) := (ta188_2 27).trans rfl
theorem c_188_148 : (zm_cd 188)[148]? = some ((260, .iload 4, 2, 4, 0, 0, 0, 0, []) : zm_E) := (ta188_2 28).trans rfl
theorem c_188_149 : (zm_cd 188)[149]? = some ((262, .iconst 3, 1, 0, 0, 0, 3, 0, []) : zm_E) := (ta188_2 29).trans rfl
theorem c_188_150 : (zm_cd 188)[150]? = some ((263, .invokevirtual 30, 3, 9, 2, 1, 0, 0, [7]) : zm_E) := (ta188_2 30).trans rfl
theorem c_188_151 : (zm_cd 188)[151]? = some ((266, .isub, 1, 0, 0, 0, 0, 0, []) : zm_E) := (ta188_2 31).trans rfl
theorem c_188_152 : (zm_cd 188)[152]? = some ((267, .istore_n 2, 1, 2, 0, 0, 0, 0, []) : zm_E) := (ta188_2 32).trans rfl
theorem c_188_153 : (zm_cd 188)[153]? = some ((268, .iload_n 1, 1, 1, 0, 0, 0, 0, []) : zm_E) := (ta188_2 33).trans rfl
theorem c_188_154 : (zm_cd 188)[154]? = some ((269, .iload 5, 2, 5, 0, 0, 0, 0, []) : zm_E) := (ta188_2 34).trans rfl
theorem c_188_155 : (zm_cd 188)[155]? = some ((271, .ior, 1, 0, 0, 0, 0, 0, []) : zm_E) := (ta188_2 35).trans rfl
theorem c_188_156 : (zm_cd 188)[156]? = some ((272, .istore_n 1, 1, 1, 0, 0, 0, 0, []) : zm_E) := (ta188_2 36).trans rfl
theorem c_188_157 : (zm_cd 188)[157]? = some ((273, .iinc 4 1, 3, 4, 0, 0, 1, 0, []) : zm_E) := (ta188_2 37).trans rfl
theorem c_188_158 : (zm_cd 188)[158]? = some ((276, .goto (-267), 3, 8, 0, 0, 0, 0, []) : zm_E) := (ta188_2 38).trans rfl
theorem c_188_159 : (zm_cd 188)[159]? = some ((279, .iload_n 3, 1, 3, 0, 0, 0, 0, []) : zm_E) := (ta188_2 39).trans rfl
theorem c_188_160 : (zm_cd 188)[160]? = some ((280, .ifCond .eq 36, 3, 178, 0, 0, 0, 0, []) : zm_E) := (ta188_2 40).trans rfl
theorem c_188_161 : (zm_cd 188)[161]? = some ((283, .iload_n 2, 1, 2, 0, 0, 0, 0, []) : zm_E) := (ta188_2 41).trans rfl
theorem c_188_162 : (zm_cd 188)[162]? = some ((284, .ifCond .ne 32, 3, 178, 0, 0, 0, 0, []) : zm_E) := (ta188_2 42).trans rfl
theorem c_188_163 : (zm_cd 188)[163]? = some ((287, .iload_n 1, 1, 1, 0, 0, 0, 0, []) : zm_E) := (ta188_2 43).trans rfl
theorem c_188_164 : (zm_cd 188)[164]? = some ((288, .invokestatic 25, 3, 186, 1, 1, 0, 0, []) : zm_E) := (ta188_2 44).trans rfl
theorem c_188_165 : (zm_cd 188)[165]? = some ((291, .aload_n 0, 1, 0, 0, 0, 0, 0, []) : zm_E) := (ta188_2 45).trans rfl
theorem c_188_166 : (zm_cd 188)[166]? = some ((292, .iconst 1, 1, 0, 0, 0, 1, 0, []) : zm_E) := (ta188_2 46).trans rfl
theorem c_188_167 : (zm_cd 188)[167]? = some ((293, .invokevirtual 9, 3, 5, 1, 1, 0, 0, [7]) : zm_E) := (ta188_2 47).trans rfl
theorem c_188_168 : (zm_cd 188)[168]? = some ((296, .if_icmp .ne 20, 3, 178, 0, 0, 0, 0, []) : zm_E) := (ta188_2 48).trans rfl
theorem c_188_169 : (zm_cd 188)[169]? = some ((299, .aload_n 0, 1, 0, 0, 0, 0, 0, []) : zm_E) := (ta188_2 49).trans rfl
theorem c_188_170 : (zm_cd 188)[170]? = some ((300, .iconst 5, 1, 0, 0, 0, 5, 0, []) : zm_E) := (ta188_2 50).trans rfl
theorem c_188_171 : (zm_cd 188)[171]? = some ((301, .invokevirtual 9, 3, 5, 1, 1, 0, 0, [7]) : zm_E) := (ta188_2 51).trans rfl
theorem c_188_172 : (zm_cd 188)[172]? = some ((304, .aload_n 0, 1, 0, 0, 0, 0, 0, []) : zm_E) := (ta188_2 52).trans rfl
theorem c_188_173 : (zm_cd 188)[173]? = some ((305, .iconst 4, 1, 0, 0, 0, 4, 0, []) : zm_E) := (ta188_2 53).trans rfl
theorem c_188_174 : (zm_cd 188)[174]? = some ((306, .invokevirtual 9, 3, 5, 1, 1, 0, 0, [7]) : zm_E) := (ta188_2 54).trans rfl
theorem c_188_175 : (zm_cd 188)[175]? = some ((309, .if_icmp .gt 7, 3, 178, 0, 0, 0, 0, []) : zm_E) := (ta188_2 55).trans rfl
theorem c_188_176 : (zm_cd 188)[176]? = some ((312, .iconst 1, 1, 0, 0, 0, 1, 0, []) : zm_E) := (ta188_2 56).trans rfl
theorem c_188_177 : (zm_cd 188)[177]? = some ((313, .goto 4, 3, 179, 0, 0, 0, 0, []) : zm_E) := (ta188_2 57).trans rfl
theorem c_188_178 : (zm_cd 188)[178]? = some ((316, .iconst 0, 1, 0, 0, 0, 0, 0, []) : zm_E) := (ta188_2 58).trans rfl
theorem c_188_179 : (zm_cd 188)[179]? = some ((317, .ireturn, 1, 1, 0, 0, 0, 0, []) : zm_E) := (ta188_2 59).trans rfl
theorem ml_190 : zm_ml 190 = 15 := rfl
theorem ht_190 : zm_ht 190 = [] := rfl
theorem ta190_0 : ∀ j : Nat, (zm_cd 190)[j]? = (zd_190_0 ++ (zd_190_1 ++ (zd_190_2 ++ (zd_190_3 ++ zd_190_4))))[j]? := fun j => rfl
theorem c_190_0 : (zm_cd 190)[0]? = some ((0, .iload_n 1, 1, 1, 0, 0, 0, 0, []) : zm_E) := (ta190_0 0).trans rfl
theorem c_190_1 : (zm_cd 190)[1]? = some ((1, .iconst 3, 1, 0, 0, 0, 3, 0, []) : zm_E) := (ta190_0 1).trans rfl
theorem c_190_2 : (zm_cd 190)[2]? = some ((2, .ishr, 1, 0, 0, 0, 0, 0, []) : zm_E) := (ta190_0 2).trans rfl
theorem c_190_3 : (zm_cd 190)[3]? = some ((3, .istore_n 2, 1, 2, 0, 0, 0, 0, []) : zm_E) := (ta190_0 3).trans rfl
theorem c_190_4 : (zm_cd 190)[4]? = some ((4, .aload_n 0, 1, 0, 0, 0, 0, 0, []) : zm_E) := (ta190_0 4).trans rfl
theorem c_190_5 : (zm_cd 190)[5]? = some ((5, .iconst 0, 1, 0, 0, 0, 0, 0, []) : zm_E) := (ta190_0 5).trans rfl
theorem c_190_6 : (zm_cd 190)[6]? = some ((6, .invokevirtual 9, 3, 5, 1, 1, 0, 0, [7]) : zm_E) := (ta190_0 6).trans rfl
theorem c_190_7 : (zm_cd 190)[7]? = some ((9, .istore_n 3, 1, 3, 0, 0, 0, 0, []) : zm_E) := (ta190_0 7).trans rfl
theorem c_190_8 : (zm_cd 190)[8]? = some ((10, .iload_n 2, 1, 2, 0, 0, 0, 0, []) : zm_E) := (ta190_0 8).trans rfl
theorem c_190_9 : (zm_cd 190)[9]? = some ((11, .iload_n 3, 1, 3, 0, 0, 0, 0, []) : zm_E) := (ta190_0 9).trans rfl
theorem c_190_10 : (zm_cd 190)[10]? = some ((12, .irem, 1, 0, 0, 0, 0, 0, []) : zm_E) := (ta190_0 10).trans rfl
theorem c_190_11 : (zm_cd 190)[11]? = some ((13, .istore 4, 2, 4, 0, 0, 0, 0, []) : zm_E) := (ta190_0 11).trans rfl
theorem c_190_12 : (zm_cd 190)[12]? = some ((15, .iload_n 2, 1, 2, 0, 0, 0, 0, []) : zm_E) := (ta190_0 12).trans rfl
theorem c_190_13 : (zm_cd 190)[13]? = some ((16, .iconst 3, 1, 0, 0, 0, 3, 0, []) : zm_E) := (ta190_0 13).trans rfl
theorem c_190_14 : (zm_cd 190)[14]? = some ((17, .ishr, 1, 0, 0, 0, 0, 0, []) : zm_E) := (ta190_0 14).trans rfl
theorem c_190_15 : (zm_cd 190)[15]? = some ((18, .iload_n 3, 1, 3, 0, 0, 0, 0, []) : zm_E) := (ta190_0 15).trans rfl
theorem c_190_16 : (zm_cd 190)[16]? = some ((19, .irem, 1, 0, 0, 0, 0, 0, []) : zm_E) := (ta190_0 16).trans rfl
theorem c_190_17 : (zm_cd 190)[17]? = some ((20, .istore 5, 2, 5, 0, 0, 0, 0, []) : zm_E) := (ta190_0 17).trans rfl
theorem c_190_18 : (zm_cd 190)[18]? = some ((22, .aload_n 0, 1, 0, 0, 0, 0, 0, []) : zm_E) := (ta190_0 18).trans rfl
theorem c_190_19 : (zm_cd 190)[19]? = some ((23, .iload 4, 2, 4, 0, 0, 0, 0, []) : zm_E) := (ta190_0 19).trans rfl
theorem c_190_20 : (zm_cd 190)[20]? = some ((25, .iconst 0, 1, 0, 0, 0, 0, 0, []) : zm_E) := (ta190_0 20).trans rfl
theorem c_190_21 : (zm_cd 190)[21]? = some ((26, .invokevirtual 15, 3, 6, 2, 1, 0, 0, [7]) : zm_E) := (ta190_0 21).trans rfl
theorem c_190_22 : (zm_cd 190)[22]? = some ((29, .istore 6, 2, 6, 0, 0, 0, 0, []) : zm_E) := (ta190_0 22).trans rfl
theorem c_190_23 : (zm_cd 190)[23]? = some ((31, .aload_n 0, 1, 0, 0, 0, 0, 0, []) : zm_E) := (ta190_0 23).trans rfl
theorem c_190_24 : (zm_cd 190)[24]? = some ((32, .iload 5, 2, 5, 0, 0, 0, 0, []) : zm_E) := (ta190_0 24).trans rfl
theorem c_190_25 : (zm_cd 190)[25]? = some ((34, .iconst 0, 1, 0, 0, 0, 0, 0, []) : zm_E) := (ta190_0 25).trans rfl
theorem c_190_26 : (zm_cd 190)[26]? = some ((35, .invokevirtual 15, 3, 6, 2, 1, 0, 0, [7]) : zm_E) := (ta190_0 26).trans rfl
theorem c_190_27 : (zm_cd 190)[27]? = some ((38, .istore 7, 2, 7, 0, 0, 0, 0, []) : zm_E) := (ta190_0 27).trans rfl
theorem c_190_28 : (zm_cd 190)[28]? = some ((40, .iload_n 1, 1, 1, 0, 0, 0, 0, []) : zm_E) := (ta190_0 28).trans rfl
theorem c_190_29 : (zm_cd 190)[29]? = some ((41, .bipush 7, 2, 0, 0, 0, 7, 0, []) : zm_E) := (ta190_0 29).trans rfl
theorem c_190_30 : (zm_cd 190)[30]? = some ((43, .iand, 1, 0, 0, 0, 0, 0, []) : zm_E) := (ta190_0 30).trans rfl
theorem c_190_31 : (zm_cd 190)[31]? = some ((44, .tableswitch 375 0 6 #[44, 85, 85, 139, 139, 210, 284], 44, 208, 0, 0, 0, 0, [32, 55, 55, 85, 85, 121, 160]) : zm_E) := (ta190_0 31).trans rfl
theorem c_190_32 : (zm_cd 190)[32]? = some ((88, .iload_n 3, 1, 3, 0, 0, 0, 0, []) : zm_E) := (ta190_0 32).trans rfl
theorem c_190_33 : (zm_cd 190)[33]? = some ((89, .bipush 7, 2, 0, 0, 0, 7, 0, []) : zm_E) := (ta190_0 33).trans rfl
theorem c_190_34 : (zm_cd 190)[34]? = some ((91, .if_icmp .eq 32, 3, 51, 0, 0, 0, 0, []) : zm_E) := (ta190_0 34).trans rfl
theorem c_190_35 : (zm_cd 190)[35]? = some ((94, .aload_n 0, 1, 0, 0, 0, 0, 0, []) : zm_E) := (ta190_0 35).trans rfl
theorem c_190_36 : (zm_cd 190)[36]? = some ((95, .invokevirtual 50, 3, 11, 0, 1, 0, 0, [7]) : zm_E) := (ta190_0 36).trans rfl
theorem c_190_37 : (zm_cd 190)[37]? = some ((98, .iload_n 3, 1, 3, 0, 0, 0, 0, []) : zm_E) := (ta190_0 37).trans rfl
theorem c_190_38 : (zm_cd 190)[38]? = some ((99, .if_icmp .ne 28, 3, 53, 0, 0, 0, 0, []) : zm_E) := (ta190_0 38).trans rfl
theorem c_190_39 : (zm_cd 190)[39]? = some ((102, .aload_n 0, 1, 0, 0, 0, 0, 0, []) : zm_E) := (ta190_0 39).trans rfl
theorem c_190_40 : (zm_cd 190)[40]? = some ((103, .iload_n 3, 1, 3, 0, 0, 0, 0, []) : zm_E) := (ta190_0 40).trans rfl
theorem c_190_41 : (zm_cd 190)[41]? = some ((104, .iload_n 3, 1, 3, 0, 0, 0, 0, []) : zm_E) := (ta190_0 41).trans rfl
theorem c_190_42 : (zm_cd 190)[42]? = some ((105, .invokevirtual 19, 3, 7, 2, 1, 0, 0, [7]) : zm_E) := (ta190_0 42).trans rfl
theorem c_190_43 : (zm_cd 190)[43]? = some ((108, .bipush 6, 2, 0, 0, 0, 6, 0, []) : zm_E) := (ta190_0 43).trans rfl
theorem c_190_44 : (zm_cd 190)[44]? = some ((110, .if_icmp .ne 17, 3, 53, 0, 0, 0, 0, []) : zm_E) := (ta190_0 44).trans rfl
theorem c_190_45 : (zm_cd 190)[45]? = some ((113, .aload_n 0, 1, 0, 0, 0, 0, 0, []) : zm_E) := (ta190_0 45).trans rfl
theorem c_190_46 : (zm_cd 190)[46]? = some ((114, .iload_n 3, 1, 3, 0, 0, 0, 0, []) : zm_E) := (ta190_0 46).trans rfl
theorem c_190_47 : (zm_cd 190)[47]? = some ((115, .iconst 0, 1, 0, 0, 0, 0, 0, []) : zm_E) := (ta190_0 47).trans rfl
theorem c_190_48 : (zm_cd 190)[48]? = some ((116, .invokevirtual 15, 3, 6, 2, 1, 0, 0, [7]) : zm_E) := (ta190_0 48).trans rfl
theorem c_190_49 : (zm_cd 190)[49]? = some ((119, .iload_n 3, 1, 3, 0, 0, 0, 0, []) : zm_E) := (ta190_0 49).trans rfl
theorem c_190_50 : (zm_cd 190)[50]? = some ((120, .if_icmp .ne 7, 3, 53, 0, 0, 0, 0, []) : zm_E) := (ta190_0 50).trans rfl
theorem c_190_51 : (zm_cd 190)[51]? = some ((123, .iconst 1, 1, 0, 0, 0, 1, 0, []) : zm_E) := (ta190_0 51).trans rfl
theorem c_190_52 : (zm_cd 190)[52]? = some ((124, .goto 4, 3, 54, 0, 0, 0, 0, []) : zm_E) := (ta190_0 52).trans rfl
theorem c_190_53 : (zm_cd 190)[53]? = some ((127, .iconst 0, 1, 0, 0, 0, 0, 0, []) : zm_E) := (ta190_0 53).trans rfl
theorem c_190_54 : (zm_cd 190)[54]? = some ((128, .ireturn, 1, 1, 0, 0, 0, 0, []) : zm_E) := (ta190_0 54).trans rfl
theorem c_190_55 : (zm_cd 190)[55]? = some ((129, .aload_n 0, 1, 0, 0, 0, 0, 0, []) : zm_E) := (ta190_0 55).trans rfl
theorem c_190_56 : (zm_cd 190)[56]? = some ((130, .iload 4, 2, 4, 0, 0, 0, 0, []) : zm_E) := (ta190_0 56).trans rfl
theorem c_190_57 : (zm_cd 190)[57]? = some ((132, .iload 5, 2, 5, 0, 0, 0, 0, []) : zm_E) := (ta190_0 57).trans rfl
theorem c_190_58 : (zm_cd 190)[58]? = some ((134, .invokevirtual 19, 3, 7, 2, 1, 0, 0, [7]) : zm_E) := (ta190_0 58).trans rfl
theorem c_190_59 : (zm_cd 190)[59]? = some ((137, .istore 8, 2, 8, 0, 0, 0, 0, []) : zm_E) := (ta190_0 59).trans rfl
theorem ta190_1 : ∀ j : Nat, (zm_cd 190)[60 + j]? = (zd_190_1 ++ (zd_190_2 ++ (zd_190_3 ++ zd_190_4)))[j]? := fun j => (ta190_0 (60 + j)).trans (zq_r zd_190_0 _ j)
theorem c_190_60 : (zm_cd 190)[60]? = some ((139, .aload_n 0, 1, 0, 0, 0, 0, 0, []) : zm_E) := (ta190_1 0).trans rfl
theorem c_190_61 : (zm_cd 190)[61]? = some ((140, .iload 4, 2, 4, 0, 0, 0, 0, []) : zm_E) := (ta190_1 1).trans rfl
theorem c_190_62 : (zm_cd 190)[62]? = some ((142, .iload 5, 2, 5, 0, 0, 0, 0, []) : zm_E) := (ta190_1 2).trans rfl
theorem c_190_63 : (zm_cd 190)[63]? = some ((144, .iload_n 2, 1, 2, 0, 0, 0, 0, []) : zm_E) := (ta190_1 3).trans rfl
theorem c_190_64 : (zm_cd 190)[64]? = some ((145, .bipush 6, 2, 0, 0, 0, 6, 0, []) : zm_E) := (ta190_1 4).trans rfl
theorem c_190_65 : (zm_cd 190)[65]? = some ((147, .ishr, 1, 0, 0, 0, 0, 0, []) : zm_E) := (ta190_1 5).trans rfl
theorem c_190_66 : (zm_cd 190)[66]? = some ((148, .bipush 10, 2, 0, 0, 0, 10, 0, []) : zm_E) := (ta190_1 6).trans rfl
theorem c_190_67 : (zm_cd 190)[67]? = some ((150, .irem, 1, 0, 0, 0, 0, 0, []) : zm_E) := (ta190_1 7).trans rfl
theorem c_190_68 : (zm_cd 190)[68]? = some ((151, .invokevirtual 53, 3, 12, 3, 1, 0, 0, [7]) : zm_E) := (ta190_1 8).trans rfl
theorem c_190_69 : (zm_cd 190)[69]? = some ((154, .iload 8, 2, 8, 0, 0, 0, 0, []) : zm_E) := (ta190_1 9).trans rfl
theorem c_190_70 : (zm_cd 190)[70]? = some ((156, .if_icmp .ne 25, 3, 83, 0, 0, 0, 0, []) : zm_E) := (ta190_1 10).trans rfl
theorem c_190_71 : (zm_cd 190)[71]? = some ((159, .aload_n 0, 1, 0, 0, 0, 0, 0, []) : zm_E) := (ta190_1 11).trans rfl
theorem c_190_72 : (zm_cd 190)[72]? = some ((160, .iload 4, 2, 4, 0, 0, 0, 0, []) : zm_E) := (ta190_1 12).trans rfl
theorem c_190_73 : (zm_cd 190)[73]? = some ((162, .iload 5, 2, 5, 0, 0, 0, 0, []) : zm_E) := (ta190_1 13).trans rfl
theorem c_190_74 : (zm_cd 190)[74]? = some ((164, .invokevirtual 19, 3, 7, 2, 1, 0, 0, [7]) : zm_E) := (ta190_1 14).trans rfl
theorem c_190_75 : (zm_cd 190)[75]? = some ((167, .iload_n 2, 1, 2, 0, 0, 0, 0, []) : zm_E) := (ta190_1 15).trans rfl
theorem c_190_76 : (zm_cd 190)[76]? = some ((168, .bipush 6, 2, 0, 0, 0, 6, 0, []) : zm_E) := (ta190_1 16).trans rfl
theorem c_190_77 : (zm_cd 190)[77]? = some ((170, .ishr, 1, 0, 0, 0, 0, 0, []) : zm_E) := (ta190_1 17).trans rfl
theorem c_190_78 : (zm_cd 190)[78]? = some ((171, .bipush 10, 2, 0, 0, 0, 10, 0, []) : zm_E) := (ta190_1 18).trans rfl
theorem c_190_79 : (zm_cd 190)[79]? = some ((173, .irem, 1, 0, 0, 0, 0, 0, []) : zm_E) := (ta190_1 19).trans rfl
theorem c_190_80 : (zm_cd 190)[80]? = some ((174, .if_icmp .ne 7, 3, 83, 0, 0, 0, 0, []) : zm_E) := (ta190_1 20).trans rfl
theorem c_190_81 : (zm_cd 190)[81]? = some ((177, .iconst 1, 1, 0, 0, 0, 1, 0, []) : zm_E) := (ta190_1 21).trans rfl
theorem c_190_82 : (zm_cd 190)[82]? = some ((178, .goto 4, 3, 84, 0, 0, 0, 0, []) : zm_E) := (ta190_1 22).trans rfl
theorem c_190_83 : (zm_cd 190)[83]? = some ((181, .iconst 0, 1, 0, 0, 0, 0, 0, []) : zm_E) := (ta190_1 23).trans rfl
theorem c_190_84 : (zm_cd 190)[84]? = some ((182, .ireturn, 1, 1, 0, 0, 0, 0, []) : zm_E) := (ta190_1 24).trans rfl
theorem c_190_85 : (zm_cd 190)[85]? = some ((183, .aload_n 0, 1, 0, 0, 0, 0, 0, []) : zm_E) := (ta190_1 25).trans rfl
theorem c_190_86 : (zm_cd 190)[86]? = some ((184, .iconst 3, 1, 0, 0, 0, 3, 0, []) : zm_E) := (ta190_1 26).trans rfl
theorem c_190_87 : (zm_cd 190)[87]? = some ((185, .invokevirtual 9, 3, 5, 1, 1, 0, 0, [7]) : zm_E) := (ta190_1 27).trans rfl
theorem c_190_88 : (zm_cd 190)[88]? = some ((188, .istore 9, 2, 9, 0, 0, 0, 0, []) : zm_E) := (ta190_1 28).trans rfl
theorem c_190_89 : (zm_cd 190)[89]? = some ((190, .aload_n 0, 1, 0, 0, 0, 0, 0, []) : zm_E) := (ta190_1 29).trans rfl
theorem c_190_90 : (zm_cd 190)[90]? = some ((191, .iload 4, 2, 4, 0, 0, 0, 0, []) : zm_E) := (ta190_1 30).trans rfl
theorem c_190_91 : (zm_cd 190)[91]? = some ((193, .iload 5, 2, 5, 0, 0, 0, 0, []) : zm_E) := (ta190_1 31).trans rfl
theorem c_190_92 : (zm_cd 190)[92]? = some ((195, .invokevirtual 57, 3, 10, 2, 1, 0, 0, [7]) : zm_E) := (ta190_1 32).trans rfl
theorem c_190_93 : (zm_cd 190)[93]? = some ((198, .ifCond .ne 50, 3, 117, 0, 0, 0, 0, []) : zm_E) := (ta190_1 33).trans rfl
theorem c_190_94 : (zm_cd 190)[94]? = some ((201, .aload_n 0, 1, 0, 0, 0, 0, 0, []) : zm_E) := (ta190_1 34).trans rfl
theorem c_190_95 : (zm_cd 190)[95]? = some ((202, .iload 4, 2, 4, 0, 0, 0, 0, []) : zm_E) := (ta190_1 35).trans rfl
theorem c_190_96 : (zm_cd 190)[96]? = some ((204, .iload 7, 2, 7, 0, 0, 0, 0, []) : zm_E) := (ta190_1 36).trans rfl
theorem c_190_97 : (zm_cd 190)[97]? = some ((206, .invokevirtual 60, 3, 25, 2, 1, 0, 0, [7]) : zm_E) := (ta190_1 37).trans rfl
theorem c_190_98 : (zm_cd 190)[98]? = some ((209, .iconst 1, 1, 0, 0, 0, 1, 0, []) : zm_E) := (ta190_1 38).trans rfl
theorem c_190_99 : (zm_cd 190)[99]? = some ((210, .if_icmp .ne 42, 3, 119, 0, 0, 0, 0, []) : zm_E) := (ta190_1 39).trans rfl
theorem c_190_100 : (zm_cd 190)[100]? = some ((213, .aload_n 0, 1, 0, 0, 0, 0, 0, []) : zm_E) := (ta190_1 40).trans rfl
theorem c_190_101 : (zm_cd 190)[101]? = some ((214, .iload 4, 2, 4, 0, 0, 0, 0, []) : zm_E) := (ta190_1 41).trans rfl
theorem c_190_102 : (zm_cd 190)[102]? = some ((216, .iload 5, 2, 5, 0, 0, 0, 0, []) : zm_E) := (ta190_1 42).trans rfl
theorem c_190_103 : (zm_cd 190)[103]? = some ((218, .invokevirtual 63, 3, 13, 2, 1, 0, 0, [7]) : zm_E) := (ta190_1 43).trans rfl
theorem c_190_104 : (zm_cd 190)[104]? = some ((221, .iload 7, 2, 7, 0, 0, 0, 0, []) : zm_E) := (ta190_1 44).trans rfl
theorem c_190_105 : (zm_cd 190)[105]? = some ((223, .if_icmp .ne 29, 3, 119, 0, 0, 0, 0, []) : zm_E) := (ta190_1 45).trans rfl
theorem c_190_106 : (zm_cd 190)[106]? = some ((226, .aload_n 0, 1, 0, 0, 0, 0, 0, []) : zm_E) := (ta190_1 46).trans rfl
theorem c_190_107 : (zm_cd 190)[107]? = some ((227, .iload 5, 2, 5, 0, 0, 0, 0, []) : zm_E) := (ta190_1 47).trans rfl
theorem c_190_108 : (zm_cd 190)[108]? = some ((229, .iconst 0, 1, 0, 0, 0, 0, 0, []) : zm_E) := (ta190_1 48).trans rfl
theorem c_190_109 : (zm_cd 190)[109]? = some ((230, .invokevirtual 15, 3, 6, 2, 1, 0, 0, [7]) : zm_E) := (ta190_1 49).trans rfl
theorem c_190_110 : (zm_cd 190)[110]? = some ((233, .iload 6, 2, 6, 0, 0, 0, 0, []) : zm_E) := (ta190_1 50).trans rfl
theorem c_190_111 : (zm_cd 190)[111]? = some ((235, .if_icmp .ne 17, 3, 119, 0, 0, 0, 0, []) : zm_E) := (ta190_1 51).trans rfl
theorem c_190_112 : (zm_cd 190)[112]? = some ((238, .aload_n 0, 1, 0, 0, 0, 0, 0, []) : zm_E) := (ta190_1 52).trans rfl
theorem c_190_113 : (zm_cd 190)[113]? = some ((239, .iconst 3, 1, 0, 0, 0, 3, 0, []) : zm_E) := (ta190_1 53).trans rfl
theorem c_190_114 : (zm_cd 190)[114]? = some ((240, .invokevirtual 9, 3, 5, 1, 1, 0, 0, [7]) : zm_E) := (ta190_1 54).trans rfl
theorem c_190_115 : (zm_cd 190)[115]? = some ((243, .iload 9, 2, 9, 0, 0, 0, 0, []) : zm_E) := (ta190_1 55).trans rfl
theorem c_190_116 : (zm_cd 190)[116]? = some ((245, .if_icmp .ge 7, 3, 119, 0, 0, 0, 0, []) : zm_E) := (ta190_1 56).trans rfl
theorem c_190_117 : (zm_cd 190)[117]? = some ((248, .iconst 1, 1, 0, 0, 0, 1, 0, []) : zm_E) := (ta190_1 57).trans rfl
theorem c_190_118 : (zm_cd 190)[118]? = some ((249, .goto 4, 3, 120, 0, 0, 0, 0, []) : zm_E) := (ta190_1 58).trans rfl
theorem c_190_119 : (zm_cd 190)[119]? = some ((252, .iconst 0, 1, 0, 0, 0, 0, 0, []) : zm_E) := (ta190_1 59).trans rfl
theorem ta190_2 : ∀ j : Nat, (zm_cd 190)[120 + j]? = (zd_190_2 ++ (zd_190_3 ++ zd_190_4))[j]? := fun j => by rw [show 120 + j = 60 + (60 + j) by omega]; exact (ta190_1 (60 + j)).trans (zq_r zd_190_1 _ j)
theorem c_190_120 : (zm_cd 190)[120]? = some ((253, .ireturn, 1, 1, 0, 0, 0, 0, []) : zm_E) := (ta190_2 0).trans rfl
theorem c_190_121 : (zm_cd 190)[121]? = some ((254, .aload_n 0, 1, 0, 0, 0, 0, 0, []) : zm_E) := (ta190_2 1).trans rfl
theorem c_190_122 : (zm_cd 190)[122]? = some ((255, .iconst 4, 1, 0, 0, 0, 4, 0, []) : zm_E) := (ta190_2 2).trans rfl
theorem c_190_123 : (zm_cd 190)[123]? = some ((256, .invokevirtual 9, 3, 5, 1, 1, 0, 0, [7]) : zm_E) := (ta190_2 3).trans rfl
theorem c_190_124 : (zm_cd 190)[124]? = some ((259, .ifCond .ne 7, 3, 127, 0, 0, 0, 0, []) : zm_E) := (ta190_2 4).trans rfl
theorem c_190_125 : (zm_cd 190)[125]? = some ((262, .iconst (-1), 1, 0, 0, 0, (-1), 0, []) : zm_E) := (ta190_2 5).trans rfl
theorem c_190_126 : (zm_cd 190)[126]? = some ((263, .goto 13, 3, 134, 0, 0, 0, 0, []) : zm_E) := (ta190_2 6).trans rfl
theorem c_190_127 : (zm_cd 190)[127]? = some ((266, .iload_n 2, 1, 2, 0, 0, 0, 0, []) : zm_E) := (ta190_2 7).trans rfl
theorem c_190_128 : (zm_cd 190)[128]? = some ((267, .bipush 6, 2, 0, 0, 0, 6, 0, []) : zm_E) := (ta190_2 8).trans rfl
theorem c_190_129 : (zm_cd 190)[129]? = some ((269, .ishr, 1, 0, 0, 0, 0, 0, []) : zm_E) := (ta190_2 9).trans rfl
theorem c_190_130 : (zm_cd 190)[130]? = some ((270, .aload_n 0, 1, 0, 0, 0, 0, 0, []) : zm_E) := (ta190_2 10).trans rfl
theorem c_190_131 : (zm_cd 190)[131]? = some ((271, .iconst 4, 1, 0, 0, 0, 4, 0, []) : zm_E) := (ta190_2 11).trans rfl
theorem c_190_132 : (zm_cd 190)[132]? = some ((272, .invokevirtual 9, 3, 5, 1, 1, 0, 0, [7]) : zm_E) := (ta190_2 12).trans rfl
theorem c_190_133 : (zm_cd 190)[133]? = some ((275, .irem, 1, 0, 0, 0, 0, 0, []) : zm_E) := (ta190_2 13).trans rfl
theorem c_190_134 : (zm_cd 190)[134]? = some ((276, .istore 10, 2, 10, 0, 0, 0, 0, []) : zm_E) := (ta190_2 14).trans rfl
theorem c_190_135 : (zm_cd 190)[135]? = some ((278, .iload 10, 2, 10, 0, 0, 0, 0, []) : zm_E) := (ta190_2 15).trans rfl
theorem c_190_136 : (zm_cd 190)[136]? = some ((280, .ifCond .ge 7, 3, 139, 0, 0, 0, 0, []) : zm_E) := (ta190_2 16).trans rfl
theorem c_190_137 : (zm_cd 190)[137]? = some ((283, .iconst 0, 1, 0, 0, 0, 0, 0, []) : zm_E) := (ta190_2 17).trans rfl
theorem c_190_138 : (zm_cd 190)[138]? = some ((284, .goto 10, 3, 143, 0, 0, 0, 0, []) : zm_E) := (ta190_2 18).trans rfl
theorem c_190_139 : (zm_cd 190)[139]? = some ((287, .aload_n 0, 1, 0, 0, 0, 0, 0, []) : zm_E) := (ta190_2 19).trans rfl
theorem c_190_140 : (zm_cd 190)[140]? = some ((288, .iload 10, 2, 10, 0, 0, 0, 0, []) : zm_E) := (ta190_2 20).trans rfl
theorem c_190_141 : (zm_cd 190)[141]? = some ((290, .iconst 1, 1, 0, 0, 0, 1, 0, []) : zm_E) := (ta190_2 21).trans rfl
theorem c_190_142 : (zm_cd 190)[142]? = some ((291, .invokevirtual 30, 3, 9, 2, 1, 0, 0, [7]) : zm_E) := (ta190_2 22).trans rfl
theorem c_190_143 : (zm_cd 190)[143]? = some ((294, .istore 11, 2, 11, 0, 0, 0, 0, []) : zm_E) := (ta190_2 23).trans rfl
theorem c_190_144 : (zm_cd 190)[144]? = some ((296, .iload 10, 2, 10, 0, 0, 0, 0, []) : zm_E) := (ta190_2 24).trans rfl
theorem c_190_145 : (zm_cd 190)[145]? = some ((298, .ifCond .lt 24, 3, 156, 0, 0, 0, 0, []) : zm_E) := (ta190_2 25).trans rfl
theorem c_190_146 : (zm_cd 190)[146]? = some ((301, .aload_n 0, 1, 0, 0, 0, 0, 0, []) : zm_E) := (ta190_2 26).trans rfl
theorem c_190_147 : (zm_cd 190)[147]? = some ((302, .iload 10, 2, 10, 0, 0, 0, 0, []) : zm_E) := (ta190_2 27).trans rfl
theorem c_190_148 : (zm_cd 190)[148]? = some ((304, .invokevirtual 66, 3, 14, 1, 1, 0, 0, [7]) : zm_E) := (ta190_2 28).trans rfl
theorem c_190_149 : (zm_cd 190)[149]? = some ((307, .iload 11, 2, 11, 0, 0, 0, 0, []) : zm_E) := (ta190_2 29).trans rfl
theorem c_190_150 : (zm_cd 190)[150]? = some ((309, .iconst 1, 1, 0, 0, 0, 1, 0, []) : zm_E) := (ta190_2 30).trans rfl
theorem c_190_151 : (zm_cd 190)[151]? = some ((310, .if_icmp .ne 7, 3, 154, 0, 0, 0, 0, []) : zm_E) := (ta190_2 31).trans rfl
theorem c_190_152 : (zm_cd 190)[152]? = some ((313, .iconst 0, 1, 0, 0, 0, 0, 0, []) : zm_E) := (ta190_2 32).trans rfl
theorem c_190_153 : (zm_cd 190)[153]? = some ((314, .goto 5, 3, 155, 0, 0, 0, 0, []) : zm_E) := (ta190_2 33).trans rfl
theorem c_190_154 : (zm_cd 190)[154]? = some ((317, .iload 11, 2, 11, 0, 0, 0, 0, []) : zm_E) := (ta190_2 34).trans rfl
theorem c_190_155 : (zm_cd 190)[155]? = some ((319, .if_icmp .ne 7, 3, 158, 0, 0, 0, 0, []) : zm_E) := (ta190_2 35).trans rfl
theorem c_190_156 : (zm_cd 190)[156]? = some ((322, .iconst 1, 1, 0, 0, 0, 1, 0, []) : zm_E) := (ta190_2 36).trans rfl
theorem c_190_157 : (zm_cd 190)[157]? = some ((323, .goto 4, 3, 159, 0, 0, 0, 0, []) : zm_E) := (ta190_2 37).trans rfl
theorem c_190_158 : (zm_cd 190)[158]? = some ((326, .iconst 0, 1, 0, 0, 0, 0, 0, []) : zm_E) := (ta190_2 38).trans rfl
theorem c_190_159 : (zm_cd 190)[159]? = some ((327, .ireturn, 1, 1, 0, 0, 0, 0, []) : zm_E) := (ta190_2 39).trans rfl
theorem c_190_160 : (zm_cd 190)[160]? = some ((328, .aload_n 0, 1, 0, 0, 0, 0, 0, []) : zm_E) := (ta190_2 40).trans rfl
theorem c_190_161 : (zm_cd 190)[161]? = some ((329, .iload 4, 2, 4, 0, 0, 0, 0, []) : zm_E) := (ta190_2 41).trans rfl
theorem c_190_162 : (zm_cd 190)[162]? = some ((331, .iconst 3, 1, 0, 0, 0, 3, 0, []) : zm_E) := (ta190_2 42).trans rfl
theorem c_190_163 : (zm_cd 190)[163]? = some ((332, .invokevirtual 15, 3, 6, 2, 1, 0, 0, [7]) : zm_E) := (ta190_2 43).trans rfl
theorem c_190_164 : (zm_cd 190)[164]? = some ((335, .istore 12, 2, 12, 0, 0, 0, 0, []) : zm_E) := (ta190_2 44).trans rfl
theorem c_190_165 : (zm_cd 190)[165]? = some ((337, .aload_n 0, 1, 0, 0, 0, 0, 0, []) : zm_E) := (ta190_2 45).trans rfl
theorem c_190_166 : (zm_cd 190)[166]? = some ((338, .bipush 6, 2, 0, 0, 0, 6, 0, []) : zm_E) := (ta190_2 46).trans rfl
theorem c_190_167 : (zm_cd 190)[167]? = some ((340, .invokevirtual 9, 3, 5, 1, 1, 0, 0, [7]) : zm_E) := (ta190_2 47).trans rfl
theorem c_190_168 : (zm_cd 190)[168]? = some ((343, .istore 13, 2, 13, 0, 0, 0, 0, []) : zm_E) := (ta190_2 48).trans rfl
theorem c_190_169 : (zm_cd 190)[169]? = some ((345, .aload_n 0, 1, 0, 0, 0, 0, 0, []) : zm_E) := (ta190_2 49).trans rfl
theorem c_190_170 : (zm_cd 190)[170]? = some ((346, .iload 4, 2, 4, 0, 0, 0, 0, []) : zm_E) := (ta190_2 50).trans rfl
theorem c_190_171 : (zm_cd 190)[171]? = some ((348, .iconst 2, 1, 0, 0, 0, 2, 0, []) : zm_E) := (ta190_2 51).trans rfl
theorem c_190_172 : (zm_cd 190)[172]? = some ((349, .invokevirtual 15, 3, 6, 2, 1, 0, 0, [7]) : zm_E) := (ta190_2 52).trans rfl
theorem c_190_173 : (zm_cd 190)[173]? = some ((352, .iconst 1, 1, 0, 0, 0, 1, 0, []) : zm_E) := (ta190_2 53).trans rfl
theorem c_190_174 : (zm_cd 190)[174]? = some ((353, .if_icmp .ne 7, 3, 177, 0, 0, 0, 0, []) : zm_E) := (ta190_2 54).trans rfl
theorem c_190_175 : (zm_cd 190)[175]? = some ((356, .iconst 1, 1, 0, 0, 0, 1, 0, []) : zm_E) := (ta190_2 55).trans rfl
theorem c_190_176 : (zm_cd 190)[176]? = some ((357, .goto 4, 3, 178, 0, 0, 0, 0, []) : zm_E) := (ta190_2 56).trans rfl
theorem c_190_177 : (zm_cd 190)[177]? = some ((360, .iconst 0, 1, 0, 0, 0, 0, 0, []) : zm_E) := (ta190_2 57).trans rfl
theorem c_190_178 : (zm_cd 190)[178]? = some ((361, .istore 14, 2, 14, 0, 0, 0, 0, []) : zm_E) := (ta190_2 58).trans rfl
theorem c_190_179 : (zm_cd 190)[179]? = some ((363, .iload_n 2, 1, 2, 0, 0, 0, 0, []) : zm_E) := (ta190_2 59).trans rfl
theorem ta190_3 : ∀ j : Nat, (zm_cd 190)[180 + j]? = (zd_190_3 ++ zd_190_4)[j]? := fun j => by rw [show 180 + j = 120 + (60 + j) by omega]; exact (ta190_2 (60 + j)).trans (zq_r zd_190_2 _ j)
theorem c_190_180 : (zm_cd 190)[180]? = some ((364, .bipush 6, 2, 0, 0, 0, 6, 0, []) : zm_E) := (ta190_3 0).trans rfl
theorem c_190_181 : (zm_cd 190)[181]? = some ((366, .ishr, 1, 0, 0, 0, 0, 0, []) : zm_E) := (ta190_3 1).trans rfl
theorem c_190_182 : (zm_cd 190)[182]? = some ((367, .iconst 1, 1, 0, 0, 0, 1, 0, []) : zm_E) := (ta190_3 2).trans rfl
theorem c_190_183 : (zm_cd 190)[183]? = some ((368, .iand, 1, 0, 0, 0, 0, 0, []) : zm_E) := (ta190_3 3).trans rfl
theorem c_190_184 : (zm_cd 190)[184]? = some ((369, .iconst 1, 1, 0, 0, 0, 1, 0, []) : zm_E) := (ta190_3 4).trans rfl
theorem c_190_185 : (zm_cd 190)[185]? = some ((370, .if_icmp .eq 43, 3, 204, 0, 0, 0, 0, []) : zm_E) := (ta190_3 5).trans rfl
theorem c_190_186 : (zm_cd 190)[186]? = some ((373, .aload_n 0, 1, 0, 0, 0, 0, 0, []) : zm_E) := (ta190_3 6).trans rfl
theorem c_190_187 : (zm_cd 190)[187]? = some ((374, .invokevirtual 69, 3, 15, 0, 1, 0, 0, [7]) : zm_E) := (ta190_3 7).trans rfl
theorem c_190_188 : (zm_cd 190)[188]? = some ((377, .iload 13, 2, 13, 0, 0, 0, 0, []) : zm_E) := (ta190_3 8).trans rfl
theorem c_190_189 : (zm_cd 190)[189]? = some ((379, .if_icmp .ne 38, 3, 206, 0, 0, 0, 0, []) : zm_E) := (ta190_3 9).trans rfl
theorem c_190_190 : (zm_cd 190)[190]? = some ((382, .aload_n 0, 1, 0, 0, 0, 0, 0, []) : zm_E) := (ta190_3 10).trans rfl
theorem c_190_191 : (zm_cd 190)[191]? = some ((383, .iload 4, 2, 4, 0, 0, 0, 0, []) : zm_E) := (ta190_3 11).trans rfl
theorem c_190_192 : (zm_cd 190)[192]? = some ((385, .iconst 0, 1, 0, 0, 0, 0, 0, []) : zm_E) := (ta190_3 12).trans rfl
theorem c_190_193 : (zm_cd 190)[193]? = some ((386, .invokevirtual 15, 3, 6, 2, 1, 0, 0, [7]) : zm_E) := (ta190_3 13).trans rfl
theorem c_190_194 : (zm_cd 190)[194]? = some ((389, .iload 14, 2, 14, 0, 0, 0, 0, []) : zm_E) := (ta190_3 14).trans rfl
theorem c_190_195 : (zm_cd 190)[195]? = some ((391, .ifCond .eq 8, 3, 198, 0, 0, 0, 0, []) : zm_E) := (ta190_3 15).trans rfl
theorem c_190_196 : (zm_cd 190)[196]? = some ((394, .iload 12, 2, 12, 0, 0, 0, 0, []) : zm_E) := (ta190_3 16).trans rfl
theorem c_190_197 : (zm_cd 190)[197]? = some ((396, .goto 5, 3, 199, 0, 0, 0, 0, []) : zm_E) := (ta190_3 17).trans rfl
theorem c_190_198 : (zm_cd 190)[198]? = some ((399, .iload 6, 2, 6, 0, 0, 0, 0, []) : zm_E) := (ta190_3 18).trans rfl
theorem c_190_199 : (zm_cd 190)[199]? = some ((401, .if_icmp .ne 16, 3, 206, 0, 0, 0, 0, []) : zm_E) := (ta190_3 19).trans rfl
theorem c_190_200 : (zm_cd 190)[200]? = some ((404, .aload_n 0, 1, 0, 0, 0, 0, 0, []) : zm_E) := (ta190_3 20).trans rfl
theorem c_190_201 : (zm_cd 190)[201]? = some ((405, .bipush 6, 2, 0, 0, 0, 6, 0, []) : zm_E) := (ta190_3 21).trans rfl
theorem c_190_202 : (zm_cd 190)[202]? = some ((407, .invokevirtual 9, 3, 5, 1, 1, 0, 0, [7]) : zm_E) := (ta190_3 22).trans rfl
theorem c_190_203 : (zm_cd 190)[203]? = some ((410, .ifCond .ne 7, 3, 206, 0, 0, 0, 0, []) : zm_E) := (ta190_3 23).trans rfl
theorem c_190_204 : (zm_cd 190)[204]? = some ((413, .iconst 1, 1, 0, 0, 0, 1, 0, []) : zm_E) := (ta190_3 24).trans rfl
theorem c_190_205 : (zm_cd 190)[205]? = some ((414, .goto 4, 3, 207, 0, 0, 0, 0, []) : zm_E) := (ta190_3 25).trans rfl
theorem c_190_206 : (zm_cd 190)[206]? = some ((417, .iconst 0, 1, 0, 0, 0, 0, 0, []) : zm_E) := (ta190_3 26).trans rfl
theorem c_190_207 : (zm_cd 190)[207]? = some ((418, .ireturn, 1, 1, 0, 0, 0, 0, []) : zm_E) := (ta190_3 27).trans rfl
theorem c_190_208 : (zm_cd 190)[208]? = some ((419, .iload_n 2, 1, 2, 0, 0, 0, 0, []) : zm_E) := (ta190_3 28).trans rfl
theorem c_190_209 : (zm_cd 190)[209]? = some ((420, .bipush 6, 2, 0, 0, 0, 6, 0, []) : zm_E) := (ta190_3 29).trans rfl
theorem c_190_210 : (zm_cd 190)[210]? = some ((422, .ishr, 1, 0, 0, 0, 0, 0, []) : zm_E) := (ta190_3 30).trans rfl
theorem c_190_211 : (zm_cd 190)[211]? = some ((423, .iconst 3, 1, 0, 0, 0, 3, 0, []) : zm_E) := (ta190_3 31).trans rfl
theorem c_190_212 : (zm_cd 190)[212]? = some ((424, .iand, 1, 0, 0, 0, 0, 0, []) : zm_E) := (ta190_3 32).trans rfl
theorem c_190_213 : (zm_cd 190)[213]? = some ((425, .ifCond .le 55, 3, 242, 0, 0, 0, 0, []) : zm_E) := (ta190_3 33).trans rfl
theorem c_190_214 : (zm_cd 190)[214]? = some ((428, .iload_n 2, 1, 2, 0, 0, 0, 0, []) : zm_E) := (ta190_3 34).trans rfl
theorem c_190_215 : (zm_cd 190)[215]? = some ((429, .bipush 6, 2, 0, 0, 0, 6, 0, []) : zm_E) := (ta190_3 35).trans rfl
theorem c_190_216 : (zm_cd 190)[216]? = some ((431, .ishr, 1, 0, 0, 0, 0, 0, []) : zm_E) := (ta190_3 36).trans rfl
theorem c_190_217 : (zm_cd 190)[217]? = some ((432, .iconst 3, 1, 0, 0, 0, 3, 0, []) : zm_E) := (ta190_3 37).trans rfl
theorem c_190_218 : (zm_cd 190)[218]? = some ((433, .iand, 1, 0, 0, 0, 0, 0, []) : zm_E) := (ta190_3 38).trans rfl
theorem c_190_219 : (zm_cd 190)[219]? = some ((434, .iconst 1, 1, 0, 0, 0, 1, 0, []) : zm_E) := (ta190_3 39).trans rfl
theorem c_190_220 : (zm_cd 190)[220]? = some ((435, .if_icmp .gt 37, 3, 238, 0, 0, 0, 0, []) : zm_E) := (ta190_3 40).trans rfl
theorem c_190_221 : (zm_cd 190)[221]? = some ((438, .aload_n 0, 1, 0, 0, 0, 0, 0, []) : zm_E) := (ta190_3 41).trans rfl
theorem c_190_222 : (zm_cd 190)[222]? = some ((439, .iload 4, 2, 4, 0, 0, 0, 0, []) : zm_E) := (ta190_3 42).trans rfl
theorem c_190_223 : (zm_cd 190)[223]? = some ((441, .iconst 2, 1, 0, 0, 0, 2, 0, []) : zm_E) := (ta190_3 43).trans rfl
theorem c_190_224 : (zm_cd 190)[224]? = some ((442, .invokevirtual 15, 3, 6, 2, 1, 0, 0, [7]) : zm_E) := (ta190_3 44).trans rfl
theorem c_190_225 : (zm_cd 190)[225]? = some ((445, .ifCond .eq 27, 3, 238, 0, 0, 0, 0, []) : zm_E) := (ta190_3 45).trans rfl
theorem c_190_226 : (zm_cd 190)[226]? = some ((448, .aload_n 0, 1, 0, 0, 0, 0, 0, []) : zm_E) := (ta190_3 46).trans rfl
theorem c_190_227 : (zm_cd 190)[227]? = some ((449, .iload 4, 2, 4, 0, 0, 0, 0, []) : zm_E) := (ta190_3 47).trans rfl
theorem c_190_228 : (zm_cd 190)[228]? = some ((451, .invokevirtual 72, 3, 16, 1, 1, 0, 0, [7]) : zm_E) := (ta190_3 48).trans rfl
theorem c_190_229 : (zm_cd 190)[229]? = some ((454, .aload_n 0, 1, 0, 0, 0, 0, 0, []) : zm_E) := (ta190_3 49).trans rfl
theorem c_190_230 : (zm_cd 190)[230]? = some ((455, .iconst 1, 1, 0, 0, 0, 1, 0, []) : zm_E) := (ta190_3 50).trans rfl
theorem c_190_231 : (zm_cd 190)[231]? = some ((456, .invokevirtual 9, 3, 5, 1, 1, 0, 0, [7]) : zm_E) := (ta190_3 51).trans rfl
theorem c_190_232 : (zm_cd 190)[232]? = some ((459, .if_icmp .ne 17, 3, 240, 0, 0, 0, 0, []) : zm_E) := (ta190_3 52).trans rfl
theorem c_190_233 : (zm_cd 190)[233]? = some ((462, .aload_n 0, 1, 0, 0, 0, 0, 0, []) : zm_E) := (ta190_3 53).trans rfl
theorem c_190_234 : (zm_cd 190)[234]? = some ((463, .iload 4, 2, 4, 0, 0, 0, 0, []) : zm_E) := (ta190_3 54).trans rfl
theorem c_190_235 : (zm_cd 190)[235]? = some ((465, .iconst 2, 1, 0, 0, 0, 2, 0, []) : zm_E) := (ta190_3 55).trans rfl
theorem c_190_236 : (zm_cd 190)[236]? = some ((466, .invokevirtual 15, 3, 6, 2, 1, 0, 0, [7]) : zm_E) := (ta190_3 56).trans rfl
theorem c_190_237 : (zm_cd 190)[237]? = some ((469, .ifCond .ne 7, 3, 240, 0, 0, 0, 0, []) : zm_E) := (ta190_3 57).trans rfl
theorem c_190_238 : (zm_cd 190)[238]? = some ((472, .iconst 1, 1, 0, 0, 0, 1, 0, []) : zm_E) := (ta190_3 58).trans rfl
theorem c_190_239 : (zm_cd 190)[239]? = some ((473, .goto 37, 3, 258, 0, 0, 0, 0, []) : zm_E) := (ta190_3 59).trans rfl
theorem ta190_4 : ∀ j : Nat, (zm_cd 190)[240 + j]? = zd_190_4[j]? := fun j => by rw [show 240 + j = 180 + (60 + j) by omega]; exact (ta190_3 (60 + j)).trans (zq_r zd_190_3 _ j)
theorem c_190_240 : (zm_cd 190)[240]? = some ((476, .iconst 0, 1, 0, 0, 0, 0, 0, []) : zm_E) := (ta190_4 0).trans rfl
theorem c_190_241 : (zm_cd 190)[241]? = some ((477, .goto 33, 3, 258, 0, 0, 0, 0, []) : zm_E) := (ta190_4 1).trans rfl
theorem c_190_242 : (zm_cd 190)[242]? = some ((480, .aload_n 0, 1, 0, 0, 0, 0, 0, []) : zm_E) := (ta190_4 2).trans rfl
theorem c_190_243 : (zm_cd 190)[243]? = some ((481, .invokevirtual 75, 3, 17, 0, 1, 0, 0, [7]) : zm_E) := (ta190_4 3).trans rfl
theorem c_190_244 : (zm_cd 190)[244]? = some ((484, .ifCond .lt 25, 3, 257, 0, 0, 0, 0, []) : zm_E) := (ta190_4 4).trans rfl
theorem c_190_245 : (zm_cd 190)[245]? = some ((487, .aload_n 0, 1, 0, 0, 0, 0, 0, []) : zm_E) := (ta190_4 5).trans rfl
theorem c_190_246 : (zm_cd 190)[246]? = some ((488, .iconst 2, 1, 0, 0, 0, 2, 0, []) : zm_E) := (ta190_4 6).trans rfl
theorem c_190_247 : (zm_cd 190)[247]? = some ((489, .invokevirtual 9, 3, 5, 1, 1, 0, 0, [7]) : zm_E) := (ta190_4 7).trans rfl
theorem c_190_248 : (zm_cd 190)[248]? = some ((492, .iload_n 3, 1, 3, 0, 0, 0, 0, []) : zm_E) := (ta190_4 8).trans rfl
theorem c_190_249 : (zm_cd 190)[249]? = some ((493, .if_icmp .ne 16, 3, 257, 0, 0, 0, 0, []) : zm_E) := (ta190_4 9).trans rfl
theorem c_190_250 : (zm_cd 190)[250]? = some ((496, .aload_n 0, 1, 0, 0, 0, 0, 0, []) : zm_E) := (ta190_4 10).trans rfl
theorem c_190_251 : (zm_cd 190)[251]? = some ((497, .iconst 1, 1, 0, 0, 0, 1, 0, []) : zm_E) := (ta190_4 11).trans rfl
theorem c_190_252 : (zm_cd 190)[252]? = some ((498, .invokevirtual 9, 3, 5, 1, 1, 0, 0, [7]) : zm_E) := (ta190_4 12).trans rfl
theorem c_190_253 : (zm_cd 190)[253]? = some ((501, .iload_n 3, 1, 3, 0, 0, 0, 0, []) : zm_E) := (ta190_4 13).trans rfl
theorem c_190_254 : (zm_cd 190)[254]? = some ((502, .if_icmp .ne 7, 3, 257, 0, 0, 0, 0, []) : zm_E) := (ta190_4 14).trans rfl
theorem c_190_255 : (zm_cd 190)[255]? = some ((505, .iconst 1, 1, 0, 0, 0, 1, 0, []) : zm_E) := (ta190_4 15).trans rfl
theorem c_190_256 : (zm_cd 190)[256]? = some ((506, .goto 4, 3, 258, 0, 0, 0, 0, []) : zm_E) := (ta190_4 16).trans rfl
theorem c_190_257 : (zm_cd 190)[257]? = some ((509, .iconst 0, 1, 0, 0, 0, 0, 0, []) : zm_E) := (ta190_4 17).trans rfl
theorem c_190_258 : (zm_cd 190)[258]? = some ((510, .ireturn, 1, 1, 0, 0, 0, 0, []) : zm_E) := (ta190_4 18).trans rfl
theorem ml_206 : zm_ml 206 = 5 := rfl
theorem ht_206 : zm_ht 206 = [] := rfl
theorem ta206_0 : ∀ j : Nat, (zm_cd 206)[j]? = (zd_206_0 ++ (zd_206_1 ++ (zd_206_2 ++ (zd_206_3 ++ (zd_206_4 ++ (zd_206_5 ++ (zd_206_6 ++ zd_206_7)))))))[j]? := fun j => rfl
theorem c_206_0 : (zm_cd 206)[0]? = some ((0, .new 10, 3, 7, 0, 0, 0, 0, []) : zm_E) := (ta206_0 0).trans rfl
theorem c_206_1 : (zm_cd 206)[1]? = some ((3, .dup, 1, 0, 0, 0, 0, 0, []) : zm_E) := (ta206_0 1).trans rfl
theorem c_206_2 : (zm_cd 206)[2]? = some ((4, .invokespecial 78, 3, 0, 0, 0, 0, 0, []) : zm_E) := (ta206_0 2).trans rfl
theorem c_206_3 : (zm_cd 206)[3]? = some ((7, .astore_n 1, 1, 1, 0, 0, 0, 0, []) : zm_E) := (ta206_0 3).trans rfl
theorem c_206_4 : (zm_cd 206)[4]? = some ((8, .aload_n 1, 1, 1, 0, 0, 0, 0, []) : zm_E) := (ta206_0 4).trans rfl
theorem c_206_5 : (zm_cd 206)[5]? = some ((9, .invokevirtual 69, 3, 15, 0, 1, 0, 0, [7]) : zm_E) := (ta206_0 5).trans rfl
theorem c_206_6 : (zm_cd 206)[6]? = some ((12, .ifCond .ne 39, 3, 24, 0, 0, 0, 0, []) : zm_E) := (ta206_0 6).trans rfl
theorem c_206_7 : (zm_cd 206)[7]? = some ((15, .aload_n 1, 1, 1, 0, 0, 0, 0, []) : zm_E) := (ta206_0 7).trans rfl
theorem c_206_8 : (zm_cd 206)[8]? = some ((16, .iconst 4, 1, 0, 0, 0, 4, 0, []) : zm_E) := (ta206_0 8).trans rfl
theorem c_206_9 : (zm_cd 206)[9]? = some ((17, .invokevirtual 9, 3, 5, 1, 1, 0, 0, [7]) : zm_E) := (ta206_0 9).trans rfl
theorem c_206_10 : (zm_cd 206)[10]? = some ((20, .ifCond .ne 31, 3, 24, 0, 0, 0, 0, []) : zm_E) := (ta206_0 10).trans rfl
theorem c_206_11 : (zm_cd 206)[11]? = some ((23, .aload_n 1, 1, 1, 0, 0, 0, 0, []) : zm_E) := (ta206_0 11).trans rfl
theorem c_206_12 : (zm_cd 206)[12]? = some ((24, .iconst 0, 1, 0, 0, 0, 0, 0, []) : zm_E) := (ta206_0 12).trans rfl
theorem c_206_13 : (zm_cd 206)[13]? = some ((25, .invokevirtual 43, 3, 19, 1, 1, 0, 0, [7]) : zm_E) := (ta206_0 13).trans rfl
theorem c_206_14 : (zm_cd 206)[14]? = some ((28, .bipush (-9), 2, 0, 0, 0, (-9), 0, []) : zm_E) := (ta206_0 14).trans rfl
theorem c_206_15 : (zm_cd 206)[15]? = some ((30, .if_icmp .ne 21, 3, 24, 0, 0, 0, 0, []) : zm_E) := (ta206_0 15).trans rfl
theorem c_206_16 : (zm_cd 206)[16]? = some ((33, .aload_n 1, 1, 1, 0, 0, 0, 0, []) : zm_E) := (ta206_0 16).trans rfl
theorem c_206_17 : (zm_cd 206)[17]? = some ((34, .invokevirtual 39, 3, 21, 0, 1, 0, 0, [7]) : zm_E) := (ta206_0 17).trans rfl
theorem c_206_18 : (zm_cd 206)[18]? = some ((37, .ifCond .ne 14, 3, 24, 0, 0, 0, 0, []) : zm_E) := (ta206_0 18).trans rfl
theorem c_206_19 : (zm_cd 206)[19]? = some ((40, .aload_n 1, 1, 1, 0, 0, 0, 0, []) : zm_E) := (ta206_0 19).trans rfl
theorem c_206_20 : (zm_cd 206)[20]? = some ((41, .invokevirtual 79, 3, 23, 0, 1, 0, 0, [7]) : zm_E) := (ta206_0 20).trans rfl
theorem c_206_21 : (zm_cd 206)[21]? = some ((44, .ifCond .ne 7, 3, 24, 0, 0, 0, 0, []) : zm_E) := (ta206_0 21).trans rfl
theorem c_206_22 : (zm_cd 206)[22]? = some ((47, .iconst 1, 1, 0, 0, 0, 1, 0, []) : zm_E) := (ta206_0 22).trans rfl
theorem c_206_23 : (zm_cd 206)[23]? = some ((48, .goto 4, 3, 25, 0, 0, 0, 0, []) : zm_E) := (ta206_0 23).trans rfl
theorem c_206_24 : (zm_cd 206)[24]? = some ((51, .iconst 0, 1, 0, 0, 0, 0, 0, []) : zm_E) := (ta206_0 24).trans rfl
theorem c_206_25 : (zm_cd 206)[25]? = some ((52, .istore_n 2, 1, 2, 0, 0, 0, 0, []) : zm_E) := (ta206_0 25).trans rfl
theorem c_206_26 : (zm_cd 206)[26]? = some ((53, .iconst 0, 1, 0, 0, 0, 0, 0, []) : zm_E) := (ta206_0 26).trans rfl
theorem c_206_27 : (zm_cd 206)[27]? = some ((54, .istore_n 3, 1, 3, 0, 0, 0, 0, []) : zm_E) := (ta206_0 27).trans rfl
theorem c_206_28 : (zm_cd 206)[28]? = some ((55, .iload_n 3, 1, 3, 0, 0, 0, 0, []) : zm_E) := (ta206_0 28).trans rfl
theorem c_206_29 : (zm_cd 206)[29]? = some ((56, .iconst 2, 1, 0, 0, 0, 2, 0, []) : zm_E) := (ta206_0 29).trans rfl
theorem c_206_30 : (zm_cd 206)[30]? = some ((57, .aload_n 0, 1, 0, 0, 0, 0, 0, []) : zm_E) := (ta206_0 30).trans rfl
theorem c_206_31 : (zm_cd 206)[31]? = some ((58, .iconst 0, 1, 0, 0, 0, 0, 0, []) : zm_E) := (ta206_0 31).trans rfl
theorem c_206_32 : (zm_cd 206)[32]? = some ((59, .invokestatic 82, 3, 185, 2, 1, 0, 0, []) : zm_E) := (ta206_0 32).trans rfl
theorem c_206_33 : (zm_cd 206)[33]? = some ((62, .iconst 4, 1, 0, 0, 0, 4, 0, []) : zm_E) := (ta206_0 33).trans rfl
theorem c_206_34 : (zm_cd 206)[34]? = some ((63, .irem, 1, 0, 0, 0, 0, 0, []) : zm_E) := (ta206_0 34).trans rfl
theorem c_206_35 : (zm_cd 206)[35]? = some ((64, .iadd, 1, 0, 0, 0, 0, 0, []) : zm_E) := (ta206_0 35).trans rfl
theorem c_206_36 : (zm_cd 206)[36]? = some ((65, .if_icmp .ge 27, 3, 49, 0, 0, 0, 0, []) : zm_E) := (ta206_0 36).trans rfl
theorem c_206_37 : (zm_cd 206)[37]? = some ((68, .iload_n 2, 1, 2, 0, 0, 0, 0, []) : zm_E) := (ta206_0 37).trans rfl
theorem c_206_38 : (zm_cd 206)[38]? = some ((69, .ifCond .eq 23, 3, 49, 0, 0, 0, 0, []) : zm_E) := (ta206_0 38).trans rfl
theorem c_206_39 : (zm_cd 206)[39]? = some ((72, .aload_n 1, 1, 1, 0, 0, 0, 0, []) : zm_E) := (ta206_0 39).trans rfl
theorem c_206_40 : (zm_cd 206)[40]? = some ((73, .invokevirtual 50, 3, 11, 0, 1, 0, 0, [7]) : zm_E) := (ta206_0 40).trans rfl
theorem c_206_41 : (zm_cd 206)[41]? = some ((76, .iload_n 3, 1, 3, 0, 0, 0, 0, []) : zm_E) := (ta206_0 41).trans rfl
theorem c_206_42 : (zm_cd 206)[42]? = some ((77, .if_icmp .ne 7, 3, 45, 0, 0, 0, 0, []) : zm_E) := (ta206_0 42).trans rfl
theorem c_206_43 : (zm_cd 206)[43]? = some ((80, .iconst 1, 1, 0, 0, 0, 1, 0, []) : zm_E) := (ta206_0 43).trans rfl
theorem c_206_44 : (zm_cd 206)[44]? = some ((81, .goto 4, 3, 46, 0, 0, 0, 0, []) : zm_E) := (ta206_0 44).trans rfl
theorem c_206_45 : (zm_cd 206)[45]? = some ((84, .iconst 0, 1, 0, 0, 0, 0, 0, []) : zm_E) := (ta206_0 45).trans rfl
theorem c_206_46 : (zm_cd 206)[46]? = some ((85, .istore_n 2, 1, 2, 0, 0, 0, 0, []) : zm_E) := (ta206_0 46).trans rfl
theorem c_206_47 : (zm_cd 206)[47]? = some ((86, .iinc 3 1, 3, 3, 0, 0, 1, 0, []) : zm_E) := (ta206_0 47).trans rfl
theorem c_206_48 : (zm_cd 206)[48]? = some ((89, .goto (-34), 3, 28, 0, 0, 0, 0, []) : zm_E) := (ta206_0 48).trans rfl
theorem c_206_49 : (zm_cd 206)[49]? = some ((92, .iconst 0, 1, 0, 0, 0, 0, 0, []) : zm_E) := (ta206_0 49).trans rfl
theorem ta206_1 : ∀ j : Nat, (zm_cd 206)[50 + j]? = (zd_206_1 ++ (zd_206_2 ++ (zd_206_3 ++ (zd_206_4 ++ (zd_206_5 ++ (zd_206_6 ++ zd_206_7))))))[j]? := fun j => (ta206_0 (50 + j)).trans (zq_r zd_206_0 _ j)
theorem c_206_50 : (zm_cd 206)[50]? = some ((93, .istore_n 3, 1, 3, 0, 0, 0, 0, []) : zm_E) := (ta206_1 0).trans rfl
theorem c_206_51 : (zm_cd 206)[51]? = some ((94, .iload_n 3, 1, 3, 0, 0, 0, 0, []) : zm_E) := (ta206_1 1).trans rfl
theorem c_206_52 : (zm_cd 206)[52]? = some ((95, .bipush 16, 2, 0, 0, 0, 16, 0, []) : zm_E) := (ta206_1 2).trans rfl
theorem c_206_53 : (zm_cd 206)[53]? = some ((97, .if_icmp .ge 61, 3, 88, 0, 0, 0, 0, []) : zm_E) := (ta206_1 3).trans rfl
theorem c_206_54 : (zm_cd 206)[54]? = some ((100, .iload_n 2, 1, 2, 0, 0, 0, 0, []) : zm_E) := (ta206_1 4).trans rfl
theorem c_206_55 : (zm_cd 206)[55]? = some ((101, .ifCond .eq 57, 3, 88, 0, 0, 0, 0, []) : zm_E) := (ta206_1 5).trans rfl
theorem c_206_56 : (zm_cd 206)[56]? = some ((104, .aload_n 0, 1, 0, 0, 0, 0, 0, []) : zm_E) := (ta206_1 6).trans rfl
theorem c_206_57 : (zm_cd 206)[57]? = some ((105, .iconst 1, 1, 0, 0, 0, 1, 0, []) : zm_E) := (ta206_1 7).trans rfl
theorem c_206_58 : (zm_cd 206)[58]? = some ((106, .iload_n 3, 1, 3, 0, 0, 0, 0, []) : zm_E) := (ta206_1 8).trans rfl
theorem c_206_59 : (zm_cd 206)[59]? = some ((107, .iadd, 1, 0, 0, 0, 0, 0, []) : zm_E) := (ta206_1 9).trans rfl
theorem c_206_60 : (zm_cd 206)[60]? = some ((108, .invokestatic 82, 3, 185, 2, 1, 0, 0, []) : zm_E) := (ta206_1 10).trans rfl
theorem c_206_61 : (zm_cd 206)[61]? = some ((111, .istore 4, 2, 4, 0, 0, 0, 0, []) : zm_E) := (ta206_1 11).trans rfl
theorem c_206_62 : (zm_cd 206)[62]? = some ((113, .aload_n 1, 1, 1, 0, 0, 0, 0, []) : zm_E) := (ta206_1 12).trans rfl
theorem c_206_63 : (zm_cd 206)[63]? = some ((114, .iload 4, 2, 4, 0, 0, 0, 0, []) : zm_E) := (ta206_1 13).trans rfl
theorem c_206_64 : (zm_cd 206)[64]? = some ((116, .aload_n 1, 1, 1, 0, 0, 0, 0, []) : zm_E) := (ta206_1 14).trans rfl
theorem c_206_65 : (zm_cd 206)[65]? = some ((117, .iconst 0, 1, 0, 0, 0, 0, 0, []) : zm_E) := (ta206_1 15).trans rfl
theorem c_206_66 : (zm_cd 206)[66]? = some ((118, .invokevirtual 9, 3, 5, 1, 1, 0, 0, [7]) : zm_E) := (ta206_1 16).trans rfl
theorem c_206_67 : (zm_cd 206)[67]? = some ((121, .irem, 1, 0, 0, 0, 0, 0, []) : zm_E) := (ta206_1 17).trans rfl
theorem c_206_68 : (zm_cd 206)[68]? = some ((122, .iload 4, 2, 4, 0, 0, 0, 0, []) : zm_E) := (ta206_1 18).trans rfl
theorem c_206_69 : (zm_cd 206)[69]? = some ((124, .iconst 4, 1, 0, 0, 0, 4, 0, []) : zm_E) := (ta206_1 19).trans rfl
theorem c_206_70 : (zm_cd 206)[70]? = some ((125, .ishr, 1, 0, 0, 0, 0, 0, []) : zm_E) := (ta206_1 20).trans rfl
theorem c_206_71 : (zm_cd 206)[71]? = some ((126, .aload_n 1, 1, 1, 0, 0, 0, 0, []) : zm_E) := (ta206_1 21).trans rfl
theorem c_206_72 : (zm_cd 206)[72]? = some ((127, .iconst 0, 1, 0, 0, 0, 0, 0, []) : zm_E) := (ta206_1 22).trans rfl
theorem c_206_73 : (zm_cd 206)[73]? = some ((128, .invokevirtual 9, 3, 5, 1, 1, 0, 0, [7]) : zm_E) := (ta206_1 23).trans rfl
theorem c_206_74 : (zm_cd 206)[74]? = some ((131, .irem, 1, 0, 0, 0, 0, 0, []) : zm_E) := (ta206_1 24).trans rfl
theorem c_206_75 : (zm_cd 206)[75]? = some ((132, .iload 4, 2, 4, 0, 0, 0, 0, []) : zm_E) := (ta206_1 25).trans rfl
theorem c_206_76 : (zm_cd 206)[76]? = some ((134, .bipush 8, 2, 0, 0, 0, 8, 0, []) : zm_E) := (ta206_1 26).trans rfl
theorem c_206_77 : (zm_cd 206)[77]? = some ((136, .ishr, 1, 0, 0, 0, 0, 0, []) : zm_E) := (ta206_1 27).trans rfl
theorem c_206_78 : (zm_cd 206)[78]? = some ((137, .bipush 10, 2, 0, 0, 0, 10, 0, []) : zm_E) := (ta206_1 28).trans rfl
theorem c_206_79 : (zm_cd 206)[79]? = some ((139, .irem, 1, 0, 0, 0, 0, 0, []) : zm_E) := (ta206_1 29).trans rfl
theorem c_206_80 : (zm_cd 206)[80]? = some ((140, .invokevirtual 53, 3, 12, 3, 1, 0, 0, [7]) : zm_E) := (ta206_1 30).trans rfl
theorem c_206_81 : (zm_cd 206)[81]? = some ((143, .ifCond .lt 7, 3, 84, 0, 0, 0, 0, []) : zm_E) := (ta206_1 31).trans rfl
theorem c_206_82 : (zm_cd 206)[82]? = some ((146, .iconst 1, 1, 0, 0, 0, 1, 0, []) : zm_E) := (ta206_1 32).trans rfl
theorem c_206_83 : (zm_cd 206)[83]? = some ((147, .goto 4, 3, 85, 0, 0, 0, 0, []) : zm_E) := (ta206_1 33).trans rfl
theorem c_206_84 : (zm_cd 206)[84]? = some ((150, .iconst 0, 1, 0, 0, 0, 0, 0, []) : zm_E) := (ta206_1 34).trans rfl
theorem c_206_85 : (zm_cd 206)[85]? = some ((151, .istore_n 2, 1, 2, 0, 0, 0, 0, []) : zm_E) := (ta206_1 35).trans rfl
theorem c_206_86 : (zm_cd 206)[86]? = some ((152, .iinc 3 1, 3, 3, 0, 0, 1, 0, []) : zm_E) := (ta206_1 36).trans rfl
theorem c_206_87 : (zm_cd 206)[87]? = some ((155, .goto (-61), 3, 51, 0, 0, 0, 0, []) : zm_E) := (ta206_1 37).trans rfl
theorem c_206_88 : (zm_cd 206)[88]? = some ((158, .iconst 0, 1, 0, 0, 0, 0, 0, []) : zm_E) := (ta206_1 38).trans rfl
theorem c_206_89 : (zm_cd 206)[89]? = some ((159, .istore_n 3, 1, 3, 0, 0, 0, 0, []) : zm_E) := (ta206_1 39).trans rfl
theorem c_206_90 : (zm_cd 206)[90]? = some ((160, .iload_n 3, 1, 3, 0, 0, 0, 0, []) : zm_E) := (ta206_1 40).trans rfl
theorem c_206_91 : (zm_cd 206)[91]? = some ((161, .bipush 24, 2, 0, 0, 0, 24, 0, []) : zm_E) := (ta206_1 41).trans rfl
theorem c_206_92 : (zm_cd 206)[92]? = some ((163, .if_icmp .ge 55, 3, 118, 0, 0, 0, 0, []) : zm_E) := (ta206_1 42).trans rfl
theorem c_206_93 : (zm_cd 206)[93]? = some ((166, .iload_n 2, 1, 2, 0, 0, 0, 0, []) : zm_E) := (ta206_1 43).trans rfl
theorem c_206_94 : (zm_cd 206)[94]? = some ((167, .ifCond .eq 51, 3, 118, 0, 0, 0, 0, []) : zm_E) := (ta206_1 44).trans rfl
theorem c_206_95 : (zm_cd 206)[95]? = some ((170, .aload_n 1, 1, 1, 0, 0, 0, 0, []) : zm_E) := (ta206_1 45).trans rfl
theorem c_206_96 : (zm_cd 206)[96]? = some ((171, .aload_n 0, 1, 0, 0, 0, 0, 0, []) : zm_E) := (ta206_1 46).trans rfl
theorem c_206_97 : (zm_cd 206)[97]? = some ((172, .bipush 17, 2, 0, 0, 0, 17, 0, []) : zm_E) := (ta206_1 47).trans rfl
theorem c_206_98 : (zm_cd 206)[98]? = some ((174, .iload_n 3, 1, 3, 0, 0, 0, 0, []) : zm_E) := (ta206_1 48).trans rfl
theorem c_206_99 : (zm_cd 206)[99]? = some ((175, .iadd, 1, 0, 0, 0, 0, 0, []) : zm_E) := (ta206_1 49).trans rfl
theorem ta206_2 : ∀ j : Nat, (zm_cd 206)[100 + j]? = (zd_206_2 ++ (zd_206_3 ++ (zd_206_4 ++ (zd_206_5 ++ (zd_206_6 ++ zd_206_7)))))[j]? := fun j => by rw [show 100 + j = 50 + (50 + j) by omega]; exact (ta206_1 (50 + j)).trans (zq_r zd_206_1 _ j)
theorem c_206_100 : (zm_cd 206)[100]? = some ((176, .invokestatic 82, 3, 185, 2, 1, 0, 0, []) : zm_E) := (ta206_2 0).trans rfl
theorem c_206_101 : (zm_cd 206)[101]? = some ((179, .invokestatic 86, 3, 190, 2, 1, 0, 0, []) : zm_E) := (ta206_2 1).trans rfl
theorem c_206_102 : (zm_cd 206)[102]? = some ((182, .ifCond .eq 28, 3, 114, 0, 0, 0, 0, []) : zm_E) := (ta206_2 2).trans rfl
theorem ta206_3 : ∀ j : Nat, (zm_cd 206)[103 + j]? = (zd_206_3 ++ (zd_206_4 ++ (zd_206_5 ++ (zd_206_6 ++ zd_206_7))))[j]? := fun j => by rw [show 103 + j = 100 + (3 + j) by omega]; exact (ta206_2 (3 + j)).trans (zq_r zd_206_2 _ j)
theorem c_206_103 : (zm_cd 206)[103]? = some ((185, .aload_n 1, 1, 1, 0, 0, 0, 0, []) : zm_E) := (ta206_3 0).trans rfl
theorem c_206_104 : (zm_cd 206)[104]? = some ((186, .invokestatic 90, 3, 187, 1, 1, 0, 0, []) : zm_E) := (ta206_3 1).trans rfl
theorem c_206_105 : (zm_cd 206)[105]? = some ((189, .ifCond .eq 21, 3, 114, 0, 0, 0, 0, []) : zm_E) := (ta206_3 2).trans rfl
theorem ta206_4 : ∀ j : Nat, (zm_cd 206)[106 + j]? = (zd_206_4 ++ (zd_206_5 ++ (zd_206_6 ++ zd_206_7)))[j]? := fun j => by rw [show 106 + j = 103 + (3 + j) by omega]; exact (ta206_3 (3 + j)).trans (zq_r zd_206_3 _ j)
theorem c_206_106 : (zm_cd 206)[106]? = some ((192, .aload_n 1, 1, 1, 0, 0, 0, 0, []) : zm_E) := (ta206_4 0).trans rfl
theorem c_206_107 : (zm_cd 206)[107]? = some ((193, .invokestatic 94, 3, 188, 1, 1, 0, 0, []) : zm_E) := (ta206_4 1).trans rfl
theorem c_206_108 : (zm_cd 206)[108]? = some ((196, .ifCond .eq 14, 3, 114, 0, 0, 0, 0, []) : zm_E) := (ta206_4 2).trans rfl
theorem ta206_5 : ∀ j : Nat, (zm_cd 206)[109 + j]? = (zd_206_5 ++ (zd_206_6 ++ zd_206_7))[j]? := fun j => by rw [show 109 + j = 106 + (3 + j) by omega]; exact (ta206_4 (3 + j)).trans (zq_r zd_206_4 _ j)
theorem c_206_109 : (zm_cd 206)[109]? = some ((199, .aload_n 1, 1, 1, 0, 0, 0, 0, []) : zm_E) := (ta206_5 0).trans rfl
theorem c_206_110 : (zm_cd 206)[110]? = some ((200, .invokestatic 97, 3, 189, 1, 1, 0, 0, []) : zm_E) := (ta206_5 1).trans rfl
theorem c_206_111 : (zm_cd 206)[111]? = some ((203, .ifCond .eq 7, 3, 114, 0, 0, 0, 0, []) : zm_E) := (ta206_5 2).trans rfl
theorem c_206_112 : (zm_cd 206)[112]? = some ((206, .iconst 1, 1, 0, 0, 0, 1, 0, []) : zm_E) := (ta206_5 3).trans rfl
theorem c_206_113 : (zm_cd 206)[113]? = some ((207, .goto 4, 3, 115, 0, 0, 0, 0, []) : zm_E) := (ta206_5 4).trans rfl
theorem c_206_114 : (zm_cd 206)[114]? = some ((210, .iconst 0, 1, 0, 0, 0, 0, 0, []) : zm_E) := (ta206_5 5).trans rfl
theorem c_206_115 : (zm_cd 206)[115]? = some ((211, .istore_n 2, 1, 2, 0, 0, 0, 0, []) : zm_E) := (ta206_5 6).trans rfl
theorem c_206_116 : (zm_cd 206)[116]? = some ((212, .iinc 3 1, 3, 3, 0, 0, 1, 0, []) : zm_E) := (ta206_5 7).trans rfl
theorem c_206_117 : (zm_cd 206)[117]? = some ((215, .goto (-55), 3, 90, 0, 0, 0, 0, []) : zm_E) := (ta206_5 8).trans rfl
theorem c_206_118 : (zm_cd 206)[118]? = some ((218, .aload_n 1, 1, 1, 0, 0, 0, 0, []) : zm_E) := (ta206_5 9).trans rfl
theorem c_206_119 : (zm_cd 206)[119]? = some ((219, .iconst 0, 1, 0, 0, 0, 0, 0, []) : zm_E) := (ta206_5 10).trans rfl
theorem c_206_120 : (zm_cd 206)[120]? = some ((220, .invokevirtual 9, 3, 5, 1, 1, 0, 0, [7]) : zm_E) := (ta206_5 11).trans rfl
theorem c_206_121 : (zm_cd 206)[121]? = some ((223, .istore_n 3, 1, 3, 0, 0, 0, 0, []) : zm_E) := (ta206_5 12).trans rfl
theorem c_206_122 : (zm_cd 206)[122]? = some ((224, .aload_n 1, 1, 1, 0, 0, 0, 0, []) : zm_E) := (ta206_5 13).trans rfl
theorem c_206_123 : (zm_cd 206)[123]? = some ((225, .iconst 3, 1, 0, 0, 0, 3, 0, []) : zm_E) := (ta206_5 14).trans rfl
theorem c_206_124 : (zm_cd 206)[124]? = some ((226, .invokevirtual 9, 3, 5, 1, 1, 0, 0, [7]) : zm_E) := (ta206_5 15).trans rfl
theorem c_206_125 : (zm_cd 206)[125]? = some ((229, .istore 4, 2, 4, 0, 0, 0, 0, []) : zm_E) := (ta206_5 16).trans rfl
theorem c_206_126 : (zm_cd 206)[126]? = some ((231, .iload_n 2, 1, 2, 0, 0, 0, 0, []) : zm_E) := (ta206_5 17).trans rfl
theorem c_206_127 : (zm_cd 206)[127]? = some ((232, .ifCond .eq 56, 3, 154, 0, 0, 0, 0, []) : zm_E) := (ta206_5 18).trans rfl
theorem c_206_128 : (zm_cd 206)[128]? = some ((235, .aload_n 1, 1, 1, 0, 0, 0, 0, []) : zm_E) := (ta206_5 19).trans rfl
theorem c_206_129 : (zm_cd 206)[129]? = some ((236, .iconst 0, 1, 0, 0, 0, 0, 0, []) : zm_E) := (ta206_5 20).trans rfl
theorem c_206_130 : (zm_cd 206)[130]? = some ((237, .invokevirtual 99, 3, 28, 1, 1, 0, 0, [7]) : zm_E) := (ta206_5 21).trans rfl
theorem c_206_131 : (zm_cd 206)[131]? = some ((240, .iload_n 3, 1, 3, 0, 0, 0, 0, []) : zm_E) := (ta206_5 22).trans rfl
theorem c_206_132 : (zm_cd 206)[132]? = some ((241, .if_icmp .ne 47, 3, 154, 0, 0, 0, 0, []) : zm_E) := (ta206_5 23).trans rfl
theorem c_206_133 : (zm_cd 206)[133]? = some ((244, .aload_n 1, 1, 1, 0, 0, 0, 0, []) : zm_E) := (ta206_5 24).trans rfl
theorem c_206_134 : (zm_cd 206)[134]? = some ((245, .invokevirtual 75, 3, 17, 0, 1, 0, 0, [7]) : zm_E) := (ta206_5 25).trans rfl
theorem c_206_135 : (zm_cd 206)[135]? = some ((248, .ifCond .lt 40, 3, 154, 0, 0, 0, 0, []) : zm_E) := (ta206_5 26).trans rfl
theorem c_206_136 : (zm_cd 206)[136]? = some ((251, .aload_n 1, 1, 1, 0, 0, 0, 0, []) : zm_E) := (ta206_5 27).trans rfl
theorem c_206_137 : (zm_cd 206)[137]? = some ((252, .invokevirtual 102, 3, 18, 0, 1, 0, 0, [7]) : zm_E) := (ta206_5 28).trans rfl
theorem c_206_138 : (zm_cd 206)[138]? = some ((255, .ifCond .lt 33, 3, 154, 0, 0, 0, 0, []) : zm_E) := (ta206_5 29).trans rfl
theorem c_206_139 : (zm_cd 206)[139]? = some ((258, .aload_n 1, 1, 1, 0, 0, 0, 0, []) : zm_E) := (ta206_5 30).trans rfl
theorem c_206_140 : (zm_cd 206)[140]? = some ((259, .iconst 3, 1, 0, 0, 0, 3, 0, []) : zm_E) := (ta206_5 31).trans rfl
theorem c_206_141 : (zm_cd 206)[141]? = some ((260, .invokevirtual 9, 3, 5, 1, 1, 0, 0, [7]) : zm_E) := (ta206_5 32).trans rfl
theorem c_206_142 : (zm_cd 206)[142]? = some ((263, .iload 4, 2, 4, 0, 0, 0, 0, []) : zm_E) := (ta206_5 33).trans rfl
theorem c_206_143 : (zm_cd 206)[143]? = some ((265, .if_icmp .ne 23, 3, 154, 0, 0, 0, 0, []) : zm_E) := (ta206_5 34).trans rfl
theorem c_206_144 : (zm_cd 206)[144]? = some ((268, .aload_n 1, 1, 1, 0, 0, 0, 0, []) : zm_E) := (ta206_5 35).trans rfl
theorem c_206_145 : (zm_cd 206)[145]? = some ((269, .invokevirtual 75, 3, 17, 0, 1, 0, 0, [7]) : zm_E) := (ta206_5 36).trans rfl
theorem c_206_146 : (zm_cd 206)[146]? = some ((272, .ifCond .lt 16, 3, 154, 0, 0, 0, 0, []) : zm_E) := (ta206_5 37).trans rfl
theorem c_206_147 : (zm_cd 206)[147]? = some ((275, .aload_n 1, 1, 1, 0, 0, 0, 0, []) : zm_E) := (ta206_5 38).trans rfl
theorem c_206_148 : (zm_cd 206)[148]? = some ((276, .iconst 0, 1, 0, 0, 0, 0, 0, []) : zm_E) := (ta206_5 39).trans rfl
theorem c_206_149 : (zm_cd 206)[149]? = some ((277, .invokevirtual 105, 3, 29, 1, 1, 0, 0, [7]) : zm_E) := (ta206_5 40).trans rfl
theorem ta206_6 : ∀ j : Nat, (zm_cd 206)[150 + j]? = (zd_206_6 ++ zd_206_7)[j]? := fun j => by rw [show 150 + j = 109 + (41 + j) by omega]; exact (ta206_5 (41 + j)).trans (zq_r zd_206_5 _ j)
theorem c_206_150 : (zm_cd 206)[150]? = some ((280, .iload_n 3, 1, 3, 0, 0, 0, 0, []) : zm_E) := (ta206_6 0).trans rfl
theorem c_206_151 : (zm_cd 206)[151]? = some ((281, .if_icmp .ne 7, 3, 154, 0, 0, 0, 0, []) : zm_E) := (ta206_6 1).trans rfl
theorem c_206_152 : (zm_cd 206)[152]? = some ((284, .iconst 1, 1, 0, 0, 0, 1, 0, []) : zm_E) := (ta206_6 2).trans rfl
theorem c_206_153 : (zm_cd 206)[153]? = some ((285, .goto 4, 3, 155, 0, 0, 0, 0, []) : zm_E) := (ta206_6 3).trans rfl
theorem c_206_154 : (zm_cd 206)[154]? = some ((288, .iconst 0, 1, 0, 0, 0, 0, 0, []) : zm_E) := (ta206_6 4).trans rfl
theorem c_206_155 : (zm_cd 206)[155]? = some ((289, .istore_n 2, 1, 2, 0, 0, 0, 0, []) : zm_E) := (ta206_6 5).trans rfl
theorem c_206_156 : (zm_cd 206)[156]? = some ((290, .iload_n 2, 1, 2, 0, 0, 0, 0, []) : zm_E) := (ta206_6 6).trans rfl
theorem c_206_157 : (zm_cd 206)[157]? = some ((291, .ifCond .eq 24, 3, 168, 0, 0, 0, 0, []) : zm_E) := (ta206_6 7).trans rfl
theorem c_206_158 : (zm_cd 206)[158]? = some ((294, .aload_n 1, 1, 1, 0, 0, 0, 0, []) : zm_E) := (ta206_6 8).trans rfl
theorem c_206_159 : (zm_cd 206)[159]? = some ((295, .iconst 3, 1, 0, 0, 0, 3, 0, []) : zm_E) := (ta206_6 9).trans rfl
theorem c_206_160 : (zm_cd 206)[160]? = some ((296, .invokevirtual 9, 3, 5, 1, 1, 0, 0, [7]) : zm_E) := (ta206_6 10).trans rfl
theorem c_206_161 : (zm_cd 206)[161]? = some ((299, .iload 4, 2, 4, 0, 0, 0, 0, []) : zm_E) := (ta206_6 11).trans rfl
theorem c_206_162 : (zm_cd 206)[162]? = some ((301, .if_icmp .ne 14, 3, 168, 0, 0, 0, 0, []) : zm_E) := (ta206_6 12).trans rfl
theorem ta206_7 : ∀ j : Nat, (zm_cd 206)[163 + j]? = zd_206_7[j]? := fun j => by rw [show 163 + j = 150 + (13 + j) by omega]; exact (ta206_6 (13 + j)).trans (zq_r zd_206_6 _ j)
theorem c_206_163 : (zm_cd 206)[163]? = some ((304, .aload_n 1, 1, 1, 0, 0, 0, 0, []) : zm_E) := (ta206_7 0).trans rfl
theorem c_206_164 : (zm_cd 206)[164]? = some ((305, .invokestatic 90, 3, 187, 1, 1, 0, 0, []) : zm_E) := (ta206_7 1).trans rfl
theorem c_206_165 : (zm_cd 206)[165]? = some ((308, .ifCond .eq 7, 3, 168, 0, 0, 0, 0, []) : zm_E) := (ta206_7 2).trans rfl
theorem c_206_166 : (zm_cd 206)[166]? = some ((311, .iconst 1, 1, 0, 0, 0, 1, 0, []) : zm_E) := (ta206_7 3).trans rfl
theorem c_206_167 : (zm_cd 206)[167]? = some ((312, .goto 4, 3, 169, 0, 0, 0, 0, []) : zm_E) := (ta206_7 4).trans rfl
theorem c_206_168 : (zm_cd 206)[168]? = some ((315, .iconst 0, 1, 0, 0, 0, 0, 0, []) : zm_E) := (ta206_7 5).trans rfl
theorem c_206_169 : (zm_cd 206)[169]? = some ((316, .ireturn, 1, 1, 0, 0, 0, 0, []) : zm_E) := (ta206_7 6).trans rfl
