/-! the instructions, by program, part 1 -/
theorem cd_151 : zm_cd 151 = zd_151 := rfl
theorem ml_151 : zm_ml 151 = 3 := rfl
theorem ht_151 : zm_ht 151 = [] := rfl
theorem c_151_0 : (zm_cd 151)[0]? = some ((0, .iconst 0, 1, 0, 0, 0, 0, 0, []) : zm_E) := (congrArg (fun l => l[0]?) cd_151).trans rfl
theorem c_151_1 : (zm_cd 151)[1]? = some ((1, .istore_n 1, 1, 1, 0, 0, 0, 0, []) : zm_E) := (congrArg (fun l => l[1]?) cd_151).trans rfl
theorem c_151_2 : (zm_cd 151)[2]? = some ((2, .iconst 0, 1, 0, 0, 0, 0, 0, []) : zm_E) := (congrArg (fun l => l[2]?) cd_151).trans rfl
theorem c_151_3 : (zm_cd 151)[3]? = some ((3, .istore_n 2, 1, 2, 0, 0, 0, 0, []) : zm_E) := (congrArg (fun l => l[3]?) cd_151).trans rfl
theorem c_151_4 : (zm_cd 151)[4]? = some ((4, .iload_n 2, 1, 2, 0, 0, 0, 0, []) : zm_E) := (congrArg (fun l => l[4]?) cd_151).trans rfl
theorem c_151_5 : (zm_cd 151)[5]? = some ((5, .aload_n 0, 1, 0, 0, 0, 0, 0, []) : zm_E) := (congrArg (fun l => l[5]?) cd_151).trans rfl
theorem c_151_6 : (zm_cd 151)[6]? = some ((6, .getfield 54, 3, 1, 0, 0, 0, 0, []) : zm_E) := (congrArg (fun l => l[6]?) cd_151).trans rfl
theorem c_151_7 : (zm_cd 151)[7]? = some ((9, .if_icmp .ge 24, 3, 21, 0, 0, 0, 0, []) : zm_E) := (congrArg (fun l => l[7]?) cd_151).trans rfl
theorem c_151_8 : (zm_cd 151)[8]? = some ((12, .iload_n 1, 1, 1, 0, 0, 0, 0, []) : zm_E) := (congrArg (fun l => l[8]?) cd_151).trans rfl
theorem c_151_9 : (zm_cd 151)[9]? = some ((13, .aload_n 0, 1, 0, 0, 0, 0, 0, []) : zm_E) := (congrArg (fun l => l[9]?) cd_151).trans rfl
theorem c_151_10 : (zm_cd 151)[10]? = some ((14, .getfield 25, 3, 1, 3, 1, 0, 0, []) : zm_E) := (congrArg (fun l => l[10]?) cd_151).trans rfl
theorem c_151_11 : (zm_cd 151)[11]? = some ((17, .iload_n 2, 1, 2, 0, 0, 0, 0, []) : zm_E) := (congrArg (fun l => l[11]?) cd_151).trans rfl
theorem c_151_12 : (zm_cd 151)[12]? = some ((18, .invokestatic 28, 3, 209, 2, 1, 1, 0, []) : zm_E) := (congrArg (fun l => l[12]?) cd_151).trans rfl
theorem c_151_13 : (zm_cd 151)[13]? = some ((21, .iload_n 2, 1, 2, 0, 0, 0, 0, []) : zm_E) := (congrArg (fun l => l[13]?) cd_151).trans rfl
theorem c_151_14 : (zm_cd 151)[14]? = some ((22, .iconst 3, 1, 0, 0, 0, 3, 0, []) : zm_E) := (congrArg (fun l => l[14]?) cd_151).trans rfl
theorem c_151_15 : (zm_cd 151)[15]? = some ((23, .imul, 1, 0, 0, 0, 0, 0, []) : zm_E) := (congrArg (fun l => l[15]?) cd_151).trans rfl
theorem c_151_16 : (zm_cd 151)[16]? = some ((24, .ishl, 1, 0, 0, 0, 0, 0, []) : zm_E) := (congrArg (fun l => l[16]?) cd_151).trans rfl
theorem c_151_17 : (zm_cd 151)[17]? = some ((25, .ior, 1, 0, 0, 0, 0, 0, []) : zm_E) := (congrArg (fun l => l[17]?) cd_151).trans rfl
theorem c_151_18 : (zm_cd 151)[18]? = some ((26, .istore_n 1, 1, 1, 0, 0, 0, 0, []) : zm_E) := (congrArg (fun l => l[18]?) cd_151).trans rfl
theorem c_151_19 : (zm_cd 151)[19]? = some ((27, .iinc 2 1, 3, 2, 0, 0, 1, 0, []) : zm_E) := (congrArg (fun l => l[19]?) cd_151).trans rfl
theorem c_151_20 : (zm_cd 151)[20]? = some ((30, .goto (-26), 3, 4, 0, 0, 0, 0, []) : zm_E) := (congrArg (fun l => l[20]?) cd_151).trans rfl
theorem c_151_21 : (zm_cd 151)[21]? = some ((33, .iload_n 1, 1, 1, 0, 0, 0, 0, []) : zm_E) := (congrArg (fun l => l[21]?) cd_151).trans rfl
theorem c_151_22 : (zm_cd 151)[22]? = some ((34, .ireturn, 1, 0, 0, 0, 0, 0, []) : zm_E) := (congrArg (fun l => l[22]?) cd_151).trans rfl
theorem cd_152 : zm_cd 152 = zd_152 := rfl
theorem ml_152 : zm_ml 152 = 3 := rfl
theorem ht_152 : zm_ht 152 = [] := rfl
theorem c_152_0 : (zm_cd 152)[0]? = some ((0, .iconst 0, 1, 0, 0, 0, 0, 0, []) : zm_E) := (congrArg (fun l => l[0]?) cd_152).trans rfl
theorem c_152_1 : (zm_cd 152)[1]? = some ((1, .istore_n 2, 1, 2, 0, 0, 0, 0, []) : zm_E) := (congrArg (fun l => l[1]?) cd_152).trans rfl
theorem c_152_2 : (zm_cd 152)[2]? = some ((2, .iload_n 2, 1, 2, 0, 0, 0, 0, []) : zm_E) := (congrArg (fun l => l[2]?) cd_152).trans rfl
theorem c_152_3 : (zm_cd 152)[3]? = some ((3, .aload_n 1, 1, 1, 0, 0, 0, 0, []) : zm_E) := (congrArg (fun l => l[3]?) cd_152).trans rfl
theorem c_152_4 : (zm_cd 152)[4]? = some ((4, .getfield 54, 3, 1, 0, 0, 0, 0, []) : zm_E) := (congrArg (fun l => l[4]?) cd_152).trans rfl
theorem c_152_5 : (zm_cd 152)[5]? = some ((7, .if_icmp .ge 25, 3, 19, 0, 0, 0, 0, []) : zm_E) := (congrArg (fun l => l[5]?) cd_152).trans rfl
theorem c_152_6 : (zm_cd 152)[6]? = some ((10, .aload_n 1, 1, 1, 0, 0, 0, 0, []) : zm_E) := (congrArg (fun l => l[6]?) cd_152).trans rfl
theorem c_152_7 : (zm_cd 152)[7]? = some ((11, .getfield 25, 3, 1, 3, 1, 0, 0, []) : zm_E) := (congrArg (fun l => l[7]?) cd_152).trans rfl
theorem c_152_8 : (zm_cd 152)[8]? = some ((14, .iload_n 2, 1, 2, 0, 0, 0, 0, []) : zm_E) := (congrArg (fun l => l[8]?) cd_152).trans rfl
theorem c_152_9 : (zm_cd 152)[9]? = some ((15, .iload_n 0, 1, 0, 0, 0, 0, 0, []) : zm_E) := (congrArg (fun l => l[9]?) cd_152).trans rfl
theorem c_152_10 : (zm_cd 152)[10]? = some ((16, .iload_n 2, 1, 2, 0, 0, 0, 0, []) : zm_E) := (congrArg (fun l => l[10]?) cd_152).trans rfl
theorem c_152_11 : (zm_cd 152)[11]? = some ((17, .iconst 3, 1, 0, 0, 0, 3, 0, []) : zm_E) := (congrArg (fun l => l[11]?) cd_152).trans rfl
theorem c_152_12 : (zm_cd 152)[12]? = some ((18, .imul, 1, 0, 0, 0, 0, 0, []) : zm_E) := (congrArg (fun l => l[12]?) cd_152).trans rfl
theorem c_152_13 : (zm_cd 152)[13]? = some ((19, .ishr, 1, 0, 0, 0, 0, 0, []) : zm_E) := (congrArg (fun l => l[13]?) cd_152).trans rfl
theorem c_152_14 : (zm_cd 152)[14]? = some ((20, .bipush 7, 2, 0, 0, 0, 7, 0, []) : zm_E) := (congrArg (fun l => l[14]?) cd_152).trans rfl
theorem c_152_15 : (zm_cd 152)[15]? = some ((22, .iand, 1, 0, 0, 0, 0, 0, []) : zm_E) := (congrArg (fun l => l[15]?) cd_152).trans rfl
theorem c_152_16 : (zm_cd 152)[16]? = some ((23, .invokestatic 72, 3, 210, 3, 0, 1, 0, []) : zm_E) := (congrArg (fun l => l[16]?) cd_152).trans rfl
theorem c_152_17 : (zm_cd 152)[17]? = some ((26, .iinc 2 1, 3, 2, 0, 0, 1, 0, []) : zm_E) := (congrArg (fun l => l[17]?) cd_152).trans rfl
theorem c_152_18 : (zm_cd 152)[18]? = some ((29, .goto (-27), 3, 2, 0, 0, 0, 0, []) : zm_E) := (congrArg (fun l => l[18]?) cd_152).trans rfl
theorem c_152_19 : (zm_cd 152)[19]? = some ((32, .return_, 1, 0, 0, 0, 0, 0, []) : zm_E) := (congrArg (fun l => l[19]?) cd_152).trans rfl
theorem cd_154 : zm_cd 154 = zd_154 := rfl
theorem ml_154 : zm_ml 154 = 6 := rfl
theorem ht_154 : zm_ht 154 = [] := rfl
theorem c_154_0 : (zm_cd 154)[0]? = some ((0, .aload_n 0, 1, 0, 0, 0, 0, 0, []) : zm_E) := (congrArg (fun l => l[0]?) cd_154).trans rfl
theorem c_154_1 : (zm_cd 154)[1]? = some ((1, .aload_n 1, 1, 1, 0, 0, 0, 0, []) : zm_E) := (congrArg (fun l => l[1]?) cd_154).trans rfl
theorem c_154_2 : (zm_cd 154)[2]? = some ((2, .invokevirtual 27, 3, 158, 1, 0, 0, 0, [4]) : zm_E) := (congrArg (fun l => l[2]?) cd_154).trans rfl
theorem c_154_3 : (zm_cd 154)[3]? = some ((5, .bipush (-9), 2, 0, 0, 0, (-9), 0, []) : zm_E) := (congrArg (fun l => l[3]?) cd_154).trans rfl
theorem c_154_4 : (zm_cd 154)[4]? = some ((7, .istore_n 3, 1, 3, 0, 0, 0, 0, []) : zm_E) := (congrArg (fun l => l[4]?) cd_154).trans rfl
theorem c_154_5 : (zm_cd 154)[5]? = some ((8, .iconst 1, 1, 0, 0, 0, 1, 0, []) : zm_E) := (congrArg (fun l => l[5]?) cd_154).trans rfl
theorem c_154_6 : (zm_cd 154)[6]? = some ((9, .istore 4, 2, 4, 0, 0, 0, 0, []) : zm_E) := (congrArg (fun l => l[6]?) cd_154).trans rfl
theorem c_154_7 : (zm_cd 154)[7]? = some ((11, .iload 4, 2, 4, 0, 0, 0, 0, []) : zm_E) := (congrArg (fun l => l[7]?) cd_154).trans rfl
theorem c_154_8 : (zm_cd 154)[8]? = some ((13, .aload_n 1, 1, 1, 0, 0, 0, 0, []) : zm_E) := (congrArg (fun l => l[8]?) cd_154).trans rfl
theorem c_154_9 : (zm_cd 154)[9]? = some ((14, .invokevirtual 31, 3, 117, 0, 1, 0, 0, [1]) : zm_E) := (congrArg (fun l => l[9]?) cd_154).trans rfl
theorem c_154_10 : (zm_cd 154)[10]? = some ((17, .if_icmp .gt 53, 3, 35, 0, 0, 0, 0, []) : zm_E) := (congrArg (fun l => l[10]?) cd_154).trans rfl
theorem c_154_11 : (zm_cd 154)[11]? = some ((20, .iload_n 3, 1, 3, 0, 0, 0, 0, []) : zm_E) := (congrArg (fun l => l[11]?) cd_154).trans rfl
theorem c_154_12 : (zm_cd 154)[12]? = some ((21, .bipush (-9), 2, 0, 0, 0, (-9), 0, []) : zm_E) := (congrArg (fun l => l[12]?) cd_154).trans rfl
theorem c_154_13 : (zm_cd 154)[13]? = some ((23, .if_icmp .eq 15, 3, 19, 0, 0, 0, 0, []) : zm_E) := (congrArg (fun l => l[13]?) cd_154).trans rfl
theorem c_154_14 : (zm_cd 154)[14]? = some ((26, .iload 4, 2, 4, 0, 0, 0, 0, []) : zm_E) := (congrArg (fun l => l[14]?) cd_154).trans rfl
theorem c_154_15 : (zm_cd 154)[15]? = some ((28, .invokestatic 37, 3, 207, 1, 1, 0, 0, []) : zm_E) := (congrArg (fun l => l[15]?) cd_154).trans rfl
theorem c_154_16 : (zm_cd 154)[16]? = some ((31, .iload_n 3, 1, 3, 0, 0, 0, 0, []) : zm_E) := (congrArg (fun l => l[16]?) cd_154).trans rfl
theorem c_154_17 : (zm_cd 154)[17]? = some ((32, .invokestatic 37, 3, 207, 1, 1, 0, 0, []) : zm_E) := (congrArg (fun l => l[17]?) cd_154).trans rfl
theorem c_154_18 : (zm_cd 154)[18]? = some ((35, .if_icmp .ge 7, 3, 21, 0, 0, 0, 0, []) : zm_E) := (congrArg (fun l => l[18]?) cd_154).trans rfl
theorem c_154_19 : (zm_cd 154)[19]? = some ((38, .iconst 1, 1, 0, 0, 0, 1, 0, []) : zm_E) := (congrArg (fun l => l[19]?) cd_154).trans rfl
theorem c_154_20 : (zm_cd 154)[20]? = some ((39, .goto 4, 3, 22, 0, 0, 0, 0, []) : zm_E) := (congrArg (fun l => l[20]?) cd_154).trans rfl
theorem c_154_21 : (zm_cd 154)[21]? = some ((42, .iconst 0, 1, 0, 0, 0, 0, 0, []) : zm_E) := (congrArg (fun l => l[21]?) cd_154).trans rfl
theorem c_154_22 : (zm_cd 154)[22]? = some ((43, .istore 5, 2, 5, 0, 0, 0, 0, []) : zm_E) := (congrArg (fun l => l[22]?) cd_154).trans rfl
theorem c_154_23 : (zm_cd 154)[23]? = some ((45, .iload 5, 2, 5, 0, 0, 0, 0, []) : zm_E) := (congrArg (fun l => l[23]?) cd_154).trans rfl
theorem c_154_24 : (zm_cd 154)[24]? = some ((47, .ifCond .eq 17, 3, 33, 0, 0, 0, 0, []) : zm_E) := (congrArg (fun l => l[24]?) cd_154).trans rfl
theorem c_154_25 : (zm_cd 154)[25]? = some ((50, .aload_n 0, 1, 0, 0, 0, 0, 0, []) : zm_E) := (congrArg (fun l => l[25]?) cd_154).trans rfl
theorem c_154_26 : (zm_cd 154)[26]? = some ((51, .aload_n 1, 1, 1, 0, 0, 0, 0, []) : zm_E) := (congrArg (fun l => l[26]?) cd_154).trans rfl
theorem c_154_27 : (zm_cd 154)[27]? = some ((52, .iload 4, 2, 4, 0, 0, 0, 0, []) : zm_E) := (congrArg (fun l => l[27]?) cd_154).trans rfl
theorem c_154_28 : (zm_cd 154)[28]? = some ((54, .iload_n 2, 1, 2, 0, 0, 0, 0, []) : zm_E) := (congrArg (fun l => l[28]?) cd_154).trans rfl
theorem c_154_29 : (zm_cd 154)[29]? = some ((55, .invokevirtual 43, 3, 156, 3, 1, 0, 0, [4]) : zm_E) := (congrArg (fun l => l[29]?) cd_154).trans rfl
theorem c_154_30 : (zm_cd 154)[30]? = some ((58, .ifCond .eq 6, 3, 33, 0, 0, 0, 0, []) : zm_E) := (congrArg (fun l => l[30]?) cd_154).trans rfl
theorem c_154_31 : (zm_cd 154)[31]? = some ((61, .iload 4, 2, 4, 0, 0, 0, 0, []) : zm_E) := (congrArg (fun l => l[31]?) cd_154).trans rfl
theorem c_154_32 : (zm_cd 154)[32]? = some ((63, .istore_n 3, 1, 3, 0, 0, 0, 0, []) : zm_E) := (congrArg (fun l => l[32]?) cd_154).trans rfl
theorem c_154_33 : (zm_cd 154)[33]? = some ((64, .iinc 4 1, 3, 4, 0, 0, 1, 0, []) : zm_E) := (congrArg (fun l => l[33]?) cd_154).trans rfl
theorem c_154_34 : (zm_cd 154)[34]? = some ((67, .goto (-56), 3, 7, 0, 0, 0, 0, []) : zm_E) := (congrArg (fun l => l[34]?) cd_154).trans rfl
theorem c_154_35 : (zm_cd 154)[35]? = some ((70, .iload_n 3, 1, 3, 0, 0, 0, 0, []) : zm_E) := (congrArg (fun l => l[35]?) cd_154).trans rfl
theorem c_154_36 : (zm_cd 154)[36]? = some ((71, .ireturn, 1, 0, 0, 0, 0, 0, []) : zm_E) := (congrArg (fun l => l[36]?) cd_154).trans rfl
theorem cd_155 : zm_cd 155 = zd_155 := rfl
theorem ml_155 : zm_ml 155 = 5 := rfl
theorem ht_155 : zm_ht 155 = [] := rfl
theorem c_155_0 : (zm_cd 155)[0]? = some ((0, .aload_n 0, 1, 0, 0, 0, 0, 0, []) : zm_E) := (congrArg (fun l => l[0]?) cd_155).trans rfl
theorem c_155_1 : (zm_cd 155)[1]? = some ((1, .aload_n 1, 1, 1, 0, 0, 0, 0, []) : zm_E) := (congrArg (fun l => l[1]?) cd_155).trans rfl
theorem c_155_2 : (zm_cd 155)[2]? = some ((2, .invokevirtual 27, 3, 158, 1, 0, 0, 0, [4]) : zm_E) := (congrArg (fun l => l[2]?) cd_155).trans rfl
theorem c_155_3 : (zm_cd 155)[3]? = some ((5, .iconst 0, 1, 0, 0, 0, 0, 0, []) : zm_E) := (congrArg (fun l => l[3]?) cd_155).trans rfl
theorem c_155_4 : (zm_cd 155)[4]? = some ((6, .istore_n 3, 1, 3, 0, 0, 0, 0, []) : zm_E) := (congrArg (fun l => l[4]?) cd_155).trans rfl
theorem c_155_5 : (zm_cd 155)[5]? = some ((7, .iconst 1, 1, 0, 0, 0, 1, 0, []) : zm_E) := (congrArg (fun l => l[5]?) cd_155).trans rfl
theorem c_155_6 : (zm_cd 155)[6]? = some ((8, .istore 4, 2, 4, 0, 0, 0, 0, []) : zm_E) := (congrArg (fun l => l[6]?) cd_155).trans rfl
theorem c_155_7 : (zm_cd 155)[7]? = some ((10, .iload 4, 2, 4, 0, 0, 0, 0, []) : zm_E) := (congrArg (fun l => l[7]?) cd_155).trans rfl
theorem c_155_8 : (zm_cd 155)[8]? = some ((12, .aload_n 1, 1, 1, 0, 0, 0, 0, []) : zm_E) := (congrArg (fun l => l[8]?) cd_155).trans rfl
theorem c_155_9 : (zm_cd 155)[9]? = some ((13, .invokevirtual 31, 3, 117, 0, 1, 0, 0, [1]) : zm_E) := (congrArg (fun l => l[9]?) cd_155).trans rfl
theorem c_155_10 : (zm_cd 155)[10]? = some ((16, .if_icmp .gt 23, 3, 20, 0, 0, 0, 0, []) : zm_E) := (congrArg (fun l => l[10]?) cd_155).trans rfl
theorem c_155_11 : (zm_cd 155)[11]? = some ((19, .aload_n 0, 1, 0, 0, 0, 0, 0, []) : zm_E) := (congrArg (fun l => l[11]?) cd_155).trans rfl
theorem c_155_12 : (zm_cd 155)[12]? = some ((20, .aload_n 1, 1, 1, 0, 0, 0, 0, []) : zm_E) := (congrArg (fun l => l[12]?) cd_155).trans rfl
theorem c_155_13 : (zm_cd 155)[13]? = some ((21, .iload 4, 2, 4, 0, 0, 0, 0, []) : zm_E) := (congrArg (fun l => l[13]?) cd_155).trans rfl
theorem c_155_14 : (zm_cd 155)[14]? = some ((23, .iload_n 2, 1, 2, 0, 0, 0, 0, []) : zm_E) := (congrArg (fun l => l[14]?) cd_155).trans rfl
theorem c_155_15 : (zm_cd 155)[15]? = some ((24, .invokevirtual 43, 3, 156, 3, 1, 0, 0, [4]) : zm_E) := (congrArg (fun l => l[15]?) cd_155).trans rfl
theorem c_155_16 : (zm_cd 155)[16]? = some ((27, .ifCond .eq 6, 3, 18, 0, 0, 0, 0, []) : zm_E) := (congrArg (fun l => l[16]?) cd_155).trans rfl
theorem c_155_17 : (zm_cd 155)[17]? = some ((30, .iinc 3 1, 3, 3, 0, 0, 1, 0, []) : zm_E) := (congrArg (fun l => l[17]?) cd_155).trans rfl
theorem c_155_18 : (zm_cd 155)[18]? = some ((33, .iinc 4 1, 3, 4, 0, 0, 1, 0, []) : zm_E) := (congrArg (fun l => l[18]?) cd_155).trans rfl
theorem c_155_19 : (zm_cd 155)[19]? = some ((36, .goto (-26), 3, 7, 0, 0, 0, 0, []) : zm_E) := (congrArg (fun l => l[19]?) cd_155).trans rfl
theorem c_155_20 : (zm_cd 155)[20]? = some ((39, .iload_n 3, 1, 3, 0, 0, 0, 0, []) : zm_E) := (congrArg (fun l => l[20]?) cd_155).trans rfl
theorem c_155_21 : (zm_cd 155)[21]? = some ((40, .ireturn, 1, 0, 0, 0, 0, 0, []) : zm_E) := (congrArg (fun l => l[21]?) cd_155).trans rfl
theorem cd_156 : zm_cd 156 = zd_156 := rfl
theorem ml_156 : zm_ml 156 = 4 := rfl
theorem ht_156 : zm_ht 156 = [] := rfl
theorem c_156_0 : (zm_cd 156)[0]? = some ((0, .aload_n 0, 1, 0, 0, 0, 0, 0, []) : zm_E) := (congrArg (fun l => l[0]?) cd_156).trans rfl
theorem c_156_1 : (zm_cd 156)[1]? = some ((1, .aload_n 1, 1, 1, 0, 0, 0, 0, []) : zm_E) := (congrArg (fun l => l[1]?) cd_156).trans rfl
theorem c_156_2 : (zm_cd 156)[2]? = some ((2, .iload_n 2, 1, 2, 0, 0, 0, 0, []) : zm_E) := (congrArg (fun l => l[2]?) cd_156).trans rfl
theorem c_156_3 : (zm_cd 156)[3]? = some ((3, .invokevirtual 47, 3, 159, 2, 0, 0, 0, [4]) : zm_E) := (congrArg (fun l => l[3]?) cd_156).trans rfl
theorem c_156_4 : (zm_cd 156)[4]? = some ((6, .iload_n 3, 1, 3, 0, 0, 0, 0, []) : zm_E) := (congrArg (fun l => l[4]?) cd_156).trans rfl
theorem c_156_5 : (zm_cd 156)[5]? = some ((7, .ifCond .eq 23, 3, 16, 0, 0, 0, 0, []) : zm_E) := (congrArg (fun l => l[5]?) cd_156).trans rfl
theorem c_156_6 : (zm_cd 156)[6]? = some ((10, .aload_n 0, 1, 0, 0, 0, 0, 0, []) : zm_E) := (congrArg (fun l => l[6]?) cd_156).trans rfl
theorem c_156_7 : (zm_cd 156)[7]? = some ((11, .iload_n 2, 1, 2, 0, 0, 0, 0, []) : zm_E) := (congrArg (fun l => l[7]?) cd_156).trans rfl
theorem c_156_8 : (zm_cd 156)[8]? = some ((12, .aload_n 0, 1, 0, 0, 0, 0, 0, []) : zm_E) := (congrArg (fun l => l[8]?) cd_156).trans rfl
theorem c_156_9 : (zm_cd 156)[9]? = some ((13, .getfield 9, 3, 4, 0, 1, 0, 0, []) : zm_E) := (congrArg (fun l => l[9]?) cd_156).trans rfl
theorem c_156_10 : (zm_cd 156)[10]? = some ((16, .invokevirtual 51, 3, 160, 2, 1, 0, 0, [4]) : zm_E) := (congrArg (fun l => l[10]?) cd_156).trans rfl
theorem c_156_11 : (zm_cd 156)[11]? = some ((19, .ifCond .le 7, 3, 14, 0, 0, 0, 0, []) : zm_E) := (congrArg (fun l => l[11]?) cd_156).trans rfl
theorem c_156_12 : (zm_cd 156)[12]? = some ((22, .iconst 1, 1, 0, 0, 0, 1, 0, []) : zm_E) := (congrArg (fun l => l[12]?) cd_156).trans rfl
theorem c_156_13 : (zm_cd 156)[13]? = some ((23, .goto 33, 3, 30, 0, 0, 0, 0, []) : zm_E) := (congrArg (fun l => l[13]?) cd_156).trans rfl
theorem c_156_14 : (zm_cd 156)[14]? = some ((26, .iconst 0, 1, 0, 0, 0, 0, 0, []) : zm_E) := (congrArg (fun l => l[14]?) cd_156).trans rfl
theorem c_156_15 : (zm_cd 156)[15]? = some ((27, .goto 29, 3, 30, 0, 0, 0, 0, []) : zm_E) := (congrArg (fun l => l[15]?) cd_156).trans rfl
theorem c_156_16 : (zm_cd 156)[16]? = some ((30, .aload_n 0, 1, 0, 0, 0, 0, 0, []) : zm_E) := (congrArg (fun l => l[16]?) cd_156).trans rfl
theorem c_156_17 : (zm_cd 156)[17]? = some ((31, .iload_n 2, 1, 2, 0, 0, 0, 0, []) : zm_E) := (congrArg (fun l => l[17]?) cd_156).trans rfl
theorem c_156_18 : (zm_cd 156)[18]? = some ((32, .aload_n 0, 1, 0, 0, 0, 0, 0, []) : zm_E) := (congrArg (fun l => l[18]?) cd_156).trans rfl
theorem c_156_19 : (zm_cd 156)[19]? = some ((33, .getfield 18, 3, 4, 2, 1, 0, 0, []) : zm_E) := (congrArg (fun l => l[19]?) cd_156).trans rfl
theorem c_156_20 : (zm_cd 156)[20]? = some ((36, .invokevirtual 51, 3, 160, 2, 1, 0, 0, [4]) : zm_E) := (congrArg (fun l => l[20]?) cd_156).trans rfl
theorem c_156_21 : (zm_cd 156)[21]? = some ((39, .aload_n 0, 1, 0, 0, 0, 0, 0, []) : zm_E) := (congrArg (fun l => l[21]?) cd_156).trans rfl
theorem c_156_22 : (zm_cd 156)[22]? = some ((40, .iload_n 2, 1, 2, 0, 0, 0, 0, []) : zm_E) := (congrArg (fun l => l[22]?) cd_156).trans rfl
theorem c_156_23 : (zm_cd 156)[23]? = some ((41, .aload_n 0, 1, 0, 0, 0, 0, 0, []) : zm_E) := (congrArg (fun l => l[23]?) cd_156).trans rfl
theorem c_156_24 : (zm_cd 156)[24]? = some ((42, .getfield 15, 3, 4, 1, 1, 0, 0, []) : zm_E) := (congrArg (fun l => l[24]?) cd_156).trans rfl
theorem c_156_25 : (zm_cd 156)[25]? = some ((45, .invokevirtual 51, 3, 160, 2, 1, 0, 0, [4]) : zm_E) := (congrArg (fun l => l[25]?) cd_156).trans rfl
theorem c_156_26 : (zm_cd 156)[26]? = some ((48, .if_icmp .le 7, 3, 29, 0, 0, 0, 0, []) : zm_E) := (congrArg (fun l => l[26]?) cd_156).trans rfl
theorem c_156_27 : (zm_cd 156)[27]? = some ((51, .iconst 1, 1, 0, 0, 0, 1, 0, []) : zm_E) := (congrArg (fun l => l[27]?) cd_156).trans rfl
theorem c_156_28 : (zm_cd 156)[28]? = some ((52, .goto 4, 3, 30, 0, 0, 0, 0, []) : zm_E) := (congrArg (fun l => l[28]?) cd_156).trans rfl
theorem c_156_29 : (zm_cd 156)[29]? = some ((55, .iconst 0, 1, 0, 0, 0, 0, 0, []) : zm_E) := (congrArg (fun l => l[29]?) cd_156).trans rfl
theorem c_156_30 : (zm_cd 156)[30]? = some ((56, .ireturn, 1, 1, 0, 0, 0, 0, []) : zm_E) := (congrArg (fun l => l[30]?) cd_156).trans rfl
theorem cd_157 : zm_cd 157 = zd_157 := rfl
theorem ml_157 : zm_ml 157 = 3 := rfl
theorem ht_157 : zm_ht 157 = [] := rfl
theorem c_157_0 : (zm_cd 157)[0]? = some ((0, .aload_n 0, 1, 0, 0, 0, 0, 0, []) : zm_E) := (congrArg (fun l => l[0]?) cd_157).trans rfl
theorem c_157_1 : (zm_cd 157)[1]? = some ((1, .aload_n 1, 1, 1, 0, 0, 0, 0, []) : zm_E) := (congrArg (fun l => l[1]?) cd_157).trans rfl
theorem c_157_2 : (zm_cd 157)[2]? = some ((2, .invokevirtual 27, 3, 158, 1, 0, 0, 0, [4]) : zm_E) := (congrArg (fun l => l[2]?) cd_157).trans rfl
theorem c_157_3 : (zm_cd 157)[3]? = some ((5, .aload_n 0, 1, 0, 0, 0, 0, 0, []) : zm_E) := (congrArg (fun l => l[3]?) cd_157).trans rfl
theorem c_157_4 : (zm_cd 157)[4]? = some ((6, .aload_n 1, 1, 1, 0, 0, 0, 0, []) : zm_E) := (congrArg (fun l => l[4]?) cd_157).trans rfl
theorem c_157_5 : (zm_cd 157)[5]? = some ((7, .aload_n 1, 1, 1, 0, 0, 0, 0, []) : zm_E) := (congrArg (fun l => l[5]?) cd_157).trans rfl
theorem c_157_6 : (zm_cd 157)[6]? = some ((8, .invokevirtual 55, 3, 118, 0, 1, 0, 0, [1]) : zm_E) := (congrArg (fun l => l[6]?) cd_157).trans rfl
theorem c_157_7 : (zm_cd 157)[7]? = some ((11, .invokevirtual 47, 3, 159, 2, 0, 0, 0, [4]) : zm_E) := (congrArg (fun l => l[7]?) cd_157).trans rfl
theorem c_157_8 : (zm_cd 157)[8]? = some ((14, .aload_n 1, 1, 1, 0, 0, 0, 0, []) : zm_E) := (congrArg (fun l => l[8]?) cd_157).trans rfl
theorem c_157_9 : (zm_cd 157)[9]? = some ((15, .aload_n 1, 1, 1, 0, 0, 0, 0, []) : zm_E) := (congrArg (fun l => l[9]?) cd_157).trans rfl
theorem c_157_10 : (zm_cd 157)[10]? = some ((16, .invokevirtual 55, 3, 118, 0, 1, 0, 0, [1]) : zm_E) := (congrArg (fun l => l[10]?) cd_157).trans rfl
theorem c_157_11 : (zm_cd 157)[11]? = some ((19, .invokevirtual 58, 3, 126, 1, 1, 0, 0, [1]) : zm_E) := (congrArg (fun l => l[11]?) cd_157).trans rfl
theorem c_157_12 : (zm_cd 157)[12]? = some ((22, .istore_n 2, 1, 2, 0, 0, 0, 0, []) : zm_E) := (congrArg (fun l => l[12]?) cd_157).trans rfl
theorem c_157_13 : (zm_cd 157)[13]? = some ((23, .aload_n 0, 1, 0, 0, 0, 0, 0, []) : zm_E) := (congrArg (fun l => l[13]?) cd_157).trans rfl
theorem c_157_14 : (zm_cd 157)[14]? = some ((24, .iload_n 2, 1, 2, 0, 0, 0, 0, []) : zm_E) := (congrArg (fun l => l[14]?) cd_157).trans rfl
theorem c_157_15 : (zm_cd 157)[15]? = some ((25, .aload_n 0, 1, 0, 0, 0, 0, 0, []) : zm_E) := (congrArg (fun l => l[15]?) cd_157).trans rfl
theorem c_157_16 : (zm_cd 157)[16]? = some ((26, .getfield 18, 3, 4, 2, 1, 0, 0, []) : zm_E) := (congrArg (fun l => l[16]?) cd_157).trans rfl
theorem c_157_17 : (zm_cd 157)[17]? = some ((29, .invokevirtual 51, 3, 160, 2, 1, 0, 0, [4]) : zm_E) := (congrArg (fun l => l[17]?) cd_157).trans rfl
theorem c_157_18 : (zm_cd 157)[18]? = some ((32, .aload_n 0, 1, 0, 0, 0, 0, 0, []) : zm_E) := (congrArg (fun l => l[18]?) cd_157).trans rfl
theorem c_157_19 : (zm_cd 157)[19]? = some ((33, .iload_n 2, 1, 2, 0, 0, 0, 0, []) : zm_E) := (congrArg (fun l => l[19]?) cd_157).trans rfl
theorem c_157_20 : (zm_cd 157)[20]? = some ((34, .aload_n 0, 1, 0, 0, 0, 0, 0, []) : zm_E) := (congrArg (fun l => l[20]?) cd_157).trans rfl
theorem c_157_21 : (zm_cd 157)[21]? = some ((35, .getfield 15, 3, 4, 1, 1, 0, 0, []) : zm_E) := (congrArg (fun l => l[21]?) cd_157).trans rfl
theorem c_157_22 : (zm_cd 157)[22]? = some ((38, .invokevirtual 51, 3, 160, 2, 1, 0, 0, [4]) : zm_E) := (congrArg (fun l => l[22]?) cd_157).trans rfl
theorem c_157_23 : (zm_cd 157)[23]? = some ((41, .isub, 1, 0, 0, 0, 0, 0, []) : zm_E) := (congrArg (fun l => l[23]?) cd_157).trans rfl
theorem c_157_24 : (zm_cd 157)[24]? = some ((42, .ireturn, 1, 0, 0, 0, 0, 0, []) : zm_E) := (congrArg (fun l => l[24]?) cd_157).trans rfl
theorem cd_158 : zm_cd 158 = zd_158 := rfl
theorem ml_158 : zm_ml 158 = 7 := rfl
theorem ht_158 : zm_ht 158 = [] := rfl
theorem c_158_0 : (zm_cd 158)[0]? = some ((0, .iconst 0, 1, 0, 0, 0, 0, 0, []) : zm_E) := (congrArg (fun l => l[0]?) cd_158).trans rfl
theorem c_158_1 : (zm_cd 158)[1]? = some ((1, .istore_n 2, 1, 2, 0, 0, 0, 0, []) : zm_E) := (congrArg (fun l => l[1]?) cd_158).trans rfl
theorem c_158_2 : (zm_cd 158)[2]? = some ((2, .iload_n 2, 1, 2, 0, 0, 0, 0, []) : zm_E) := (congrArg (fun l => l[2]?) cd_158).trans rfl
theorem c_158_3 : (zm_cd 158)[3]? = some ((3, .aload_n 1, 1, 1, 0, 0, 0, 0, []) : zm_E) := (congrArg (fun l => l[3]?) cd_158).trans rfl
theorem c_158_4 : (zm_cd 158)[4]? = some ((4, .getfield 61, 3, 1, 0, 0, 0, 0, []) : zm_E) := (congrArg (fun l => l[4]?) cd_158).trans rfl
theorem c_158_5 : (zm_cd 158)[5]? = some ((7, .if_icmp .ge 103, 3, 57, 0, 0, 0, 0, []) : zm_E) := (congrArg (fun l => l[5]?) cd_158).trans rfl
theorem c_158_6 : (zm_cd 158)[6]? = some ((10, .iconst 0, 1, 0, 0, 0, 0, 0, []) : zm_E) := (congrArg (fun l => l[6]?) cd_158).trans rfl
theorem c_158_7 : (zm_cd 158)[7]? = some ((11, .istore_n 3, 1, 3, 0, 0, 0, 0, []) : zm_E) := (congrArg (fun l => l[7]?) cd_158).trans rfl
theorem c_158_8 : (zm_cd 158)[8]? = some ((12, .iconst 0, 1, 0, 0, 0, 0, 0, []) : zm_E) := (congrArg (fun l => l[8]?) cd_158).trans rfl
theorem c_158_9 : (zm_cd 158)[9]? = some ((13, .istore 4, 2, 4, 0, 0, 0, 0, []) : zm_E) := (congrArg (fun l => l[9]?) cd_158).trans rfl
theorem c_158_10 : (zm_cd 158)[10]? = some ((15, .iconst 0, 1, 0, 0, 0, 0, 0, []) : zm_E) := (congrArg (fun l => l[10]?) cd_158).trans rfl
theorem c_158_11 : (zm_cd 158)[11]? = some ((16, .istore 5, 2, 5, 0, 0, 0, 0, []) : zm_E) := (congrArg (fun l => l[11]?) cd_158).trans rfl
theorem c_158_12 : (zm_cd 158)[12]? = some ((18, .iload 5, 2, 5, 0, 0, 0, 0, []) : zm_E) := (congrArg (fun l => l[12]?) cd_158).trans rfl
theorem c_158_13 : (zm_cd 158)[13]? = some ((20, .aload_n 1, 1, 1, 0, 0, 0, 0, []) : zm_E) := (congrArg (fun l => l[13]?) cd_158).trans rfl
theorem c_158_14 : (zm_cd 158)[14]? = some ((21, .getfield 61, 3, 1, 0, 0, 0, 0, []) : zm_E) := (congrArg (fun l => l[14]?) cd_158).trans rfl
theorem c_158_15 : (zm_cd 158)[15]? = some ((24, .if_icmp .ge 49, 3, 38, 0, 0, 0, 0, []) : zm_E) := (congrArg (fun l => l[15]?) cd_158).trans rfl
theorem c_158_16 : (zm_cd 158)[16]? = some ((27, .aload_n 1, 1, 1, 0, 0, 0, 0, []) : zm_E) := (congrArg (fun l => l[16]?) cd_158).trans rfl
theorem c_158_17 : (zm_cd 158)[17]? = some ((28, .iload_n 2, 1, 2, 0, 0, 0, 0, []) : zm_E) := (congrArg (fun l => l[17]?) cd_158).trans rfl
theorem c_158_18 : (zm_cd 158)[18]? = some ((29, .iload 5, 2, 5, 0, 0, 0, 0, []) : zm_E) := (congrArg (fun l => l[18]?) cd_158).trans rfl
theorem c_158_19 : (zm_cd 158)[19]? = some ((31, .invokevirtual 65, 3, 124, 2, 1, 0, 0, [1]) : zm_E) := (congrArg (fun l => l[19]?) cd_158).trans rfl
theorem c_158_20 : (zm_cd 158)[20]? = some ((34, .istore 6, 2, 6, 0, 0, 0, 0, []) : zm_E) := (congrArg (fun l => l[20]?) cd_158).trans rfl
theorem c_158_21 : (zm_cd 158)[21]? = some ((36, .iload 6, 2, 6, 0, 0, 0, 0, []) : zm_E) := (congrArg (fun l => l[21]?) cd_158).trans rfl
theorem c_158_22 : (zm_cd 158)[22]? = some ((38, .ifCond .ge 14, 3, 29, 0, 0, 0, 0, []) : zm_E) := (congrArg (fun l => l[22]?) cd_158).trans rfl
theorem c_158_23 : (zm_cd 158)[23]? = some ((41, .iload_n 3, 1, 3, 0, 0, 0, 0, []) : zm_E) := (congrArg (fun l => l[23]?) cd_158).trans rfl
theorem c_158_24 : (zm_cd 158)[24]? = some ((42, .iload 5, 2, 5, 0, 0, 0, 0, []) : zm_E) := (congrArg (fun l => l[24]?) cd_158).trans rfl
theorem c_158_25 : (zm_cd 158)[25]? = some ((44, .invokestatic 69, 3, 36, 1, 1, 1, 0, []) : zm_E) := (congrArg (fun l => l[25]?) cd_158).trans rfl
theorem c_158_26 : (zm_cd 158)[26]? = some ((47, .ior, 1, 0, 0, 0, 0, 0, []) : zm_E) := (congrArg (fun l => l[26]?) cd_158).trans rfl
theorem c_158_27 : (zm_cd 158)[27]? = some ((48, .istore_n 3, 1, 3, 0, 0, 0, 0, []) : zm_E) := (congrArg (fun l => l[27]?) cd_158).trans rfl
theorem c_158_28 : (zm_cd 158)[28]? = some ((49, .goto 18, 3, 36, 0, 0, 0, 0, []) : zm_E) := (congrArg (fun l => l[28]?) cd_158).trans rfl
theorem c_158_29 : (zm_cd 158)[29]? = some ((52, .iload 6, 2, 6, 0, 0, 0, 0, []) : zm_E) := (congrArg (fun l => l[29]?) cd_158).trans rfl
theorem c_158_30 : (zm_cd 158)[30]? = some ((54, .ifCond .ne 13, 3, 36, 0, 0, 0, 0, []) : zm_E) := (congrArg (fun l => l[30]?) cd_158).trans rfl
theorem c_158_31 : (zm_cd 158)[31]? = some ((57, .iload 4, 2, 4, 0, 0, 0, 0, []) : zm_E) := (congrArg (fun l => l[31]?) cd_158).trans rfl
theorem c_158_32 : (zm_cd 158)[32]? = some ((59, .iload 5, 2, 5, 0, 0, 0, 0, []) : zm_E) := (congrArg (fun l => l[32]?) cd_158).trans rfl
theorem c_158_33 : (zm_cd 158)[33]? = some ((61, .invokestatic 69, 3, 36, 1, 1, 1, 0, []) : zm_E) := (congrArg (fun l => l[33]?) cd_158).trans rfl
theorem c_158_34 : (zm_cd 158)[34]? = some ((64, .ior, 1, 0, 0, 0, 0, 0, []) : zm_E) := (congrArg (fun l => l[34]?) cd_158).trans rfl
theorem c_158_35 : (zm_cd 158)[35]? = some ((65, .istore 4, 2, 4, 0, 0, 0, 0, []) : zm_E) := (congrArg (fun l => l[35]?) cd_158).trans rfl
theorem c_158_36 : (zm_cd 158)[36]? = some ((67, .iinc 5 1, 3, 5, 0, 0, 1, 0, []) : zm_E) := (congrArg (fun l => l[36]?) cd_158).trans rfl
theorem c_158_37 : (zm_cd 158)[37]? = some ((70, .goto (-52), 3, 12, 0, 0, 0, 0, []) : zm_E) := (congrArg (fun l => l[37]?) cd_158).trans rfl
theorem c_158_38 : (zm_cd 158)[38]? = some ((73, .aload_n 0, 1, 0, 0, 0, 0, 0, []) : zm_E) := (congrArg (fun l => l[38]?) cd_158).trans rfl
theorem c_158_39 : (zm_cd 158)[39]? = some ((74, .getfield 9, 3, 4, 0, 1, 0, 0, []) : zm_E) := (congrArg (fun l => l[39]?) cd_158).trans rfl
theorem c_158_40 : (zm_cd 158)[40]? = some ((77, .iload_n 2, 1, 2, 0, 0, 0, 0, []) : zm_E) := (congrArg (fun l => l[40]?) cd_158).trans rfl
theorem c_158_41 : (zm_cd 158)[41]? = some ((78, .iload_n 3, 1, 3, 0, 0, 0, 0, []) : zm_E) := (congrArg (fun l => l[41]?) cd_158).trans rfl
theorem c_158_42 : (zm_cd 158)[42]? = some ((79, .invokestatic 72, 3, 210, 3, 0, 1, 0, []) : zm_E) := (congrArg (fun l => l[42]?) cd_158).trans rfl
theorem c_158_43 : (zm_cd 158)[43]? = some ((82, .aload_n 0, 1, 0, 0, 0, 0, 0, []) : zm_E) := (congrArg (fun l => l[43]?) cd_158).trans rfl
theorem c_158_44 : (zm_cd 158)[44]? = some ((83, .getfield 15, 3, 4, 1, 1, 0, 0, []) : zm_E) := (congrArg (fun l => l[44]?) cd_158).trans rfl
theorem c_158_45 : (zm_cd 158)[45]? = some ((86, .iload_n 2, 1, 2, 0, 0, 0, 0, []) : zm_E) := (congrArg (fun l => l[45]?) cd_158).trans rfl
theorem c_158_46 : (zm_cd 158)[46]? = some ((87, .iload 4, 2, 4, 0, 0, 0, 0, []) : zm_E) := (congrArg (fun l => l[46]?) cd_158).trans rfl
theorem c_158_47 : (zm_cd 158)[47]? = some ((89, .invokestatic 72, 3, 210, 3, 0, 1, 0, []) : zm_E) := (congrArg (fun l => l[47]?) cd_158).trans rfl
theorem c_158_48 : (zm_cd 158)[48]? = some ((92, .aload_n 0, 1, 0, 0, 0, 0, 0, []) : zm_E) := (congrArg (fun l => l[48]?) cd_158).trans rfl
theorem c_158_49 : (zm_cd 158)[49]? = some ((93, .getfield 18, 3, 4, 2, 1, 0, 0, []) : zm_E) := (congrArg (fun l => l[49]?) cd_158).trans rfl
theorem c_158_50 : (zm_cd 158)[50]? = some ((96, .iload_n 2, 1, 2, 0, 0, 0, 0, []) : zm_E) := (congrArg (fun l => l[50]?) cd_158).trans rfl
theorem c_158_51 : (zm_cd 158)[51]? = some ((97, .iload_n 3, 1, 3, 0, 0, 0, 0, []) : zm_E) := (congrArg (fun l => l[51]?) cd_158).trans rfl
theorem c_158_52 : (zm_cd 158)[52]? = some ((98, .iload 4, 2, 4, 0, 0, 0, 0, []) : zm_E) := (congrArg (fun l => l[52]?) cd_158).trans rfl
theorem c_158_53 : (zm_cd 158)[53]? = some ((100, .ior, 1, 0, 0, 0, 0, 0, []) : zm_E) := (congrArg (fun l => l[53]?) cd_158).trans rfl
theorem c_158_54 : (zm_cd 158)[54]? = some ((101, .invokestatic 72, 3, 210, 3, 0, 1, 0, []) : zm_E) := (congrArg (fun l => l[54]?) cd_158).trans rfl
theorem c_158_55 : (zm_cd 158)[55]? = some ((104, .iinc 2 1, 3, 2, 0, 0, 1, 0, []) : zm_E) := (congrArg (fun l => l[55]?) cd_158).trans rfl
theorem c_158_56 : (zm_cd 158)[56]? = some ((107, .goto (-105), 3, 2, 0, 0, 0, 0, []) : zm_E) := (congrArg (fun l => l[56]?) cd_158).trans rfl
theorem c_158_57 : (zm_cd 158)[57]? = some ((110, .return_, 1, 0, 0, 0, 0, 0, []) : zm_E) := (congrArg (fun l => l[57]?) cd_158).trans rfl
theorem cd_159 : zm_cd 159 = zd_159 := rfl
theorem ml_159 : zm_ml 159 = 4 := rfl
theorem ht_159 : zm_ht 159 = [] := rfl
theorem c_159_0 : (zm_cd 159)[0]? = some ((0, .aload_n 0, 1, 0, 0, 0, 0, 0, []) : zm_E) := (congrArg (fun l => l[0]?) cd_159).trans rfl
theorem c_159_1 : (zm_cd 159)[1]? = some ((1, .iconst 0, 1, 0, 0, 0, 0, 0, []) : zm_E) := (congrArg (fun l => l[1]?) cd_159).trans rfl
theorem c_159_2 : (zm_cd 159)[2]? = some ((2, .putfield 76, 3, 4, 4, 0, 0, 0, []) : zm_E) := (congrArg (fun l => l[2]?) cd_159).trans rfl
theorem c_159_3 : (zm_cd 159)[3]? = some ((5, .iconst 0, 1, 0, 0, 0, 0, 0, []) : zm_E) := (congrArg (fun l => l[3]?) cd_159).trans rfl
theorem c_159_4 : (zm_cd 159)[4]? = some ((6, .istore_n 3, 1, 3, 0, 0, 0, 0, []) : zm_E) := (congrArg (fun l => l[4]?) cd_159).trans rfl
theorem c_159_5 : (zm_cd 159)[5]? = some ((7, .iload_n 3, 1, 3, 0, 0, 0, 0, []) : zm_E) := (congrArg (fun l => l[5]?) cd_159).trans rfl
theorem c_159_6 : (zm_cd 159)[6]? = some ((8, .aload_n 1, 1, 1, 0, 0, 0, 0, []) : zm_E) := (congrArg (fun l => l[6]?) cd_159).trans rfl
theorem c_159_7 : (zm_cd 159)[7]? = some ((9, .getfield 61, 3, 1, 0, 0, 0, 0, []) : zm_E) := (congrArg (fun l => l[7]?) cd_159).trans rfl
theorem c_159_8 : (zm_cd 159)[8]? = some ((12, .if_icmp .ge 39, 3, 27, 0, 0, 0, 0, []) : zm_E) := (congrArg (fun l => l[8]?) cd_159).trans rfl
theorem c_159_9 : (zm_cd 159)[9]? = some ((15, .iload_n 2, 1, 2, 0, 0, 0, 0, []) : zm_E) := (congrArg (fun l => l[9]?) cd_159).trans rfl
theorem c_159_10 : (zm_cd 159)[10]? = some ((16, .iload_n 3, 1, 3, 0, 0, 0, 0, []) : zm_E) := (congrArg (fun l => l[10]?) cd_159).trans rfl
theorem c_159_11 : (zm_cd 159)[11]? = some ((17, .invokestatic 79, 3, 37, 2, 1, 1, 0, []) : zm_E) := (congrArg (fun l => l[11]?) cd_159).trans rfl
theorem c_159_12 : (zm_cd 159)[12]? = some ((20, .ifCond .eq 25, 3, 25, 0, 0, 0, 0, []) : zm_E) := (congrArg (fun l => l[12]?) cd_159).trans rfl
theorem c_159_13 : (zm_cd 159)[13]? = some ((23, .aload_n 0, 1, 0, 0, 0, 0, 0, []) : zm_E) := (congrArg (fun l => l[13]?) cd_159).trans rfl
theorem c_159_14 : (zm_cd 159)[14]? = some ((24, .getfield 21, 3, 4, 3, 1, 0, 0, []) : zm_E) := (congrArg (fun l => l[14]?) cd_159).trans rfl
theorem c_159_15 : (zm_cd 159)[15]? = some ((27, .aload_n 0, 1, 0, 0, 0, 0, 0, []) : zm_E) := (congrArg (fun l => l[15]?) cd_159).trans rfl
theorem c_159_16 : (zm_cd 159)[16]? = some ((28, .getfield 76, 3, 4, 4, 0, 0, 0, []) : zm_E) := (congrArg (fun l => l[16]?) cd_159).trans rfl
theorem c_159_17 : (zm_cd 159)[17]? = some ((31, .iload_n 3, 1, 3, 0, 0, 0, 0, []) : zm_E) := (congrArg (fun l => l[17]?) cd_159).trans rfl
theorem c_159_18 : (zm_cd 159)[18]? = some ((32, .invokestatic 72, 3, 210, 3, 0, 1, 0, []) : zm_E) := (congrArg (fun l => l[18]?) cd_159).trans rfl
theorem c_159_19 : (zm_cd 159)[19]? = some ((35, .aload_n 0, 1, 0, 0, 0, 0, 0, []) : zm_E) := (congrArg (fun l => l[19]?) cd_159).trans rfl
theorem c_159_20 : (zm_cd 159)[20]? = some ((36, .dup, 1, 0, 0, 0, 0, 0, []) : zm_E) := (congrArg (fun l => l[20]?) cd_159).trans rfl
theorem c_159_21 : (zm_cd 159)[21]? = some ((37, .getfield 76, 3, 4, 4, 0, 0, 0, []) : zm_E) := (congrArg (fun l => l[21]?) cd_159).trans rfl
theorem c_159_22 : (zm_cd 159)[22]? = some ((40, .iconst 1, 1, 0, 0, 0, 1, 0, []) : zm_E) := (congrArg (fun l => l[22]?) cd_159).trans rfl
theorem c_159_23 : (zm_cd 159)[23]? = some ((41, .iadd, 1, 0, 0, 0, 0, 0, []) : zm_E) := (congrArg (fun l => l[23]?) cd_159).trans rfl
theorem c_159_24 : (zm_cd 159)[24]? = some ((42, .putfield 76, 3, 4, 4, 0, 0, 0, []) : zm_E) := (congrArg (fun l => l[24]?) cd_159).trans rfl
theorem c_159_25 : (zm_cd 159)[25]? = some ((45, .iinc 3 1, 3, 3, 0, 0, 1, 0, []) : zm_E) := (congrArg (fun l => l[25]?) cd_159).trans rfl
theorem c_159_26 : (zm_cd 159)[26]? = some ((48, .goto (-41), 3, 5, 0, 0, 0, 0, []) : zm_E) := (congrArg (fun l => l[26]?) cd_159).trans rfl
theorem c_159_27 : (zm_cd 159)[27]? = some ((51, .return_, 1, 0, 0, 0, 0, 0, []) : zm_E) := (congrArg (fun l => l[27]?) cd_159).trans rfl
theorem cd_160 : zm_cd 160 = zd_160 := rfl
theorem ml_160 : zm_ml 160 = 6 := rfl
theorem ht_160 : zm_ht 160 = [] := rfl
theorem c_160_0 : (zm_cd 160)[0]? = some ((0, .iconst 1, 1, 0, 0, 0, 1, 0, []) : zm_E) := (congrArg (fun l => l[0]?) cd_160).trans rfl
theorem c_160_1 : (zm_cd 160)[1]? = some ((1, .istore_n 3, 1, 3, 0, 0, 0, 0, []) : zm_E) := (congrArg (fun l => l[1]?) cd_160).trans rfl
theorem c_160_2 : (zm_cd 160)[2]? = some ((2, .iload_n 3, 1, 3, 0, 0, 0, 0, []) : zm_E) := (congrArg (fun l => l[2]?) cd_160).trans rfl
theorem c_160_3 : (zm_cd 160)[3]? = some ((3, .iload_n 1, 1, 1, 0, 0, 0, 0, []) : zm_E) := (congrArg (fun l => l[3]?) cd_160).trans rfl
theorem c_160_4 : (zm_cd 160)[4]? = some ((4, .if_icmp .gt 18, 3, 12, 0, 0, 0, 0, []) : zm_E) := (congrArg (fun l => l[4]?) cd_160).trans rfl
theorem c_160_5 : (zm_cd 160)[5]? = some ((7, .aload_n 0, 1, 0, 0, 0, 0, 0, []) : zm_E) := (congrArg (fun l => l[5]?) cd_160).trans rfl
theorem c_160_6 : (zm_cd 160)[6]? = some ((8, .getfield 24, 3, 4, 5, 1, 0, 0, []) : zm_E) := (congrArg (fun l => l[6]?) cd_160).trans rfl
theorem c_160_7 : (zm_cd 160)[7]? = some ((11, .iload_n 3, 1, 3, 0, 0, 0, 0, []) : zm_E) := (congrArg (fun l => l[7]?) cd_160).trans rfl
theorem c_160_8 : (zm_cd 160)[8]? = some ((12, .iconst 0, 1, 0, 0, 0, 0, 0, []) : zm_E) := (congrArg (fun l => l[8]?) cd_160).trans rfl
theorem c_160_9 : (zm_cd 160)[9]? = some ((13, .invokestatic 72, 3, 210, 3, 0, 1, 0, []) : zm_E) := (congrArg (fun l => l[9]?) cd_160).trans rfl
theorem c_160_10 : (zm_cd 160)[10]? = some ((16, .iinc 3 1, 3, 3, 0, 0, 1, 0, []) : zm_E) := (congrArg (fun l => l[10]?) cd_160).trans rfl
theorem c_160_11 : (zm_cd 160)[11]? = some ((19, .goto (-17), 3, 2, 0, 0, 0, 0, []) : zm_E) := (congrArg (fun l => l[11]?) cd_160).trans rfl
theorem c_160_12 : (zm_cd 160)[12]? = some ((22, .aload_n 0, 1, 0, 0, 0, 0, 0, []) : zm_E) := (congrArg (fun l => l[12]?) cd_160).trans rfl
theorem c_160_13 : (zm_cd 160)[13]? = some ((23, .getfield 24, 3, 4, 5, 1, 0, 0, []) : zm_E) := (congrArg (fun l => l[13]?) cd_160).trans rfl
theorem c_160_14 : (zm_cd 160)[14]? = some ((26, .iconst 0, 1, 0, 0, 0, 0, 0, []) : zm_E) := (congrArg (fun l => l[14]?) cd_160).trans rfl
theorem c_160_15 : (zm_cd 160)[15]? = some ((27, .iconst 1, 1, 0, 0, 0, 1, 0, []) : zm_E) := (congrArg (fun l => l[15]?) cd_160).trans rfl
theorem c_160_16 : (zm_cd 160)[16]? = some ((28, .invokestatic 72, 3, 210, 3, 0, 1, 0, []) : zm_E) := (congrArg (fun l => l[16]?) cd_160).trans rfl
theorem c_160_17 : (zm_cd 160)[17]? = some ((31, .iconst 0, 1, 0, 0, 0, 0, 0, []) : zm_E) := (congrArg (fun l => l[17]?) cd_160).trans rfl
theorem c_160_18 : (zm_cd 160)[18]? = some ((32, .istore_n 3, 1, 3, 0, 0, 0, 0, []) : zm_E) := (congrArg (fun l => l[18]?) cd_160).trans rfl
theorem c_160_19 : (zm_cd 160)[19]? = some ((33, .iload_n 3, 1, 3, 0, 0, 0, 0, []) : zm_E) := (congrArg (fun l => l[19]?) cd_160).trans rfl
theorem c_160_20 : (zm_cd 160)[20]? = some ((34, .iload_n 1, 1, 1, 0, 0, 0, 0, []) : zm_E) := (congrArg (fun l => l[20]?) cd_160).trans rfl
theorem c_160_21 : (zm_cd 160)[21]? = some ((35, .if_icmp .ge 65, 3, 54, 0, 0, 0, 0, []) : zm_E) := (congrArg (fun l => l[21]?) cd_160).trans rfl
theorem c_160_22 : (zm_cd 160)[22]? = some ((38, .aload_n 0, 1, 0, 0, 0, 0, 0, []) : zm_E) := (congrArg (fun l => l[22]?) cd_160).trans rfl
theorem c_160_23 : (zm_cd 160)[23]? = some ((39, .getfield 24, 3, 4, 5, 1, 0, 0, []) : zm_E) := (congrArg (fun l => l[23]?) cd_160).trans rfl
theorem c_160_24 : (zm_cd 160)[24]? = some ((42, .iload_n 3, 1, 3, 0, 0, 0, 0, []) : zm_E) := (congrArg (fun l => l[24]?) cd_160).trans rfl
theorem c_160_25 : (zm_cd 160)[25]? = some ((43, .invokestatic 83, 3, 209, 2, 1, 1, 0, []) : zm_E) := (congrArg (fun l => l[25]?) cd_160).trans rfl
theorem c_160_26 : (zm_cd 160)[26]? = some ((46, .istore 4, 2, 4, 0, 0, 0, 0, []) : zm_E) := (congrArg (fun l => l[26]?) cd_160).trans rfl
theorem c_160_27 : (zm_cd 160)[27]? = some ((48, .iload_n 3, 1, 3, 0, 0, 0, 0, []) : zm_E) := (congrArg (fun l => l[27]?) cd_160).trans rfl
theorem c_160_28 : (zm_cd 160)[28]? = some ((49, .invokestatic 37, 3, 207, 1, 1, 0, 0, []) : zm_E) := (congrArg (fun l => l[28]?) cd_160).trans rfl
theorem c_160_29 : (zm_cd 160)[29]? = some ((52, .istore 5, 2, 5, 0, 0, 0, 0, []) : zm_E) := (congrArg (fun l => l[29]?) cd_160).trans rfl
theorem c_160_30 : (zm_cd 160)[30]? = some ((54, .iload 4, 2, 4, 0, 0, 0, 0, []) : zm_E) := (congrArg (fun l => l[30]?) cd_160).trans rfl
theorem c_160_31 : (zm_cd 160)[31]? = some ((56, .ifCond .eq 38, 3, 52, 0, 0, 0, 0, []) : zm_E) := (congrArg (fun l => l[31]?) cd_160).trans rfl
theorem c_160_32 : (zm_cd 160)[32]? = some ((59, .iload 5, 2, 5, 0, 0, 0, 0, []) : zm_E) := (congrArg (fun l => l[32]?) cd_160).trans rfl
theorem c_160_33 : (zm_cd 160)[33]? = some ((61, .aload_n 0, 1, 0, 0, 0, 0, 0, []) : zm_E) := (congrArg (fun l => l[33]?) cd_160).trans rfl
theorem c_160_34 : (zm_cd 160)[34]? = some ((62, .getfield 76, 3, 4, 4, 0, 0, 0, []) : zm_E) := (congrArg (fun l => l[34]?) cd_160).trans rfl
theorem c_160_35 : (zm_cd 160)[35]? = some ((65, .if_icmp .ge 29, 3, 52, 0, 0, 0, 0, []) : zm_E) := (congrArg (fun l => l[35]?) cd_160).trans rfl
theorem c_160_36 : (zm_cd 160)[36]? = some ((68, .aload_n 0, 1, 0, 0, 0, 0, 0, []) : zm_E) := (congrArg (fun l => l[36]?) cd_160).trans rfl
theorem c_160_37 : (zm_cd 160)[37]? = some ((69, .iload_n 3, 1, 3, 0, 0, 0, 0, []) : zm_E) := (congrArg (fun l => l[37]?) cd_160).trans rfl
theorem c_160_38 : (zm_cd 160)[38]? = some ((70, .iload 4, 2, 4, 0, 0, 0, 0, []) : zm_E) := (congrArg (fun l => l[38]?) cd_160).trans rfl
theorem c_160_39 : (zm_cd 160)[39]? = some ((72, .aload_n 2, 1, 2, 0, 0, 0, 0, []) : zm_E) := (congrArg (fun l => l[39]?) cd_160).trans rfl
theorem c_160_40 : (zm_cd 160)[40]? = some ((73, .aload_n 0, 1, 0, 0, 0, 0, 0, []) : zm_E) := (congrArg (fun l => l[40]?) cd_160).trans rfl
theorem c_160_41 : (zm_cd 160)[41]? = some ((74, .getfield 21, 3, 4, 3, 1, 0, 0, []) : zm_E) := (congrArg (fun l => l[41]?) cd_160).trans rfl
theorem c_160_42 : (zm_cd 160)[42]? = some ((77, .iload 5, 2, 5, 0, 0, 0, 0, []) : zm_E) := (congrArg (fun l => l[42]?) cd_160).trans rfl
theorem c_160_43 : (zm_cd 160)[43]? = some ((79, .invokestatic 83, 3, 209, 2, 1, 1, 0, []) : zm_E) := (congrArg (fun l => l[43]?) cd_160).trans rfl
theorem c_160_44 : (zm_cd 160)[44]? = some ((82, .invokestatic 83, 3, 209, 2, 1, 1, 0, []) : zm_E) := (congrArg (fun l => l[44]?) cd_160).trans rfl
theorem c_160_45 : (zm_cd 160)[45]? = some ((85, .iload_n 1, 1, 1, 0, 0, 0, 0, []) : zm_E) := (congrArg (fun l => l[45]?) cd_160).trans rfl
theorem c_160_46 : (zm_cd 160)[46]? = some ((86, .iand, 1, 0, 0, 0, 0, 0, []) : zm_E) := (congrArg (fun l => l[46]?) cd_160).trans rfl
theorem c_160_47 : (zm_cd 160)[47]? = some ((87, .iload_n 3, 1, 3, 0, 0, 0, 0, []) : zm_E) := (congrArg (fun l => l[47]?) cd_160).trans rfl
theorem c_160_48 : (zm_cd 160)[48]? = some ((88, .iconst (-1), 1, 0, 0, 0, (-1), 0, []) : zm_E) := (congrArg (fun l => l[48]?) cd_160).trans rfl
theorem c_160_49 : (zm_cd 160)[49]? = some ((89, .ixor, 1, 0, 0, 0, 0, 0, []) : zm_E) := (congrArg (fun l => l[49]?) cd_160).trans rfl
theorem c_160_50 : (zm_cd 160)[50]? = some ((90, .iand, 1, 0, 0, 0, 0, 0, []) : zm_E) := (congrArg (fun l => l[50]?) cd_160).trans rfl
theorem c_160_51 : (zm_cd 160)[51]? = some ((91, .invokevirtual 87, 3, 161, 3, 0, 0, 0, [4]) : zm_E) := (congrArg (fun l => l[51]?) cd_160).trans rfl
theorem c_160_52 : (zm_cd 160)[52]? = some ((94, .iinc 3 1, 3, 3, 0, 0, 1, 0, []) : zm_E) := (congrArg (fun l => l[52]?) cd_160).trans rfl
theorem c_160_53 : (zm_cd 160)[53]? = some ((97, .goto (-64), 3, 19, 0, 0, 0, 0, []) : zm_E) := (congrArg (fun l => l[53]?) cd_160).trans rfl
theorem c_160_54 : (zm_cd 160)[54]? = some ((100, .aload_n 0, 1, 0, 0, 0, 0, 0, []) : zm_E) := (congrArg (fun l => l[54]?) cd_160).trans rfl
theorem c_160_55 : (zm_cd 160)[55]? = some ((101, .getfield 24, 3, 4, 5, 1, 0, 0, []) : zm_E) := (congrArg (fun l => l[55]?) cd_160).trans rfl
theorem c_160_56 : (zm_cd 160)[56]? = some ((104, .iload_n 1, 1, 1, 0, 0, 0, 0, []) : zm_E) := (congrArg (fun l => l[56]?) cd_160).trans rfl
theorem c_160_57 : (zm_cd 160)[57]? = some ((105, .invokestatic 83, 3, 209, 2, 1, 1, 0, []) : zm_E) := (congrArg (fun l => l[57]?) cd_160).trans rfl
theorem c_160_58 : (zm_cd 160)[58]? = some ((108, .ireturn, 1, 0, 0, 0, 0, 0, []) : zm_E) := (congrArg (fun l => l[58]?) cd_160).trans rfl
theorem cd_161 : zm_cd 161 = zd_161 := rfl
theorem ml_161 : zm_ml 161 = 6 := rfl
theorem ht_161 : zm_ht 161 = [] := rfl
theorem c_161_0 : (zm_cd 161)[0]? = some ((0, .iconst 0, 1, 0, 0, 0, 0, 0, []) : zm_E) := (congrArg (fun l => l[0]?) cd_161).trans rfl
theorem c_161_1 : (zm_cd 161)[1]? = some ((1, .istore 4, 2, 4, 0, 0, 0, 0, []) : zm_E) := (congrArg (fun l => l[1]?) cd_161).trans rfl
theorem c_161_2 : (zm_cd 161)[2]? = some ((3, .iload 4, 2, 4, 0, 0, 0, 0, []) : zm_E) := (congrArg (fun l => l[2]?) cd_161).trans rfl
theorem c_161_3 : (zm_cd 161)[3]? = some ((5, .bipush 7, 2, 0, 0, 0, 7, 0, []) : zm_E) := (congrArg (fun l => l[3]?) cd_161).trans rfl
theorem c_161_4 : (zm_cd 161)[4]? = some ((7, .if_icmp .ge 47, 3, 26, 0, 0, 0, 0, []) : zm_E) := (congrArg (fun l => l[4]?) cd_161).trans rfl
theorem c_161_5 : (zm_cd 161)[5]? = some ((10, .iload_n 3, 1, 3, 0, 0, 0, 0, []) : zm_E) := (congrArg (fun l => l[5]?) cd_161).trans rfl
theorem c_161_6 : (zm_cd 161)[6]? = some ((11, .iload 4, 2, 4, 0, 0, 0, 0, []) : zm_E) := (congrArg (fun l => l[6]?) cd_161).trans rfl
theorem c_161_7 : (zm_cd 161)[7]? = some ((13, .invokestatic 79, 3, 37, 2, 1, 1, 0, []) : zm_E) := (congrArg (fun l => l[7]?) cd_161).trans rfl
theorem c_161_8 : (zm_cd 161)[8]? = some ((16, .ifCond .eq 32, 3, 24, 0, 0, 0, 0, []) : zm_E) := (congrArg (fun l => l[8]?) cd_161).trans rfl
theorem c_161_9 : (zm_cd 161)[9]? = some ((19, .iload_n 1, 1, 1, 0, 0, 0, 0, []) : zm_E) := (congrArg (fun l => l[9]?) cd_161).trans rfl
theorem c_161_10 : (zm_cd 161)[10]? = some ((20, .iload 4, 2, 4, 0, 0, 0, 0, []) : zm_E) := (congrArg (fun l => l[10]?) cd_161).trans rfl
theorem c_161_11 : (zm_cd 161)[11]? = some ((22, .invokestatic 69, 3, 36, 1, 1, 1, 0, []) : zm_E) := (congrArg (fun l => l[11]?) cd_161).trans rfl
theorem c_161_12 : (zm_cd 161)[12]? = some ((25, .ior, 1, 0, 0, 0, 0, 0, []) : zm_E) := (congrArg (fun l => l[12]?) cd_161).trans rfl
theorem c_161_13 : (zm_cd 161)[13]? = some ((26, .istore 5, 2, 5, 0, 0, 0, 0, []) : zm_E) := (congrArg (fun l => l[13]?) cd_161).trans rfl
theorem c_161_14 : (zm_cd 161)[14]? = some ((28, .aload_n 0, 1, 0, 0, 0, 0, 0, []) : zm_E) := (congrArg (fun l => l[14]?) cd_161).trans rfl
theorem c_161_15 : (zm_cd 161)[15]? = some ((29, .getfield 24, 3, 4, 5, 1, 0, 0, []) : zm_E) := (congrArg (fun l => l[15]?) cd_161).trans rfl
theorem c_161_16 : (zm_cd 161)[16]? = some ((32, .iload 5, 2, 5, 0, 0, 0, 0, []) : zm_E) := (congrArg (fun l => l[16]?) cd_161).trans rfl
theorem c_161_17 : (zm_cd 161)[17]? = some ((34, .aload_n 0, 1, 0, 0, 0, 0, 0, []) : zm_E) := (congrArg (fun l => l[17]?) cd_161).trans rfl
theorem c_161_18 : (zm_cd 161)[18]? = some ((35, .getfield 24, 3, 4, 5, 1, 0, 0, []) : zm_E) := (congrArg (fun l => l[18]?) cd_161).trans rfl
theorem c_161_19 : (zm_cd 161)[19]? = some ((38, .iload 5, 2, 5, 0, 0, 0, 0, []) : zm_E) := (congrArg (fun l => l[19]?) cd_161).trans rfl
theorem c_161_20 : (zm_cd 161)[20]? = some ((40, .invokestatic 83, 3, 209, 2, 1, 1, 0, []) : zm_E) := (congrArg (fun l => l[20]?) cd_161).trans rfl
theorem c_161_21 : (zm_cd 161)[21]? = some ((43, .iload_n 2, 1, 2, 0, 0, 0, 0, []) : zm_E) := (congrArg (fun l => l[21]?) cd_161).trans rfl
theorem c_161_22 : (zm_cd 161)[22]? = some ((44, .iadd, 1, 0, 0, 0, 0, 0, []) : zm_E) := (congrArg (fun l => l[22]?) cd_161).trans rfl
theorem c_161_23 : (zm_cd 161)[23]? = some ((45, .invokestatic 72, 3, 210, 3, 0, 1, 0, []) : zm_E) := (congrArg (fun l => l[23]?) cd_161).trans rfl
theorem c_161_24 : (zm_cd 161)[24]? = some ((48, .iinc 4 1, 3, 4, 0, 0, 1, 0, []) : zm_E) := (congrArg (fun l => l[24]?) cd_161).trans rfl
theorem c_161_25 : (zm_cd 161)[25]? = some ((51, .goto (-48), 3, 2, 0, 0, 0, 0, []) : zm_E) := (congrArg (fun l => l[25]?) cd_161).trans rfl
theorem c_161_26 : (zm_cd 161)[26]? = some ((54, .return_, 1, 0, 0, 0, 0, 0, []) : zm_E) := (congrArg (fun l => l[26]?) cd_161).trans rfl
theorem cd_162 : zm_cd 162 = zd_162 := rfl
theorem ml_162 : zm_ml 162 = 6 := rfl
theorem ht_162 : zm_ht 162 = [] := rfl
theorem c_162_0 : (zm_cd 162)[0]? = some ((0, .aload_n 1, 1, 1, 0, 0, 0, 0, []) : zm_E) := (congrArg (fun l => l[0]?) cd_162).trans rfl
theorem c_162_1 : (zm_cd 162)[1]? = some ((1, .aload_n 1, 1, 1, 0, 0, 0, 0, []) : zm_E) := (congrArg (fun l => l[1]?) cd_162).trans rfl
theorem c_162_2 : (zm_cd 162)[2]? = some ((2, .invokevirtual 55, 3, 118, 0, 1, 0, 0, [1]) : zm_E) := (congrArg (fun l => l[2]?) cd_162).trans rfl
theorem c_162_3 : (zm_cd 162)[3]? = some ((5, .invokevirtual 58, 3, 126, 1, 1, 0, 0, [1]) : zm_E) := (congrArg (fun l => l[3]?) cd_162).trans rfl
theorem c_162_4 : (zm_cd 162)[4]? = some ((8, .istore_n 2, 1, 2, 0, 0, 0, 0, []) : zm_E) := (congrArg (fun l => l[4]?) cd_162).trans rfl
theorem c_162_5 : (zm_cd 162)[5]? = some ((9, .aload_n 0, 1, 0, 0, 0, 0, 0, []) : zm_E) := (congrArg (fun l => l[5]?) cd_162).trans rfl
theorem c_162_6 : (zm_cd 162)[6]? = some ((10, .aload_n 1, 1, 1, 0, 0, 0, 0, []) : zm_E) := (congrArg (fun l => l[6]?) cd_162).trans rfl
theorem c_162_7 : (zm_cd 162)[7]? = some ((11, .aload_n 1, 1, 1, 0, 0, 0, 0, []) : zm_E) := (congrArg (fun l => l[7]?) cd_162).trans rfl
theorem c_162_8 : (zm_cd 162)[8]? = some ((12, .invokevirtual 55, 3, 118, 0, 1, 0, 0, [1]) : zm_E) := (congrArg (fun l => l[8]?) cd_162).trans rfl
theorem c_162_9 : (zm_cd 162)[9]? = some ((15, .invokevirtual 47, 3, 159, 2, 0, 0, 0, [4]) : zm_E) := (congrArg (fun l => l[9]?) cd_162).trans rfl
theorem c_162_10 : (zm_cd 162)[10]? = some ((18, .aload_n 0, 1, 0, 0, 0, 0, 0, []) : zm_E) := (congrArg (fun l => l[10]?) cd_162).trans rfl
theorem c_162_11 : (zm_cd 162)[11]? = some ((19, .getfield 24, 3, 4, 5, 1, 0, 0, []) : zm_E) := (congrArg (fun l => l[11]?) cd_162).trans rfl
theorem c_162_12 : (zm_cd 162)[12]? = some ((22, .iload_n 2, 1, 2, 0, 0, 0, 0, []) : zm_E) := (congrArg (fun l => l[12]?) cd_162).trans rfl
theorem c_162_13 : (zm_cd 162)[13]? = some ((23, .iconst 0, 1, 0, 0, 0, 0, 0, []) : zm_E) := (congrArg (fun l => l[13]?) cd_162).trans rfl
theorem c_162_14 : (zm_cd 162)[14]? = some ((24, .invokestatic 72, 3, 210, 3, 0, 1, 0, []) : zm_E) := (congrArg (fun l => l[14]?) cd_162).trans rfl
theorem c_162_15 : (zm_cd 162)[15]? = some ((27, .iload_n 2, 1, 2, 0, 0, 0, 0, []) : zm_E) := (congrArg (fun l => l[15]?) cd_162).trans rfl
theorem c_162_16 : (zm_cd 162)[16]? = some ((28, .iconst 1, 1, 0, 0, 0, 1, 0, []) : zm_E) := (congrArg (fun l => l[16]?) cd_162).trans rfl
theorem c_162_17 : (zm_cd 162)[17]? = some ((29, .isub, 1, 0, 0, 0, 0, 0, []) : zm_E) := (congrArg (fun l => l[17]?) cd_162).trans rfl
theorem c_162_18 : (zm_cd 162)[18]? = some ((30, .istore_n 3, 1, 3, 0, 0, 0, 0, []) : zm_E) := (congrArg (fun l => l[18]?) cd_162).trans rfl
theorem c_162_19 : (zm_cd 162)[19]? = some ((31, .iload_n 3, 1, 3, 0, 0, 0, 0, []) : zm_E) := (congrArg (fun l => l[19]?) cd_162).trans rfl
theorem c_162_20 : (zm_cd 162)[20]? = some ((32, .ifCond .lt 68, 3, 56, 0, 0, 0, 0, []) : zm_E) := (congrArg (fun l => l[20]?) cd_162).trans rfl
theorem c_162_21 : (zm_cd 162)[21]? = some ((35, .iload_n 3, 1, 3, 0, 0, 0, 0, []) : zm_E) := (congrArg (fun l => l[21]?) cd_162).trans rfl
theorem c_162_22 : (zm_cd 162)[22]? = some ((36, .invokestatic 37, 3, 207, 1, 1, 0, 0, []) : zm_E) := (congrArg (fun l => l[22]?) cd_162).trans rfl
theorem c_162_23 : (zm_cd 162)[23]? = some ((39, .istore 4, 2, 4, 0, 0, 0, 0, []) : zm_E) := (congrArg (fun l => l[23]?) cd_162).trans rfl
theorem c_162_24 : (zm_cd 162)[24]? = some ((41, .iload_n 3, 1, 3, 0, 0, 0, 0, []) : zm_E) := (congrArg (fun l => l[24]?) cd_162).trans rfl
theorem c_162_25 : (zm_cd 162)[25]? = some ((42, .iload_n 2, 1, 2, 0, 0, 0, 0, []) : zm_E) := (congrArg (fun l => l[25]?) cd_162).trans rfl
theorem c_162_26 : (zm_cd 162)[26]? = some ((43, .iconst (-1), 1, 0, 0, 0, (-1), 0, []) : zm_E) := (congrArg (fun l => l[26]?) cd_162).trans rfl
theorem c_162_27 : (zm_cd 162)[27]? = some ((44, .ixor, 1, 0, 0, 0, 0, 0, []) : zm_E) := (congrArg (fun l => l[27]?) cd_162).trans rfl
theorem c_162_28 : (zm_cd 162)[28]? = some ((45, .iand, 1, 0, 0, 0, 0, 0, []) : zm_E) := (congrArg (fun l => l[28]?) cd_162).trans rfl
theorem c_162_29 : (zm_cd 162)[29]? = some ((46, .ifCond .ne 48, 3, 54, 0, 0, 0, 0, []) : zm_E) := (congrArg (fun l => l[29]?) cd_162).trans rfl
theorem c_162_30 : (zm_cd 162)[30]? = some ((49, .iload 4, 2, 4, 0, 0, 0, 0, []) : zm_E) := (congrArg (fun l => l[30]?) cd_162).trans rfl
theorem c_162_31 : (zm_cd 162)[31]? = some ((51, .aload_n 0, 1, 0, 0, 0, 0, 0, []) : zm_E) := (congrArg (fun l => l[31]?) cd_162).trans rfl
theorem c_162_32 : (zm_cd 162)[32]? = some ((52, .getfield 76, 3, 4, 4, 0, 0, 0, []) : zm_E) := (congrArg (fun l => l[32]?) cd_162).trans rfl
theorem c_162_33 : (zm_cd 162)[33]? = some ((55, .if_icmp .ge 39, 3, 54, 0, 0, 0, 0, []) : zm_E) := (congrArg (fun l => l[33]?) cd_162).trans rfl
theorem c_162_34 : (zm_cd 162)[34]? = some ((58, .aload_n 0, 1, 0, 0, 0, 0, 0, []) : zm_E) := (congrArg (fun l => l[34]?) cd_162).trans rfl
theorem c_162_35 : (zm_cd 162)[35]? = some ((59, .getfield 21, 3, 4, 3, 1, 0, 0, []) : zm_E) := (congrArg (fun l => l[35]?) cd_162).trans rfl
theorem c_162_36 : (zm_cd 162)[36]? = some ((62, .iload 4, 2, 4, 0, 0, 0, 0, []) : zm_E) := (congrArg (fun l => l[36]?) cd_162).trans rfl
theorem c_162_37 : (zm_cd 162)[37]? = some ((64, .invokestatic 83, 3, 209, 2, 1, 1, 0, []) : zm_E) := (congrArg (fun l => l[37]?) cd_162).trans rfl
theorem c_162_38 : (zm_cd 162)[38]? = some ((67, .istore 5, 2, 5, 0, 0, 0, 0, []) : zm_E) := (congrArg (fun l => l[38]?) cd_162).trans rfl
theorem c_162_39 : (zm_cd 162)[39]? = some ((69, .aload_n 0, 1, 0, 0, 0, 0, 0, []) : zm_E) := (congrArg (fun l => l[39]?) cd_162).trans rfl
theorem c_162_40 : (zm_cd 162)[40]? = some ((70, .getfield 24, 3, 4, 5, 1, 0, 0, []) : zm_E) := (congrArg (fun l => l[40]?) cd_162).trans rfl
theorem c_162_41 : (zm_cd 162)[41]? = some ((73, .iload_n 3, 1, 3, 0, 0, 0, 0, []) : zm_E) := (congrArg (fun l => l[41]?) cd_162).trans rfl
theorem c_162_42 : (zm_cd 162)[42]? = some ((74, .aload_n 0, 1, 0, 0, 0, 0, 0, []) : zm_E) := (congrArg (fun l => l[42]?) cd_162).trans rfl
theorem c_162_43 : (zm_cd 162)[43]? = some ((75, .aload_n 1, 1, 1, 0, 0, 0, 0, []) : zm_E) := (congrArg (fun l => l[43]?) cd_162).trans rfl
theorem c_162_44 : (zm_cd 162)[44]? = some ((76, .iload 5, 2, 5, 0, 0, 0, 0, []) : zm_E) := (congrArg (fun l => l[44]?) cd_162).trans rfl
theorem c_162_45 : (zm_cd 162)[45]? = some ((78, .iload_n 3, 1, 3, 0, 0, 0, 0, []) : zm_E) := (congrArg (fun l => l[45]?) cd_162).trans rfl
theorem c_162_46 : (zm_cd 162)[46]? = some ((79, .aload_n 0, 1, 0, 0, 0, 0, 0, []) : zm_E) := (congrArg (fun l => l[46]?) cd_162).trans rfl
theorem c_162_47 : (zm_cd 162)[47]? = some ((80, .aload_n 1, 1, 1, 0, 0, 0, 0, []) : zm_E) := (congrArg (fun l => l[47]?) cd_162).trans rfl
theorem c_162_48 : (zm_cd 162)[48]? = some ((81, .iload 5, 2, 5, 0, 0, 0, 0, []) : zm_E) := (congrArg (fun l => l[48]?) cd_162).trans rfl
theorem c_162_49 : (zm_cd 162)[49]? = some ((83, .iload_n 3, 1, 3, 0, 0, 0, 0, []) : zm_E) := (congrArg (fun l => l[49]?) cd_162).trans rfl
theorem c_162_50 : (zm_cd 162)[50]? = some ((84, .iload_n 2, 1, 2, 0, 0, 0, 0, []) : zm_E) := (congrArg (fun l => l[50]?) cd_162).trans rfl
theorem c_162_51 : (zm_cd 162)[51]? = some ((85, .invokevirtual 91, 3, 164, 4, 1, 0, 0, [4]) : zm_E) := (congrArg (fun l => l[51]?) cd_162).trans rfl
theorem c_162_52 : (zm_cd 162)[52]? = some ((88, .invokevirtual 95, 3, 165, 4, 1, 0, 0, [4]) : zm_E) := (congrArg (fun l => l[52]?) cd_162).trans rfl
theorem c_162_53 : (zm_cd 162)[53]? = some ((91, .invokestatic 72, 3, 210, 3, 0, 1, 0, []) : zm_E) := (congrArg (fun l => l[53]?) cd_162).trans rfl
theorem c_162_54 : (zm_cd 162)[54]? = some ((94, .iinc 3 (-1), 3, 3, 0, 0, (-1), 0, []) : zm_E) := (congrArg (fun l => l[54]?) cd_162).trans rfl
theorem c_162_55 : (zm_cd 162)[55]? = some ((97, .goto (-66), 3, 19, 0, 0, 0, 0, []) : zm_E) := (congrArg (fun l => l[55]?) cd_162).trans rfl
theorem c_162_56 : (zm_cd 162)[56]? = some ((100, .aload_n 0, 1, 0, 0, 0, 0, 0, []) : zm_E) := (congrArg (fun l => l[56]?) cd_162).trans rfl
theorem c_162_57 : (zm_cd 162)[57]? = some ((101, .getfield 24, 3, 4, 5, 1, 0, 0, []) : zm_E) := (congrArg (fun l => l[57]?) cd_162).trans rfl
theorem c_162_58 : (zm_cd 162)[58]? = some ((104, .iconst 0, 1, 0, 0, 0, 0, 0, []) : zm_E) := (congrArg (fun l => l[58]?) cd_162).trans rfl
theorem c_162_59 : (zm_cd 162)[59]? = some ((105, .invokestatic 83, 3, 209, 2, 1, 1, 0, []) : zm_E) := (congrArg (fun l => l[59]?) cd_162).trans rfl
theorem c_162_60 : (zm_cd 162)[60]? = some ((108, .ireturn, 1, 0, 0, 0, 0, 0, []) : zm_E) := (congrArg (fun l => l[60]?) cd_162).trans rfl
theorem cd_163 : zm_cd 163 = zd_163 := rfl
theorem ml_163 : zm_ml 163 = 7 := rfl
theorem ht_163 : zm_ht 163 = [] := rfl
theorem c_163_0 : (zm_cd 163)[0]? = some ((0, .aload_n 0, 1, 0, 0, 0, 0, 0, []) : zm_E) := (congrArg (fun l => l[0]?) cd_163).trans rfl
theorem c_163_1 : (zm_cd 163)[1]? = some ((1, .aload_n 1, 1, 1, 0, 0, 0, 0, []) : zm_E) := (congrArg (fun l => l[1]?) cd_163).trans rfl
theorem c_163_2 : (zm_cd 163)[2]? = some ((2, .invokevirtual 98, 3, 162, 1, 1, 0, 0, [4]) : zm_E) := (congrArg (fun l => l[2]?) cd_163).trans rfl
theorem c_163_3 : (zm_cd 163)[3]? = some ((5, .pop, 1, 0, 0, 0, 0, 0, []) : zm_E) := (congrArg (fun l => l[3]?) cd_163).trans rfl
theorem c_163_4 : (zm_cd 163)[4]? = some ((6, .aload_n 1, 1, 1, 0, 0, 0, 0, []) : zm_E) := (congrArg (fun l => l[4]?) cd_163).trans rfl
theorem c_163_5 : (zm_cd 163)[5]? = some ((7, .aload_n 1, 1, 1, 0, 0, 0, 0, []) : zm_E) := (congrArg (fun l => l[5]?) cd_163).trans rfl
theorem c_163_6 : (zm_cd 163)[6]? = some ((8, .invokevirtual 55, 3, 118, 0, 1, 0, 0, [1]) : zm_E) := (congrArg (fun l => l[6]?) cd_163).trans rfl
theorem c_163_7 : (zm_cd 163)[7]? = some ((11, .invokevirtual 58, 3, 126, 1, 1, 0, 0, [1]) : zm_E) := (congrArg (fun l => l[7]?) cd_163).trans rfl
theorem c_163_8 : (zm_cd 163)[8]? = some ((14, .istore_n 3, 1, 3, 0, 0, 0, 0, []) : zm_E) := (congrArg (fun l => l[8]?) cd_163).trans rfl
theorem c_163_9 : (zm_cd 163)[9]? = some ((15, .iconst 0, 1, 0, 0, 0, 0, 0, []) : zm_E) := (congrArg (fun l => l[9]?) cd_163).trans rfl
theorem c_163_10 : (zm_cd 163)[10]? = some ((16, .istore 4, 2, 4, 0, 0, 0, 0, []) : zm_E) := (congrArg (fun l => l[10]?) cd_163).trans rfl
theorem c_163_11 : (zm_cd 163)[11]? = some ((18, .iconst 0, 1, 0, 0, 0, 0, 0, []) : zm_E) := (congrArg (fun l => l[11]?) cd_163).trans rfl
theorem c_163_12 : (zm_cd 163)[12]? = some ((19, .istore 5, 2, 5, 0, 0, 0, 0, []) : zm_E) := (congrArg (fun l => l[12]?) cd_163).trans rfl
theorem c_163_13 : (zm_cd 163)[13]? = some ((21, .iload 5, 2, 5, 0, 0, 0, 0, []) : zm_E) := (congrArg (fun l => l[13]?) cd_163).trans rfl
theorem c_163_14 : (zm_cd 163)[14]? = some ((23, .aload_n 0, 1, 0, 0, 0, 0, 0, []) : zm_E) := (congrArg (fun l => l[14]?) cd_163).trans rfl
theorem c_163_15 : (zm_cd 163)[15]? = some ((24, .getfield 76, 3, 4, 4, 0, 0, 0, []) : zm_E) := (congrArg (fun l => l[15]?) cd_163).trans rfl
theorem c_163_16 : (zm_cd 163)[16]? = some ((27, .if_icmp .ge 54, 3, 42, 0, 0, 0, 0, []) : zm_E) := (congrArg (fun l => l[16]?) cd_163).trans rfl
theorem c_163_17 : (zm_cd 163)[17]? = some ((30, .aload_n 0, 1, 0, 0, 0, 0, 0, []) : zm_E) := (congrArg (fun l => l[17]?) cd_163).trans rfl
theorem c_163_18 : (zm_cd 163)[18]? = some ((31, .aload_n 1, 1, 1, 0, 0, 0, 0, []) : zm_E) := (congrArg (fun l => l[18]?) cd_163).trans rfl
theorem c_163_19 : (zm_cd 163)[19]? = some ((32, .aload_n 0, 1, 0, 0, 0, 0, 0, []) : zm_E) := (congrArg (fun l => l[19]?) cd_163).trans rfl
theorem c_163_20 : (zm_cd 163)[20]? = some ((33, .getfield 21, 3, 4, 3, 1, 0, 0, []) : zm_E) := (congrArg (fun l => l[20]?) cd_163).trans rfl
theorem c_163_21 : (zm_cd 163)[21]? = some ((36, .iload 5, 2, 5, 0, 0, 0, 0, []) : zm_E) := (congrArg (fun l => l[21]?) cd_163).trans rfl
theorem c_163_22 : (zm_cd 163)[22]? = some ((38, .invokestatic 83, 3, 209, 2, 1, 1, 0, []) : zm_E) := (congrArg (fun l => l[22]?) cd_163).trans rfl
theorem c_163_23 : (zm_cd 163)[23]? = some ((41, .iload 4, 2, 4, 0, 0, 0, 0, []) : zm_E) := (congrArg (fun l => l[23]?) cd_163).trans rfl
theorem c_163_24 : (zm_cd 163)[24]? = some ((43, .iload_n 3, 1, 3, 0, 0, 0, 0, []) : zm_E) := (congrArg (fun l => l[24]?) cd_163).trans rfl
theorem c_163_25 : (zm_cd 163)[25]? = some ((44, .invokevirtual 91, 3, 164, 4, 1, 0, 0, [4]) : zm_E) := (congrArg (fun l => l[25]?) cd_163).trans rfl
theorem c_163_26 : (zm_cd 163)[26]? = some ((47, .istore 6, 2, 6, 0, 0, 0, 0, []) : zm_E) := (congrArg (fun l => l[26]?) cd_163).trans rfl
theorem c_163_27 : (zm_cd 163)[27]? = some ((49, .aload_n 0, 1, 0, 0, 0, 0, 0, []) : zm_E) := (congrArg (fun l => l[27]?) cd_163).trans rfl
theorem c_163_28 : (zm_cd 163)[28]? = some ((50, .getfield 21, 3, 4, 3, 1, 0, 0, []) : zm_E) := (congrArg (fun l => l[28]?) cd_163).trans rfl
theorem c_163_29 : (zm_cd 163)[29]? = some ((53, .iload 5, 2, 5, 0, 0, 0, 0, []) : zm_E) := (congrArg (fun l => l[29]?) cd_163).trans rfl
theorem c_163_30 : (zm_cd 163)[30]? = some ((55, .invokestatic 83, 3, 209, 2, 1, 1, 0, []) : zm_E) := (congrArg (fun l => l[30]?) cd_163).trans rfl
theorem c_163_31 : (zm_cd 163)[31]? = some ((58, .iload_n 2, 1, 2, 0, 0, 0, 0, []) : zm_E) := (congrArg (fun l => l[31]?) cd_163).trans rfl
theorem c_163_32 : (zm_cd 163)[32]? = some ((59, .if_icmp .ne 6, 3, 35, 0, 0, 0, 0, []) : zm_E) := (congrArg (fun l => l[32]?) cd_163).trans rfl
theorem c_163_33 : (zm_cd 163)[33]? = some ((62, .iload 6, 2, 6, 0, 0, 0, 0, []) : zm_E) := (congrArg (fun l => l[33]?) cd_163).trans rfl
theorem c_163_34 : (zm_cd 163)[34]? = some ((64, .ireturn, 1, 0, 0, 0, 0, 0, []) : zm_E) := (congrArg (fun l => l[34]?) cd_163).trans rfl
theorem c_163_35 : (zm_cd 163)[35]? = some ((65, .iload 4, 2, 4, 0, 0, 0, 0, []) : zm_E) := (congrArg (fun l => l[35]?) cd_163).trans rfl
theorem c_163_36 : (zm_cd 163)[36]? = some ((67, .iload 6, 2, 6, 0, 0, 0, 0, []) : zm_E) := (congrArg (fun l => l[36]?) cd_163).trans rfl
theorem c_163_37 : (zm_cd 163)[37]? = some ((69, .invokestatic 69, 3, 36, 1, 1, 1, 0, []) : zm_E) := (congrArg (fun l => l[37]?) cd_163).trans rfl
theorem c_163_38 : (zm_cd 163)[38]? = some ((72, .ior, 1, 0, 0, 0, 0, 0, []) : zm_E) := (congrArg (fun l => l[38]?) cd_163).trans rfl
theorem c_163_39 : (zm_cd 163)[39]? = some ((73, .istore 4, 2, 4, 0, 0, 0, 0, []) : zm_E) := (congrArg (fun l => l[39]?) cd_163).trans rfl
theorem c_163_40 : (zm_cd 163)[40]? = some ((75, .iinc 5 1, 3, 5, 0, 0, 1, 0, []) : zm_E) := (congrArg (fun l => l[40]?) cd_163).trans rfl
theorem c_163_41 : (zm_cd 163)[41]? = some ((78, .goto (-57), 3, 13, 0, 0, 0, 0, []) : zm_E) := (congrArg (fun l => l[41]?) cd_163).trans rfl
theorem c_163_42 : (zm_cd 163)[42]? = some ((81, .bipush (-9), 2, 0, 0, 0, (-9), 0, []) : zm_E) := (congrArg (fun l => l[42]?) cd_163).trans rfl
theorem c_163_43 : (zm_cd 163)[43]? = some ((83, .ireturn, 1, 0, 0, 0, 0, 0, []) : zm_E) := (congrArg (fun l => l[43]?) cd_163).trans rfl
theorem cd_164 : zm_cd 164 = zd_164 := rfl
theorem ml_164 : zm_ml 164 = 8 := rfl
theorem ht_164 : zm_ht 164 = [] := rfl
theorem c_164_0 : (zm_cd 164)[0]? = some ((0, .iload 4, 2, 4, 0, 0, 0, 0, []) : zm_E) := (congrArg (fun l => l[0]?) cd_164).trans rfl
theorem c_164_1 : (zm_cd 164)[1]? = some ((2, .iload_n 3, 1, 3, 0, 0, 0, 0, []) : zm_E) := (congrArg (fun l => l[1]?) cd_164).trans rfl
theorem c_164_2 : (zm_cd 164)[2]? = some ((3, .iconst (-1), 1, 0, 0, 0, (-1), 0, []) : zm_E) := (congrArg (fun l => l[2]?) cd_164).trans rfl
theorem c_164_3 : (zm_cd 164)[3]? = some ((4, .ixor, 1, 0, 0, 0, 0, 0, []) : zm_E) := (congrArg (fun l => l[3]?) cd_164).trans rfl
theorem c_164_4 : (zm_cd 164)[4]? = some ((5, .iand, 1, 0, 0, 0, 0, 0, []) : zm_E) := (congrArg (fun l => l[4]?) cd_164).trans rfl
theorem c_164_5 : (zm_cd 164)[5]? = some ((6, .istore 5, 2, 5, 0, 0, 0, 0, []) : zm_E) := (congrArg (fun l => l[5]?) cd_164).trans rfl
theorem c_164_6 : (zm_cd 164)[6]? = some ((8, .bipush (-9), 2, 0, 0, 0, (-9), 0, []) : zm_E) := (congrArg (fun l => l[6]?) cd_164).trans rfl
theorem c_164_7 : (zm_cd 164)[7]? = some ((10, .istore 6, 2, 6, 0, 0, 0, 0, []) : zm_E) := (congrArg (fun l => l[7]?) cd_164).trans rfl
theorem c_164_8 : (zm_cd 164)[8]? = some ((12, .iconst 0, 1, 0, 0, 0, 0, 0, []) : zm_E) := (congrArg (fun l => l[8]?) cd_164).trans rfl
theorem c_164_9 : (zm_cd 164)[9]? = some ((13, .istore 7, 2, 7, 0, 0, 0, 0, []) : zm_E) := (congrArg (fun l => l[9]?) cd_164).trans rfl
theorem c_164_10 : (zm_cd 164)[10]? = some ((15, .iload 7, 2, 7, 0, 0, 0, 0, []) : zm_E) := (congrArg (fun l => l[10]?) cd_164).trans rfl
theorem c_164_11 : (zm_cd 164)[11]? = some ((17, .aload_n 1, 1, 1, 0, 0, 0, 0, []) : zm_E) := (congrArg (fun l => l[11]?) cd_164).trans rfl
theorem c_164_12 : (zm_cd 164)[12]? = some ((18, .getfield 61, 3, 1, 0, 0, 0, 0, []) : zm_E) := (congrArg (fun l => l[12]?) cd_164).trans rfl
theorem c_164_13 : (zm_cd 164)[13]? = some ((21, .if_icmp .ge 51, 3, 38, 0, 0, 0, 0, []) : zm_E) := (congrArg (fun l => l[13]?) cd_164).trans rfl
theorem c_164_14 : (zm_cd 164)[14]? = some ((24, .iload 5, 2, 5, 0, 0, 0, 0, []) : zm_E) := (congrArg (fun l => l[14]?) cd_164).trans rfl
theorem c_164_15 : (zm_cd 164)[15]? = some ((26, .iload 7, 2, 7, 0, 0, 0, 0, []) : zm_E) := (congrArg (fun l => l[15]?) cd_164).trans rfl
theorem c_164_16 : (zm_cd 164)[16]? = some ((28, .invokestatic 79, 3, 37, 2, 1, 1, 0, []) : zm_E) := (congrArg (fun l => l[16]?) cd_164).trans rfl
theorem c_164_17 : (zm_cd 164)[17]? = some ((31, .ifCond .eq 35, 3, 36, 0, 0, 0, 0, []) : zm_E) := (congrArg (fun l => l[17]?) cd_164).trans rfl
theorem c_164_18 : (zm_cd 164)[18]? = some ((34, .iload 6, 2, 6, 0, 0, 0, 0, []) : zm_E) := (congrArg (fun l => l[18]?) cd_164).trans rfl
theorem c_164_19 : (zm_cd 164)[19]? = some ((36, .bipush (-9), 2, 0, 0, 0, (-9), 0, []) : zm_E) := (congrArg (fun l => l[19]?) cd_164).trans rfl
theorem c_164_20 : (zm_cd 164)[20]? = some ((38, .if_icmp .eq 24, 3, 34, 0, 0, 0, 0, []) : zm_E) := (congrArg (fun l => l[20]?) cd_164).trans rfl
theorem c_164_21 : (zm_cd 164)[21]? = some ((41, .aload_n 0, 1, 0, 0, 0, 0, 0, []) : zm_E) := (congrArg (fun l => l[21]?) cd_164).trans rfl
theorem c_164_22 : (zm_cd 164)[22]? = some ((42, .aload_n 1, 1, 1, 0, 0, 0, 0, []) : zm_E) := (congrArg (fun l => l[22]?) cd_164).trans rfl
theorem c_164_23 : (zm_cd 164)[23]? = some ((43, .iload_n 2, 1, 2, 0, 0, 0, 0, []) : zm_E) := (congrArg (fun l => l[23]?) cd_164).trans rfl
theorem c_164_24 : (zm_cd 164)[24]? = some ((44, .iload_n 3, 1, 3, 0, 0, 0, 0, []) : zm_E) := (congrArg (fun l => l[24]?) cd_164).trans rfl
theorem c_164_25 : (zm_cd 164)[25]? = some ((45, .iload 7, 2, 7, 0, 0, 0, 0, []) : zm_E) := (congrArg (fun l => l[25]?) cd_164).trans rfl
theorem c_164_26 : (zm_cd 164)[26]? = some ((47, .invokevirtual 95, 3, 165, 4, 1, 0, 0, [4]) : zm_E) := (congrArg (fun l => l[26]?) cd_164).trans rfl
theorem c_164_27 : (zm_cd 164)[27]? = some ((50, .aload_n 0, 1, 0, 0, 0, 0, 0, []) : zm_E) := (congrArg (fun l => l[27]?) cd_164).trans rfl
theorem c_164_28 : (zm_cd 164)[28]? = some ((51, .aload_n 1, 1, 1, 0, 0, 0, 0, []) : zm_E) := (congrArg (fun l => l[28]?) cd_164).trans rfl
theorem c_164_29 : (zm_cd 164)[29]? = some ((52, .iload_n 2, 1, 2, 0, 0, 0, 0, []) : zm_E) := (congrArg (fun l => l[29]?) cd_164).trans rfl
theorem c_164_30 : (zm_cd 164)[30]? = some ((53, .iload_n 3, 1, 3, 0, 0, 0, 0, []) : zm_E) := (congrArg (fun l => l[30]?) cd_164).trans rfl
theorem c_164_31 : (zm_cd 164)[31]? = some ((54, .iload 6, 2, 6, 0, 0, 0, 0, []) : zm_E) := (congrArg (fun l => l[31]?) cd_164).trans rfl
theorem c_164_32 : (zm_cd 164)[32]? = some ((56, .invokevirtual 95, 3, 165, 4, 1, 0, 0, [4]) : zm_E) := (congrArg (fun l => l[32]?) cd_164).trans rfl
theorem c_164_33 : (zm_cd 164)[33]? = some ((59, .if_icmp .ge 7, 3, 36, 0, 0, 0, 0, []) : zm_E) := (congrArg (fun l => l[33]?) cd_164).trans rfl
theorem c_164_34 : (zm_cd 164)[34]? = some ((62, .iload 7, 2, 7, 0, 0, 0, 0, []) : zm_E) := (congrArg (fun l => l[34]?) cd_164).trans rfl
theorem c_164_35 : (zm_cd 164)[35]? = some ((64, .istore 6, 2, 6, 0, 0, 0, 0, []) : zm_E) := (congrArg (fun l => l[35]?) cd_164).trans rfl
theorem c_164_36 : (zm_cd 164)[36]? = some ((66, .iinc 7 1, 3, 7, 0, 0, 1, 0, []) : zm_E) := (congrArg (fun l => l[36]?) cd_164).trans rfl
theorem c_164_37 : (zm_cd 164)[37]? = some ((69, .goto (-54), 3, 10, 0, 0, 0, 0, []) : zm_E) := (congrArg (fun l => l[37]?) cd_164).trans rfl
theorem c_164_38 : (zm_cd 164)[38]? = some ((72, .iload 6, 2, 6, 0, 0, 0, 0, []) : zm_E) := (congrArg (fun l => l[38]?) cd_164).trans rfl
theorem c_164_39 : (zm_cd 164)[39]? = some ((74, .ireturn, 1, 0, 0, 0, 0, 0, []) : zm_E) := (congrArg (fun l => l[39]?) cd_164).trans rfl
theorem cd_165 : zm_cd 165 = zd_165 := rfl
theorem ml_165 : zm_ml 165 = 5 := rfl
theorem ht_165 : zm_ht 165 = [] := rfl
theorem c_165_0 : (zm_cd 165)[0]? = some ((0, .aload_n 1, 1, 1, 0, 0, 0, 0, []) : zm_E) := (congrArg (fun l => l[0]?) cd_165).trans rfl
theorem c_165_1 : (zm_cd 165)[1]? = some ((1, .iload_n 2, 1, 2, 0, 0, 0, 0, []) : zm_E) := (congrArg (fun l => l[1]?) cd_165).trans rfl
theorem c_165_2 : (zm_cd 165)[2]? = some ((2, .iload 4, 2, 4, 0, 0, 0, 0, []) : zm_E) := (congrArg (fun l => l[2]?) cd_165).trans rfl
theorem c_165_3 : (zm_cd 165)[3]? = some ((4, .invokevirtual 102, 3, 121, 2, 1, 0, 0, [1]) : zm_E) := (congrArg (fun l => l[3]?) cd_165).trans rfl
theorem c_165_4 : (zm_cd 165)[4]? = some ((7, .aload_n 0, 1, 0, 0, 0, 0, 0, []) : zm_E) := (congrArg (fun l => l[4]?) cd_165).trans rfl
theorem c_165_5 : (zm_cd 165)[5]? = some ((8, .getfield 24, 3, 4, 5, 1, 0, 0, []) : zm_E) := (congrArg (fun l => l[5]?) cd_165).trans rfl
theorem c_165_6 : (zm_cd 165)[6]? = some ((11, .iload_n 3, 1, 3, 0, 0, 0, 0, []) : zm_E) := (congrArg (fun l => l[6]?) cd_165).trans rfl
theorem c_165_7 : (zm_cd 165)[7]? = some ((12, .iload 4, 2, 4, 0, 0, 0, 0, []) : zm_E) := (congrArg (fun l => l[7]?) cd_165).trans rfl
theorem c_165_8 : (zm_cd 165)[8]? = some ((14, .invokestatic 69, 3, 36, 1, 1, 1, 0, []) : zm_E) := (congrArg (fun l => l[8]?) cd_165).trans rfl
theorem c_165_9 : (zm_cd 165)[9]? = some ((17, .ior, 1, 0, 0, 0, 0, 0, []) : zm_E) := (congrArg (fun l => l[9]?) cd_165).trans rfl
theorem c_165_10 : (zm_cd 165)[10]? = some ((18, .invokestatic 83, 3, 209, 2, 1, 1, 0, []) : zm_E) := (congrArg (fun l => l[10]?) cd_165).trans rfl
theorem c_165_11 : (zm_cd 165)[11]? = some ((21, .iadd, 1, 0, 0, 0, 0, 0, []) : zm_E) := (congrArg (fun l => l[11]?) cd_165).trans rfl
theorem c_165_12 : (zm_cd 165)[12]? = some ((22, .ireturn, 1, 0, 0, 0, 0, 0, []) : zm_E) := (congrArg (fun l => l[12]?) cd_165).trans rfl
theorem cd_175 : zm_cd 175 = zd_175 := rfl
theorem ml_175 : zm_ml 175 = 4 := rfl
theorem ht_175 : zm_ht 175 = [] := rfl
theorem c_175_0 : (zm_cd 175)[0]? = some ((0, .aload_n 0, 1, 0, 0, 0, 0, 0, []) : zm_E) := (congrArg (fun l => l[0]?) cd_175).trans rfl
theorem c_175_1 : (zm_cd 175)[1]? = some ((1, .invokevirtual 33, 3, 179, 0, 0, 0, 0, [6]) : zm_E) := (congrArg (fun l => l[1]?) cd_175).trans rfl
theorem c_175_2 : (zm_cd 175)[2]? = some ((4, .iload_n 2, 1, 2, 0, 0, 0, 0, []) : zm_E) := (congrArg (fun l => l[2]?) cd_175).trans rfl
theorem c_175_3 : (zm_cd 175)[3]? = some ((5, .istore_n 3, 1, 3, 0, 0, 0, 0, []) : zm_E) := (congrArg (fun l => l[3]?) cd_175).trans rfl
theorem c_175_4 : (zm_cd 175)[4]? = some ((6, .iload_n 3, 1, 3, 0, 0, 0, 0, []) : zm_E) := (congrArg (fun l => l[4]?) cd_175).trans rfl
theorem c_175_5 : (zm_cd 175)[5]? = some ((7, .ifCond .eq 42, 3, 30, 0, 0, 0, 0, []) : zm_E) := (congrArg (fun l => l[5]?) cd_175).trans rfl
theorem c_175_6 : (zm_cd 175)[6]? = some ((10, .aload_n 0, 1, 0, 0, 0, 0, 0, []) : zm_E) := (congrArg (fun l => l[6]?) cd_175).trans rfl
theorem c_175_7 : (zm_cd 175)[7]? = some ((11, .getfield 36, 3, 6, 1, 0, 0, 0, []) : zm_E) := (congrArg (fun l => l[7]?) cd_175).trans rfl
theorem c_175_8 : (zm_cd 175)[8]? = some ((14, .bipush 7, 2, 0, 0, 0, 7, 0, []) : zm_E) := (congrArg (fun l => l[8]?) cd_175).trans rfl
theorem c_175_9 : (zm_cd 175)[9]? = some ((16, .if_icmp .ge 33, 3, 30, 0, 0, 0, 0, []) : zm_E) := (congrArg (fun l => l[9]?) cd_175).trans rfl
theorem c_175_10 : (zm_cd 175)[10]? = some ((19, .aload_n 0, 1, 0, 0, 0, 0, 0, []) : zm_E) := (congrArg (fun l => l[10]?) cd_175).trans rfl
theorem c_175_11 : (zm_cd 175)[11]? = some ((20, .aload_n 1, 1, 1, 0, 0, 0, 0, []) : zm_E) := (congrArg (fun l => l[11]?) cd_175).trans rfl
theorem c_175_12 : (zm_cd 175)[12]? = some ((21, .iload_n 3, 1, 3, 0, 0, 0, 0, []) : zm_E) := (congrArg (fun l => l[12]?) cd_175).trans rfl
theorem c_175_13 : (zm_cd 175)[13]? = some ((22, .invokevirtual 40, 3, 180, 2, 0, 0, 0, [6]) : zm_E) := (congrArg (fun l => l[13]?) cd_175).trans rfl
theorem c_175_14 : (zm_cd 175)[14]? = some ((25, .iload_n 3, 1, 3, 0, 0, 0, 0, []) : zm_E) := (congrArg (fun l => l[14]?) cd_175).trans rfl
theorem c_175_15 : (zm_cd 175)[15]? = some ((26, .aload_n 0, 1, 0, 0, 0, 0, 0, []) : zm_E) := (congrArg (fun l => l[15]?) cd_175).trans rfl
theorem c_175_16 : (zm_cd 175)[16]? = some ((27, .aload_n 1, 1, 1, 0, 0, 0, 0, []) : zm_E) := (congrArg (fun l => l[16]?) cd_175).trans rfl
theorem c_175_17 : (zm_cd 175)[17]? = some ((28, .iload_n 3, 1, 3, 0, 0, 0, 0, []) : zm_E) := (congrArg (fun l => l[17]?) cd_175).trans rfl
theorem c_175_18 : (zm_cd 175)[18]? = some ((29, .invokevirtual 44, 3, 182, 2, 1, 0, 0, [6]) : zm_E) := (congrArg (fun l => l[18]?) cd_175).trans rfl
theorem c_175_19 : (zm_cd 175)[19]? = some ((32, .iconst (-1), 1, 0, 0, 0, (-1), 0, []) : zm_E) := (congrArg (fun l => l[19]?) cd_175).trans rfl
theorem c_175_20 : (zm_cd 175)[20]? = some ((33, .ixor, 1, 0, 0, 0, 0, 0, []) : zm_E) := (congrArg (fun l => l[20]?) cd_175).trans rfl
theorem c_175_21 : (zm_cd 175)[21]? = some ((34, .iand, 1, 0, 0, 0, 0, 0, []) : zm_E) := (congrArg (fun l => l[21]?) cd_175).trans rfl
theorem c_175_22 : (zm_cd 175)[22]? = some ((35, .istore_n 3, 1, 3, 0, 0, 0, 0, []) : zm_E) := (congrArg (fun l => l[22]?) cd_175).trans rfl
theorem c_175_23 : (zm_cd 175)[23]? = some ((36, .aload_n 0, 1, 0, 0, 0, 0, 0, []) : zm_E) := (congrArg (fun l => l[23]?) cd_175).trans rfl
theorem c_175_24 : (zm_cd 175)[24]? = some ((37, .dup, 1, 0, 0, 0, 0, 0, []) : zm_E) := (congrArg (fun l => l[24]?) cd_175).trans rfl
theorem c_175_25 : (zm_cd 175)[25]? = some ((38, .getfield 36, 3, 6, 1, 0, 0, 0, []) : zm_E) := (congrArg (fun l => l[25]?) cd_175).trans rfl
theorem c_175_26 : (zm_cd 175)[26]? = some ((41, .iconst 1, 1, 0, 0, 0, 1, 0, []) : zm_E) := (congrArg (fun l => l[26]?) cd_175).trans rfl
theorem c_175_27 : (zm_cd 175)[27]? = some ((42, .iadd, 1, 0, 0, 0, 0, 0, []) : zm_E) := (congrArg (fun l => l[27]?) cd_175).trans rfl
theorem c_175_28 : (zm_cd 175)[28]? = some ((43, .putfield 36, 3, 6, 1, 0, 0, 0, []) : zm_E) := (congrArg (fun l => l[28]?) cd_175).trans rfl
theorem c_175_29 : (zm_cd 175)[29]? = some ((46, .goto (-40), 3, 4, 0, 0, 0, 0, []) : zm_E) := (congrArg (fun l => l[29]?) cd_175).trans rfl
theorem c_175_30 : (zm_cd 175)[30]? = some ((49, .return_, 1, 0, 0, 0, 0, 0, []) : zm_E) := (congrArg (fun l => l[30]?) cd_175).trans rfl
theorem cd_176 : zm_cd 176 = zd_176 := rfl
theorem ml_176 : zm_ml 176 = 2 := rfl
theorem ht_176 : zm_ht 176 = [] := rfl
theorem c_176_0 : (zm_cd 176)[0]? = some ((0, .iload_n 1, 1, 1, 0, 0, 0, 0, []) : zm_E) := (congrArg (fun l => l[0]?) cd_176).trans rfl
theorem c_176_1 : (zm_cd 176)[1]? = some ((1, .ifCond .lt 15, 3, 8, 0, 0, 0, 0, []) : zm_E) := (congrArg (fun l => l[1]?) cd_176).trans rfl
theorem c_176_2 : (zm_cd 176)[2]? = some ((4, .iload_n 1, 1, 1, 0, 0, 0, 0, []) : zm_E) := (congrArg (fun l => l[2]?) cd_176).trans rfl
theorem c_176_3 : (zm_cd 176)[3]? = some ((5, .aload_n 0, 1, 0, 0, 0, 0, 0, []) : zm_E) := (congrArg (fun l => l[3]?) cd_176).trans rfl
theorem c_176_4 : (zm_cd 176)[4]? = some ((6, .getfield 48, 3, 6, 0, 0, 0, 0, []) : zm_E) := (congrArg (fun l => l[4]?) cd_176).trans rfl
theorem c_176_5 : (zm_cd 176)[5]? = some ((9, .if_icmp .ge 7, 3, 8, 0, 0, 0, 0, []) : zm_E) := (congrArg (fun l => l[5]?) cd_176).trans rfl
theorem c_176_6 : (zm_cd 176)[6]? = some ((12, .iconst 1, 1, 0, 0, 0, 1, 0, []) : zm_E) := (congrArg (fun l => l[6]?) cd_176).trans rfl
theorem c_176_7 : (zm_cd 176)[7]? = some ((13, .goto 4, 3, 9, 0, 0, 0, 0, []) : zm_E) := (congrArg (fun l => l[7]?) cd_176).trans rfl
theorem c_176_8 : (zm_cd 176)[8]? = some ((16, .iconst 0, 1, 0, 0, 0, 0, 0, []) : zm_E) := (congrArg (fun l => l[8]?) cd_176).trans rfl
theorem c_176_9 : (zm_cd 176)[9]? = some ((17, .ireturn, 1, 1, 0, 0, 0, 0, []) : zm_E) := (congrArg (fun l => l[9]?) cd_176).trans rfl
theorem cd_177 : zm_cd 177 = zd_177 := rfl
theorem ml_177 : zm_ml 177 = 5 := rfl
theorem ht_177 : zm_ht 177 = [] := rfl
theorem c_177_0 : (zm_cd 177)[0]? = some ((0, .iconst 0, 1, 0, 0, 0, 0, 0, []) : zm_E) := (congrArg (fun l => l[0]?) cd_177).trans rfl
theorem c_177_1 : (zm_cd 177)[1]? = some ((1, .istore_n 2, 1, 2, 0, 0, 0, 0, []) : zm_E) := (congrArg (fun l => l[1]?) cd_177).trans rfl
theorem c_177_2 : (zm_cd 177)[2]? = some ((2, .iconst 0, 1, 0, 0, 0, 0, 0, []) : zm_E) := (congrArg (fun l => l[2]?) cd_177).trans rfl
theorem c_177_3 : (zm_cd 177)[3]? = some ((3, .istore_n 3, 1, 3, 0, 0, 0, 0, []) : zm_E) := (congrArg (fun l => l[3]?) cd_177).trans rfl
theorem c_177_4 : (zm_cd 177)[4]? = some ((4, .iload_n 3, 1, 3, 0, 0, 0, 0, []) : zm_E) := (congrArg (fun l => l[4]?) cd_177).trans rfl
theorem c_177_5 : (zm_cd 177)[5]? = some ((5, .aload_n 1, 1, 1, 0, 0, 0, 0, []) : zm_E) := (congrArg (fun l => l[5]?) cd_177).trans rfl
theorem c_177_6 : (zm_cd 177)[6]? = some ((6, .getfield 51, 3, 1, 0, 0, 0, 0, []) : zm_E) := (congrArg (fun l => l[6]?) cd_177).trans rfl
theorem c_177_7 : (zm_cd 177)[7]? = some ((9, .if_icmp .ge 42, 3, 25, 0, 0, 0, 0, []) : zm_E) := (congrArg (fun l => l[7]?) cd_177).trans rfl
theorem c_177_8 : (zm_cd 177)[8]? = some ((12, .aload_n 0, 1, 0, 0, 0, 0, 0, []) : zm_E) := (congrArg (fun l => l[8]?) cd_177).trans rfl
theorem c_177_9 : (zm_cd 177)[9]? = some ((13, .getfield 9, 3, 6, 2, 1, 0, 0, []) : zm_E) := (congrArg (fun l => l[9]?) cd_177).trans rfl
theorem c_177_10 : (zm_cd 177)[10]? = some ((16, .iload_n 3, 1, 3, 0, 0, 0, 0, []) : zm_E) := (congrArg (fun l => l[10]?) cd_177).trans rfl
theorem c_177_11 : (zm_cd 177)[11]? = some ((17, .invokestatic 56, 3, 209, 2, 1, 1, 0, []) : zm_E) := (congrArg (fun l => l[11]?) cd_177).trans rfl
theorem c_177_12 : (zm_cd 177)[12]? = some ((20, .istore 4, 2, 4, 0, 0, 0, 0, []) : zm_E) := (congrArg (fun l => l[12]?) cd_177).trans rfl
theorem c_177_13 : (zm_cd 177)[13]? = some ((22, .iload 4, 2, 4, 0, 0, 0, 0, []) : zm_E) := (congrArg (fun l => l[13]?) cd_177).trans rfl
theorem c_177_14 : (zm_cd 177)[14]? = some ((24, .bipush (-9), 2, 0, 0, 0, (-9), 0, []) : zm_E) := (congrArg (fun l => l[14]?) cd_177).trans rfl
theorem c_177_15 : (zm_cd 177)[15]? = some ((26, .if_icmp .eq 19, 3, 23, 0, 0, 0, 0, []) : zm_E) := (congrArg (fun l => l[15]?) cd_177).trans rfl
theorem c_177_16 : (zm_cd 177)[16]? = some ((29, .iload 4, 2, 4, 0, 0, 0, 0, []) : zm_E) := (congrArg (fun l => l[16]?) cd_177).trans rfl
theorem c_177_17 : (zm_cd 177)[17]? = some ((31, .aload_n 1, 1, 1, 0, 0, 0, 0, []) : zm_E) := (congrArg (fun l => l[17]?) cd_177).trans rfl
theorem c_177_18 : (zm_cd 177)[18]? = some ((32, .getfield 60, 3, 1, 3, 1, 0, 0, []) : zm_E) := (congrArg (fun l => l[18]?) cd_177).trans rfl
theorem c_177_19 : (zm_cd 177)[19]? = some ((35, .iload_n 3, 1, 3, 0, 0, 0, 0, []) : zm_E) := (congrArg (fun l => l[19]?) cd_177).trans rfl
theorem c_177_20 : (zm_cd 177)[20]? = some ((36, .invokestatic 56, 3, 209, 2, 1, 1, 0, []) : zm_E) := (congrArg (fun l => l[20]?) cd_177).trans rfl
theorem c_177_21 : (zm_cd 177)[21]? = some ((39, .if_icmp .eq 6, 3, 23, 0, 0, 0, 0, []) : zm_E) := (congrArg (fun l => l[21]?) cd_177).trans rfl
theorem c_177_22 : (zm_cd 177)[22]? = some ((42, .iinc 2 1, 3, 2, 0, 0, 1, 0, []) : zm_E) := (congrArg (fun l => l[22]?) cd_177).trans rfl
theorem c_177_23 : (zm_cd 177)[23]? = some ((45, .iinc 3 1, 3, 3, 0, 0, 1, 0, []) : zm_E) := (congrArg (fun l => l[23]?) cd_177).trans rfl
theorem c_177_24 : (zm_cd 177)[24]? = some ((48, .goto (-44), 3, 4, 0, 0, 0, 0, []) : zm_E) := (congrArg (fun l => l[24]?) cd_177).trans rfl
theorem c_177_25 : (zm_cd 177)[25]? = some ((51, .iload_n 2, 1, 2, 0, 0, 0, 0, []) : zm_E) := (congrArg (fun l => l[25]?) cd_177).trans rfl
theorem c_177_26 : (zm_cd 177)[26]? = some ((52, .ireturn, 1, 0, 0, 0, 0, 0, []) : zm_E) := (congrArg (fun l => l[26]?) cd_177).trans rfl
theorem cd_178 : zm_cd 178 = zd_178 := rfl
theorem ml_178 : zm_ml 178 = 5 := rfl
theorem ht_178 : zm_ht 178 = [] := rfl
theorem c_178_0 : (zm_cd 178)[0]? = some ((0, .iconst 0, 1, 0, 0, 0, 0, 0, []) : zm_E) := (congrArg (fun l => l[0]?) cd_178).trans rfl
theorem c_178_1 : (zm_cd 178)[1]? = some ((1, .istore_n 3, 1, 3, 0, 0, 0, 0, []) : zm_E) := (congrArg (fun l => l[1]?) cd_178).trans rfl
theorem c_178_2 : (zm_cd 178)[2]? = some ((2, .iconst 0, 1, 0, 0, 0, 0, 0, []) : zm_E) := (congrArg (fun l => l[2]?) cd_178).trans rfl
theorem c_178_3 : (zm_cd 178)[3]? = some ((3, .istore 4, 2, 4, 0, 0, 0, 0, []) : zm_E) := (congrArg (fun l => l[3]?) cd_178).trans rfl
theorem c_178_4 : (zm_cd 178)[4]? = some ((5, .iload 4, 2, 4, 0, 0, 0, 0, []) : zm_E) := (congrArg (fun l => l[4]?) cd_178).trans rfl
theorem c_178_5 : (zm_cd 178)[5]? = some ((7, .aload_n 1, 1, 1, 0, 0, 0, 0, []) : zm_E) := (congrArg (fun l => l[5]?) cd_178).trans rfl
theorem c_178_6 : (zm_cd 178)[6]? = some ((8, .getfield 51, 3, 1, 0, 0, 0, 0, []) : zm_E) := (congrArg (fun l => l[6]?) cd_178).trans rfl
theorem c_178_7 : (zm_cd 178)[7]? = some ((11, .if_icmp .ge 43, 3, 27, 0, 0, 0, 0, []) : zm_E) := (congrArg (fun l => l[7]?) cd_178).trans rfl
theorem c_178_8 : (zm_cd 178)[8]? = some ((14, .aload_n 0, 1, 0, 0, 0, 0, 0, []) : zm_E) := (congrArg (fun l => l[8]?) cd_178).trans rfl
theorem c_178_9 : (zm_cd 178)[9]? = some ((15, .getfield 24, 3, 6, 6, 1, 0, 0, []) : zm_E) := (congrArg (fun l => l[9]?) cd_178).trans rfl
theorem c_178_10 : (zm_cd 178)[10]? = some ((18, .iload_n 2, 1, 2, 0, 0, 0, 0, []) : zm_E) := (congrArg (fun l => l[10]?) cd_178).trans rfl
theorem c_178_11 : (zm_cd 178)[11]? = some ((19, .invokestatic 56, 3, 209, 2, 1, 1, 0, []) : zm_E) := (congrArg (fun l => l[11]?) cd_178).trans rfl
theorem c_178_12 : (zm_cd 178)[12]? = some ((22, .iload 4, 2, 4, 0, 0, 0, 0, []) : zm_E) := (congrArg (fun l => l[12]?) cd_178).trans rfl
theorem c_178_13 : (zm_cd 178)[13]? = some ((24, .invokestatic 63, 3, 37, 2, 1, 1, 0, []) : zm_E) := (congrArg (fun l => l[13]?) cd_178).trans rfl
theorem c_178_14 : (zm_cd 178)[14]? = some ((27, .ifCond .eq 21, 3, 25, 0, 0, 0, 0, []) : zm_E) := (congrArg (fun l => l[14]?) cd_178).trans rfl
theorem c_178_15 : (zm_cd 178)[15]? = some ((30, .iload_n 3, 1, 3, 0, 0, 0, 0, []) : zm_E) := (congrArg (fun l => l[15]?) cd_178).trans rfl
theorem c_178_16 : (zm_cd 178)[16]? = some ((31, .aload_n 1, 1, 1, 0, 0, 0, 0, []) : zm_E) := (congrArg (fun l => l[16]?) cd_178).trans rfl
theorem c_178_17 : (zm_cd 178)[17]? = some ((32, .iload 4, 2, 4, 0, 0, 0, 0, []) : zm_E) := (congrArg (fun l => l[17]?) cd_178).trans rfl
theorem c_178_18 : (zm_cd 178)[18]? = some ((34, .aload_n 0, 1, 0, 0, 0, 0, 0, []) : zm_E) := (congrArg (fun l => l[18]?) cd_178).trans rfl
theorem c_178_19 : (zm_cd 178)[19]? = some ((35, .getfield 9, 3, 6, 2, 1, 0, 0, []) : zm_E) := (congrArg (fun l => l[19]?) cd_178).trans rfl
theorem c_178_20 : (zm_cd 178)[20]? = some ((38, .iload 4, 2, 4, 0, 0, 0, 0, []) : zm_E) := (congrArg (fun l => l[20]?) cd_178).trans rfl
theorem c_178_21 : (zm_cd 178)[21]? = some ((40, .invokestatic 56, 3, 209, 2, 1, 1, 0, []) : zm_E) := (congrArg (fun l => l[21]?) cd_178).trans rfl
theorem c_178_22 : (zm_cd 178)[22]? = some ((43, .invokevirtual 67, 3, 124, 2, 1, 0, 0, [1]) : zm_E) := (congrArg (fun l => l[22]?) cd_178).trans rfl
theorem c_178_23 : (zm_cd 178)[23]? = some ((46, .isub, 1, 0, 0, 0, 0, 0, []) : zm_E) := (congrArg (fun l => l[23]?) cd_178).trans rfl
theorem c_178_24 : (zm_cd 178)[24]? = some ((47, .istore_n 3, 1, 3, 0, 0, 0, 0, []) : zm_E) := (congrArg (fun l => l[24]?) cd_178).trans rfl
theorem c_178_25 : (zm_cd 178)[25]? = some ((48, .iinc 4 1, 3, 4, 0, 0, 1, 0, []) : zm_E) := (congrArg (fun l => l[25]?) cd_178).trans rfl
theorem c_178_26 : (zm_cd 178)[26]? = some ((51, .goto (-46), 3, 4, 0, 0, 0, 0, []) : zm_E) := (congrArg (fun l => l[26]?) cd_178).trans rfl
theorem c_178_27 : (zm_cd 178)[27]? = some ((54, .iload_n 3, 1, 3, 0, 0, 0, 0, []) : zm_E) := (congrArg (fun l => l[27]?) cd_178).trans rfl
theorem c_178_28 : (zm_cd 178)[28]? = some ((55, .ireturn, 1, 0, 0, 0, 0, 0, []) : zm_E) := (congrArg (fun l => l[28]?) cd_178).trans rfl
theorem cd_179 : zm_cd 179 = zd_179 := rfl
theorem ml_179 : zm_ml 179 = 2 := rfl
theorem ht_179 : zm_ht 179 = [] := rfl
theorem c_179_0 : (zm_cd 179)[0]? = some ((0, .aload_n 0, 1, 0, 0, 0, 0, 0, []) : zm_E) := (congrArg (fun l => l[0]?) cd_179).trans rfl
theorem c_179_1 : (zm_cd 179)[1]? = some ((1, .iconst 0, 1, 0, 0, 0, 0, 0, []) : zm_E) := (congrArg (fun l => l[1]?) cd_179).trans rfl
theorem c_179_2 : (zm_cd 179)[2]? = some ((2, .putfield 48, 3, 6, 0, 0, 0, 0, []) : zm_E) := (congrArg (fun l => l[2]?) cd_179).trans rfl
theorem c_179_3 : (zm_cd 179)[3]? = some ((5, .aload_n 0, 1, 0, 0, 0, 0, 0, []) : zm_E) := (congrArg (fun l => l[3]?) cd_179).trans rfl
theorem c_179_4 : (zm_cd 179)[4]? = some ((6, .iconst 0, 1, 0, 0, 0, 0, 0, []) : zm_E) := (congrArg (fun l => l[4]?) cd_179).trans rfl
theorem c_179_5 : (zm_cd 179)[5]? = some ((7, .putfield 36, 3, 6, 1, 0, 0, 0, []) : zm_E) := (congrArg (fun l => l[5]?) cd_179).trans rfl
theorem c_179_6 : (zm_cd 179)[6]? = some ((10, .iconst 0, 1, 0, 0, 0, 0, 0, []) : zm_E) := (congrArg (fun l => l[6]?) cd_179).trans rfl
theorem c_179_7 : (zm_cd 179)[7]? = some ((11, .istore_n 1, 1, 1, 0, 0, 0, 0, []) : zm_E) := (congrArg (fun l => l[7]?) cd_179).trans rfl
theorem c_179_8 : (zm_cd 179)[8]? = some ((12, .iload_n 1, 1, 1, 0, 0, 0, 0, []) : zm_E) := (congrArg (fun l => l[8]?) cd_179).trans rfl
theorem c_179_9 : (zm_cd 179)[9]? = some ((13, .bipush 7, 2, 0, 0, 0, 7, 0, []) : zm_E) := (congrArg (fun l => l[9]?) cd_179).trans rfl
theorem c_179_10 : (zm_cd 179)[10]? = some ((15, .if_icmp .ge 49, 3, 33, 0, 0, 0, 0, []) : zm_E) := (congrArg (fun l => l[10]?) cd_179).trans rfl
theorem c_179_11 : (zm_cd 179)[11]? = some ((18, .aload_n 0, 1, 0, 0, 0, 0, 0, []) : zm_E) := (congrArg (fun l => l[11]?) cd_179).trans rfl
theorem c_179_12 : (zm_cd 179)[12]? = some ((19, .getfield 9, 3, 6, 2, 1, 0, 0, []) : zm_E) := (congrArg (fun l => l[12]?) cd_179).trans rfl
theorem c_179_13 : (zm_cd 179)[13]? = some ((22, .iload_n 1, 1, 1, 0, 0, 0, 0, []) : zm_E) := (congrArg (fun l => l[13]?) cd_179).trans rfl
theorem c_179_14 : (zm_cd 179)[14]? = some ((23, .bipush (-9), 2, 0, 0, 0, (-9), 0, []) : zm_E) := (congrArg (fun l => l[14]?) cd_179).trans rfl
theorem c_179_15 : (zm_cd 179)[15]? = some ((25, .invokestatic 71, 3, 210, 3, 0, 1, 0, []) : zm_E) := (congrArg (fun l => l[15]?) cd_179).trans rfl
theorem c_179_16 : (zm_cd 179)[16]? = some ((28, .aload_n 0, 1, 0, 0, 0, 0, 0, []) : zm_E) := (congrArg (fun l => l[16]?) cd_179).trans rfl
theorem c_179_17 : (zm_cd 179)[17]? = some ((29, .getfield 15, 3, 6, 3, 1, 0, 0, []) : zm_E) := (congrArg (fun l => l[17]?) cd_179).trans rfl
theorem c_179_18 : (zm_cd 179)[18]? = some ((32, .iload_n 1, 1, 1, 0, 0, 0, 0, []) : zm_E) := (congrArg (fun l => l[18]?) cd_179).trans rfl
theorem c_179_19 : (zm_cd 179)[19]? = some ((33, .bipush (-9), 2, 0, 0, 0, (-9), 0, []) : zm_E) := (congrArg (fun l => l[19]?) cd_179).trans rfl
theorem c_179_20 : (zm_cd 179)[20]? = some ((35, .invokestatic 71, 3, 210, 3, 0, 1, 0, []) : zm_E) := (congrArg (fun l => l[20]?) cd_179).trans rfl
theorem c_179_21 : (zm_cd 179)[21]? = some ((38, .aload_n 0, 1, 0, 0, 0, 0, 0, []) : zm_E) := (congrArg (fun l => l[21]?) cd_179).trans rfl
theorem c_179_22 : (zm_cd 179)[22]? = some ((39, .getfield 18, 3, 6, 4, 1, 0, 0, []) : zm_E) := (congrArg (fun l => l[22]?) cd_179).trans rfl
theorem c_179_23 : (zm_cd 179)[23]? = some ((42, .iload_n 1, 1, 1, 0, 0, 0, 0, []) : zm_E) := (congrArg (fun l => l[23]?) cd_179).trans rfl
theorem c_179_24 : (zm_cd 179)[24]? = some ((43, .bipush (-9), 2, 0, 0, 0, (-9), 0, []) : zm_E) := (congrArg (fun l => l[24]?) cd_179).trans rfl
theorem c_179_25 : (zm_cd 179)[25]? = some ((45, .invokestatic 71, 3, 210, 3, 0, 1, 0, []) : zm_E) := (congrArg (fun l => l[25]?) cd_179).trans rfl
theorem c_179_26 : (zm_cd 179)[26]? = some ((48, .aload_n 0, 1, 0, 0, 0, 0, 0, []) : zm_E) := (congrArg (fun l => l[26]?) cd_179).trans rfl
theorem c_179_27 : (zm_cd 179)[27]? = some ((49, .getfield 21, 3, 6, 5, 1, 0, 0, []) : zm_E) := (congrArg (fun l => l[27]?) cd_179).trans rfl
theorem c_179_28 : (zm_cd 179)[28]? = some ((52, .iload_n 1, 1, 1, 0, 0, 0, 0, []) : zm_E) := (congrArg (fun l => l[28]?) cd_179).trans rfl
theorem c_179_29 : (zm_cd 179)[29]? = some ((53, .bipush (-9), 2, 0, 0, 0, (-9), 0, []) : zm_E) := (congrArg (fun l => l[29]?) cd_179).trans rfl
theorem c_179_30 : (zm_cd 179)[30]? = some ((55, .invokestatic 71, 3, 210, 3, 0, 1, 0, []) : zm_E) := (congrArg (fun l => l[30]?) cd_179).trans rfl
theorem c_179_31 : (zm_cd 179)[31]? = some ((58, .iinc 1 1, 3, 1, 0, 0, 1, 0, []) : zm_E) := (congrArg (fun l => l[31]?) cd_179).trans rfl
theorem c_179_32 : (zm_cd 179)[32]? = some ((61, .goto (-49), 3, 8, 0, 0, 0, 0, []) : zm_E) := (congrArg (fun l => l[32]?) cd_179).trans rfl
theorem c_179_33 : (zm_cd 179)[33]? = some ((64, .return_, 1, 0, 0, 0, 0, 0, []) : zm_E) := (congrArg (fun l => l[33]?) cd_179).trans rfl
theorem cd_180 : zm_cd 180 = zd_180 := rfl
theorem ml_180 : zm_ml 180 = 5 := rfl
theorem ht_180 : zm_ht 180 = [] := rfl
theorem c_180_0 : (zm_cd 180)[0]? = some ((0, .iconst 0, 1, 0, 0, 0, 0, 0, []) : zm_E) := (congrArg (fun l => l[0]?) cd_180).trans rfl
theorem c_180_1 : (zm_cd 180)[1]? = some ((1, .istore_n 3, 1, 3, 0, 0, 0, 0, []) : zm_E) := (congrArg (fun l => l[1]?) cd_180).trans rfl
theorem c_180_2 : (zm_cd 180)[2]? = some ((2, .iload_n 3, 1, 3, 0, 0, 0, 0, []) : zm_E) := (congrArg (fun l => l[2]?) cd_180).trans rfl
theorem c_180_3 : (zm_cd 180)[3]? = some ((3, .aload_n 1, 1, 1, 0, 0, 0, 0, []) : zm_E) := (congrArg (fun l => l[3]?) cd_180).trans rfl
theorem c_180_4 : (zm_cd 180)[4]? = some ((4, .getfield 51, 3, 1, 0, 0, 0, 0, []) : zm_E) := (congrArg (fun l => l[4]?) cd_180).trans rfl
theorem c_180_5 : (zm_cd 180)[5]? = some ((7, .if_icmp .ge 52, 3, 30, 0, 0, 0, 0, []) : zm_E) := (congrArg (fun l => l[5]?) cd_180).trans rfl
theorem c_180_6 : (zm_cd 180)[6]? = some ((10, .iload_n 2, 1, 2, 0, 0, 0, 0, []) : zm_E) := (congrArg (fun l => l[6]?) cd_180).trans rfl
theorem c_180_7 : (zm_cd 180)[7]? = some ((11, .iload_n 3, 1, 3, 0, 0, 0, 0, []) : zm_E) := (congrArg (fun l => l[7]?) cd_180).trans rfl
theorem c_180_8 : (zm_cd 180)[8]? = some ((12, .invokestatic 63, 3, 37, 2, 1, 1, 0, []) : zm_E) := (congrArg (fun l => l[8]?) cd_180).trans rfl
theorem c_180_9 : (zm_cd 180)[9]? = some ((15, .ifCond .eq 38, 3, 28, 0, 0, 0, 0, []) : zm_E) := (congrArg (fun l => l[9]?) cd_180).trans rfl
theorem c_180_10 : (zm_cd 180)[10]? = some ((18, .aload_n 1, 1, 1, 0, 0, 0, 0, []) : zm_E) := (congrArg (fun l => l[10]?) cd_180).trans rfl
theorem c_180_11 : (zm_cd 180)[11]? = some ((19, .iload_n 3, 1, 3, 0, 0, 0, 0, []) : zm_E) := (congrArg (fun l => l[11]?) cd_180).trans rfl
theorem c_180_12 : (zm_cd 180)[12]? = some ((20, .iload_n 2, 1, 2, 0, 0, 0, 0, []) : zm_E) := (congrArg (fun l => l[12]?) cd_180).trans rfl
theorem c_180_13 : (zm_cd 180)[13]? = some ((21, .invokestatic 75, 3, 181, 3, 1, 0, 0, []) : zm_E) := (congrArg (fun l => l[13]?) cd_180).trans rfl
theorem c_180_14 : (zm_cd 180)[14]? = some ((24, .istore 4, 2, 4, 0, 0, 0, 0, []) : zm_E) := (congrArg (fun l => l[14]?) cd_180).trans rfl
theorem c_180_15 : (zm_cd 180)[15]? = some ((26, .aload_n 0, 1, 0, 0, 0, 0, 0, []) : zm_E) := (congrArg (fun l => l[15]?) cd_180).trans rfl
theorem c_180_16 : (zm_cd 180)[16]? = some ((27, .getfield 30, 3, 6, 8, 1, 0, 0, []) : zm_E) := (congrArg (fun l => l[16]?) cd_180).trans rfl
theorem c_180_17 : (zm_cd 180)[17]? = some ((30, .iload_n 3, 1, 3, 0, 0, 0, 0, []) : zm_E) := (congrArg (fun l => l[17]?) cd_180).trans rfl
theorem c_180_18 : (zm_cd 180)[18]? = some ((31, .iload 4, 2, 4, 0, 0, 0, 0, []) : zm_E) := (congrArg (fun l => l[18]?) cd_180).trans rfl
theorem c_180_19 : (zm_cd 180)[19]? = some ((33, .invokestatic 71, 3, 210, 3, 0, 1, 0, []) : zm_E) := (congrArg (fun l => l[19]?) cd_180).trans rfl
theorem c_180_20 : (zm_cd 180)[20]? = some ((36, .aload_n 0, 1, 0, 0, 0, 0, 0, []) : zm_E) := (congrArg (fun l => l[20]?) cd_180).trans rfl
theorem c_180_21 : (zm_cd 180)[21]? = some ((37, .getfield 36, 3, 6, 1, 0, 0, 0, []) : zm_E) := (congrArg (fun l => l[21]?) cd_180).trans rfl
theorem c_180_22 : (zm_cd 180)[22]? = some ((40, .ifCond .ne 13, 3, 28, 0, 0, 0, 0, []) : zm_E) := (congrArg (fun l => l[22]?) cd_180).trans rfl
theorem c_180_23 : (zm_cd 180)[23]? = some ((43, .aload_n 0, 1, 0, 0, 0, 0, 0, []) : zm_E) := (congrArg (fun l => l[23]?) cd_180).trans rfl
theorem c_180_24 : (zm_cd 180)[24]? = some ((44, .getfield 21, 3, 6, 5, 1, 0, 0, []) : zm_E) := (congrArg (fun l => l[24]?) cd_180).trans rfl
theorem c_180_25 : (zm_cd 180)[25]? = some ((47, .iload_n 3, 1, 3, 0, 0, 0, 0, []) : zm_E) := (congrArg (fun l => l[25]?) cd_180).trans rfl
theorem c_180_26 : (zm_cd 180)[26]? = some ((48, .iload 4, 2, 4, 0, 0, 0, 0, []) : zm_E) := (congrArg (fun l => l[26]?) cd_180).trans rfl
theorem c_180_27 : (zm_cd 180)[27]? = some ((50, .invokestatic 71, 3, 210, 3, 0, 1, 0, []) : zm_E) := (congrArg (fun l => l[27]?) cd_180).trans rfl
theorem c_180_28 : (zm_cd 180)[28]? = some ((53, .iinc 3 1, 3, 3, 0, 0, 1, 0, []) : zm_E) := (congrArg (fun l => l[28]?) cd_180).trans rfl
theorem c_180_29 : (zm_cd 180)[29]? = some ((56, .goto (-54), 3, 2, 0, 0, 0, 0, []) : zm_E) := (congrArg (fun l => l[29]?) cd_180).trans rfl
theorem c_180_30 : (zm_cd 180)[30]? = some ((59, .return_, 1, 0, 0, 0, 0, 0, []) : zm_E) := (congrArg (fun l => l[30]?) cd_180).trans rfl
theorem cd_181 : zm_cd 181 = zd_181 := rfl
theorem ml_181 : zm_ml 181 = 5 := rfl
theorem ht_181 : zm_ht 181 = [] := rfl
theorem c_181_0 : (zm_cd 181)[0]? = some ((0, .iload_n 1, 1, 1, 0, 0, 0, 0, []) : zm_E) := (congrArg (fun l => l[0]?) cd_181).trans rfl
theorem c_181_1 : (zm_cd 181)[1]? = some ((1, .istore_n 3, 1, 3, 0, 0, 0, 0, []) : zm_E) := (congrArg (fun l => l[1]?) cd_181).trans rfl
theorem c_181_2 : (zm_cd 181)[2]? = some ((2, .iconst 0, 1, 0, 0, 0, 0, 0, []) : zm_E) := (congrArg (fun l => l[2]?) cd_181).trans rfl
theorem c_181_3 : (zm_cd 181)[3]? = some ((3, .istore 4, 2, 4, 0, 0, 0, 0, []) : zm_E) := (congrArg (fun l => l[3]?) cd_181).trans rfl
theorem c_181_4 : (zm_cd 181)[4]? = some ((5, .iload 4, 2, 4, 0, 0, 0, 0, []) : zm_E) := (congrArg (fun l => l[4]?) cd_181).trans rfl
theorem c_181_5 : (zm_cd 181)[5]? = some ((7, .aload_n 0, 1, 0, 0, 0, 0, 0, []) : zm_E) := (congrArg (fun l => l[5]?) cd_181).trans rfl
theorem c_181_6 : (zm_cd 181)[6]? = some ((8, .getfield 51, 3, 1, 0, 0, 0, 0, []) : zm_E) := (congrArg (fun l => l[6]?) cd_181).trans rfl
theorem c_181_7 : (zm_cd 181)[7]? = some ((11, .if_icmp .ge 51, 3, 31, 0, 0, 0, 0, []) : zm_E) := (congrArg (fun l => l[7]?) cd_181).trans rfl
theorem c_181_8 : (zm_cd 181)[8]? = some ((14, .iload_n 2, 1, 2, 0, 0, 0, 0, []) : zm_E) := (congrArg (fun l => l[8]?) cd_181).trans rfl
theorem c_181_9 : (zm_cd 181)[9]? = some ((15, .iload 4, 2, 4, 0, 0, 0, 0, []) : zm_E) := (congrArg (fun l => l[9]?) cd_181).trans rfl
theorem c_181_10 : (zm_cd 181)[10]? = some ((17, .invokestatic 63, 3, 37, 2, 1, 1, 0, []) : zm_E) := (congrArg (fun l => l[10]?) cd_181).trans rfl
theorem c_181_11 : (zm_cd 181)[11]? = some ((20, .ifCond .eq 36, 3, 29, 0, 0, 0, 0, []) : zm_E) := (congrArg (fun l => l[11]?) cd_181).trans rfl
theorem c_181_12 : (zm_cd 181)[12]? = some ((23, .aload_n 0, 1, 0, 0, 0, 0, 0, []) : zm_E) := (congrArg (fun l => l[12]?) cd_181).trans rfl
theorem c_181_13 : (zm_cd 181)[13]? = some ((24, .iload_n 1, 1, 1, 0, 0, 0, 0, []) : zm_E) := (congrArg (fun l => l[13]?) cd_181).trans rfl
theorem c_181_14 : (zm_cd 181)[14]? = some ((25, .aload_n 0, 1, 0, 0, 0, 0, 0, []) : zm_E) := (congrArg (fun l => l[14]?) cd_181).trans rfl
theorem c_181_15 : (zm_cd 181)[15]? = some ((26, .getfield 60, 3, 1, 3, 1, 0, 0, []) : zm_E) := (congrArg (fun l => l[15]?) cd_181).trans rfl
theorem c_181_16 : (zm_cd 181)[16]? = some ((29, .iload 4, 2, 4, 0, 0, 0, 0, []) : zm_E) := (congrArg (fun l => l[16]?) cd_181).trans rfl
theorem c_181_17 : (zm_cd 181)[17]? = some ((31, .invokestatic 56, 3, 209, 2, 1, 1, 0, []) : zm_E) := (congrArg (fun l => l[17]?) cd_181).trans rfl
theorem c_181_18 : (zm_cd 181)[18]? = some ((34, .invokevirtual 79, 3, 121, 2, 1, 0, 0, [1]) : zm_E) := (congrArg (fun l => l[18]?) cd_181).trans rfl
theorem c_181_19 : (zm_cd 181)[19]? = some ((37, .aload_n 0, 1, 0, 0, 0, 0, 0, []) : zm_E) := (congrArg (fun l => l[19]?) cd_181).trans rfl
theorem c_181_20 : (zm_cd 181)[20]? = some ((38, .iload_n 1, 1, 1, 0, 0, 0, 0, []) : zm_E) := (congrArg (fun l => l[20]?) cd_181).trans rfl
theorem c_181_21 : (zm_cd 181)[21]? = some ((39, .aload_n 0, 1, 0, 0, 0, 0, 0, []) : zm_E) := (congrArg (fun l => l[21]?) cd_181).trans rfl
theorem c_181_22 : (zm_cd 181)[22]? = some ((40, .getfield 60, 3, 1, 3, 1, 0, 0, []) : zm_E) := (congrArg (fun l => l[22]?) cd_181).trans rfl
theorem c_181_23 : (zm_cd 181)[23]? = some ((43, .iload_n 3, 1, 3, 0, 0, 0, 0, []) : zm_E) := (congrArg (fun l => l[23]?) cd_181).trans rfl
theorem c_181_24 : (zm_cd 181)[24]? = some ((44, .invokestatic 56, 3, 209, 2, 1, 1, 0, []) : zm_E) := (congrArg (fun l => l[24]?) cd_181).trans rfl
theorem c_181_25 : (zm_cd 181)[25]? = some ((47, .invokevirtual 79, 3, 121, 2, 1, 0, 0, [1]) : zm_E) := (congrArg (fun l => l[25]?) cd_181).trans rfl
theorem c_181_26 : (zm_cd 181)[26]? = some ((50, .if_icmp .ge 6, 3, 29, 0, 0, 0, 0, []) : zm_E) := (congrArg (fun l => l[26]?) cd_181).trans rfl
theorem c_181_27 : (zm_cd 181)[27]? = some ((53, .iload 4, 2, 4, 0, 0, 0, 0, []) : zm_E) := (congrArg (fun l => l[27]?) cd_181).trans rfl
theorem c_181_28 : (zm_cd 181)[28]? = some ((55, .istore_n 3, 1, 3, 0, 0, 0, 0, []) : zm_E) := (congrArg (fun l => l[28]?) cd_181).trans rfl
theorem c_181_29 : (zm_cd 181)[29]? = some ((56, .iinc 4 1, 3, 4, 0, 0, 1, 0, []) : zm_E) := (congrArg (fun l => l[29]?) cd_181).trans rfl
theorem c_181_30 : (zm_cd 181)[30]? = some ((59, .goto (-54), 3, 4, 0, 0, 0, 0, []) : zm_E) := (congrArg (fun l => l[30]?) cd_181).trans rfl
theorem c_181_31 : (zm_cd 181)[31]? = some ((62, .iload_n 3, 1, 3, 0, 0, 0, 0, []) : zm_E) := (congrArg (fun l => l[31]?) cd_181).trans rfl
theorem c_181_32 : (zm_cd 181)[32]? = some ((63, .ireturn, 1, 0, 0, 0, 0, 0, []) : zm_E) := (congrArg (fun l => l[32]?) cd_181).trans rfl
theorem cd_182 : zm_cd 182 = zd_182 := rfl
theorem ml_182 : zm_ml 182 = 6 := rfl
theorem ht_182 : zm_ht 182 = [] := rfl
theorem c_182_0 : (zm_cd 182)[0]? = some ((0, .iconst 0, 1, 0, 0, 0, 0, 0, []) : zm_E) := (congrArg (fun l => l[0]?) cd_182).trans rfl
theorem c_182_1 : (zm_cd 182)[1]? = some ((1, .istore_n 3, 1, 3, 0, 0, 0, 0, []) : zm_E) := (congrArg (fun l => l[1]?) cd_182).trans rfl
theorem c_182_2 : (zm_cd 182)[2]? = some ((2, .iconst 0, 1, 0, 0, 0, 0, 0, []) : zm_E) := (congrArg (fun l => l[2]?) cd_182).trans rfl
theorem c_182_3 : (zm_cd 182)[3]? = some ((3, .istore 4, 2, 4, 0, 0, 0, 0, []) : zm_E) := (congrArg (fun l => l[3]?) cd_182).trans rfl
theorem c_182_4 : (zm_cd 182)[4]? = some ((5, .iload 4, 2, 4, 0, 0, 0, 0, []) : zm_E) := (congrArg (fun l => l[4]?) cd_182).trans rfl
theorem c_182_5 : (zm_cd 182)[5]? = some ((7, .aload_n 1, 1, 1, 0, 0, 0, 0, []) : zm_E) := (congrArg (fun l => l[5]?) cd_182).trans rfl
theorem c_182_6 : (zm_cd 182)[6]? = some ((8, .getfield 51, 3, 1, 0, 0, 0, 0, []) : zm_E) := (congrArg (fun l => l[6]?) cd_182).trans rfl
theorem c_182_7 : (zm_cd 182)[7]? = some ((11, .if_icmp .ge 47, 3, 32, 0, 0, 0, 0, []) : zm_E) := (congrArg (fun l => l[7]?) cd_182).trans rfl
theorem c_182_8 : (zm_cd 182)[8]? = some ((14, .iload_n 2, 1, 2, 0, 0, 0, 0, []) : zm_E) := (congrArg (fun l => l[8]?) cd_182).trans rfl
theorem c_182_9 : (zm_cd 182)[9]? = some ((15, .iload_n 3, 1, 3, 0, 0, 0, 0, []) : zm_E) := (congrArg (fun l => l[9]?) cd_182).trans rfl
theorem c_182_10 : (zm_cd 182)[10]? = some ((16, .iconst (-1), 1, 0, 0, 0, (-1), 0, []) : zm_E) := (congrArg (fun l => l[10]?) cd_182).trans rfl
theorem c_182_11 : (zm_cd 182)[11]? = some ((17, .ixor, 1, 0, 0, 0, 0, 0, []) : zm_E) := (congrArg (fun l => l[11]?) cd_182).trans rfl
theorem c_182_12 : (zm_cd 182)[12]? = some ((18, .iand, 1, 0, 0, 0, 0, 0, []) : zm_E) := (congrArg (fun l => l[12]?) cd_182).trans rfl
theorem c_182_13 : (zm_cd 182)[13]? = some ((19, .iload 4, 2, 4, 0, 0, 0, 0, []) : zm_E) := (congrArg (fun l => l[13]?) cd_182).trans rfl
theorem c_182_14 : (zm_cd 182)[14]? = some ((21, .invokestatic 63, 3, 37, 2, 1, 1, 0, []) : zm_E) := (congrArg (fun l => l[14]?) cd_182).trans rfl
theorem c_182_15 : (zm_cd 182)[15]? = some ((24, .ifCond .eq 28, 3, 30, 0, 0, 0, 0, []) : zm_E) := (congrArg (fun l => l[15]?) cd_182).trans rfl
theorem c_182_16 : (zm_cd 182)[16]? = some ((27, .aload_n 0, 1, 0, 0, 0, 0, 0, []) : zm_E) := (congrArg (fun l => l[16]?) cd_182).trans rfl
theorem c_182_17 : (zm_cd 182)[17]? = some ((28, .iload 4, 2, 4, 0, 0, 0, 0, []) : zm_E) := (congrArg (fun l => l[17]?) cd_182).trans rfl
theorem c_182_18 : (zm_cd 182)[18]? = some ((30, .invokevirtual 82, 3, 183, 1, 1, 0, 0, [6]) : zm_E) := (congrArg (fun l => l[18]?) cd_182).trans rfl
theorem c_182_19 : (zm_cd 182)[19]? = some ((33, .istore 5, 2, 5, 0, 0, 0, 0, []) : zm_E) := (congrArg (fun l => l[19]?) cd_182).trans rfl
theorem c_182_20 : (zm_cd 182)[20]? = some ((35, .iload 5, 2, 5, 0, 0, 0, 0, []) : zm_E) := (congrArg (fun l => l[20]?) cd_182).trans rfl
theorem c_182_21 : (zm_cd 182)[21]? = some ((37, .ifCond .eq 15, 3, 30, 0, 0, 0, 0, []) : zm_E) := (congrArg (fun l => l[21]?) cd_182).trans rfl
theorem c_182_22 : (zm_cd 182)[22]? = some ((40, .aload_n 0, 1, 0, 0, 0, 0, 0, []) : zm_E) := (congrArg (fun l => l[22]?) cd_182).trans rfl
theorem c_182_23 : (zm_cd 182)[23]? = some ((41, .aload_n 1, 1, 1, 0, 0, 0, 0, []) : zm_E) := (congrArg (fun l => l[23]?) cd_182).trans rfl
theorem c_182_24 : (zm_cd 182)[24]? = some ((42, .iload 5, 2, 5, 0, 0, 0, 0, []) : zm_E) := (congrArg (fun l => l[24]?) cd_182).trans rfl
theorem c_182_25 : (zm_cd 182)[25]? = some ((44, .invokevirtual 86, 3, 184, 2, 0, 0, 0, [6]) : zm_E) := (congrArg (fun l => l[25]?) cd_182).trans rfl
theorem c_182_26 : (zm_cd 182)[26]? = some ((47, .iload_n 3, 1, 3, 0, 0, 0, 0, []) : zm_E) := (congrArg (fun l => l[26]?) cd_182).trans rfl
theorem c_182_27 : (zm_cd 182)[27]? = some ((48, .iload 5, 2, 5, 0, 0, 0, 0, []) : zm_E) := (congrArg (fun l => l[27]?) cd_182).trans rfl
theorem c_182_28 : (zm_cd 182)[28]? = some ((50, .ior, 1, 0, 0, 0, 0, 0, []) : zm_E) := (congrArg (fun l => l[28]?) cd_182).trans rfl
theorem c_182_29 : (zm_cd 182)[29]? = some ((51, .istore_n 3, 1, 3, 0, 0, 0, 0, []) : zm_E) := (congrArg (fun l => l[29]?) cd_182).trans rfl
theorem c_182_30 : (zm_cd 182)[30]? = some ((52, .iinc 4 1, 3, 4, 0, 0, 1, 0, []) : zm_E) := (congrArg (fun l => l[30]?) cd_182).trans rfl
theorem c_182_31 : (zm_cd 182)[31]? = some ((55, .goto (-50), 3, 4, 0, 0, 0, 0, []) : zm_E) := (congrArg (fun l => l[31]?) cd_182).trans rfl
theorem c_182_32 : (zm_cd 182)[32]? = some ((58, .iload_n 3, 1, 3, 0, 0, 0, 0, []) : zm_E) := (congrArg (fun l => l[32]?) cd_182).trans rfl
theorem c_182_33 : (zm_cd 182)[33]? = some ((59, .ireturn, 1, 0, 0, 0, 0, 0, []) : zm_E) := (congrArg (fun l => l[33]?) cd_182).trans rfl
theorem cd_183 : zm_cd 183 = zd_183 := rfl
theorem ml_183 : zm_ml 183 = 5 := rfl
theorem ht_183 : zm_ht 183 = [] := rfl
theorem c_183_0 : (zm_cd 183)[0]? = some ((0, .iconst 0, 1, 0, 0, 0, 0, 0, []) : zm_E) := (congrArg (fun l => l[0]?) cd_183).trans rfl
theorem c_183_1 : (zm_cd 183)[1]? = some ((1, .istore_n 2, 1, 2, 0, 0, 0, 0, []) : zm_E) := (congrArg (fun l => l[1]?) cd_183).trans rfl
theorem c_183_2 : (zm_cd 183)[2]? = some ((2, .iload_n 1, 1, 1, 0, 0, 0, 0, []) : zm_E) := (congrArg (fun l => l[2]?) cd_183).trans rfl
theorem c_183_3 : (zm_cd 183)[3]? = some ((3, .istore_n 3, 1, 3, 0, 0, 0, 0, []) : zm_E) := (congrArg (fun l => l[3]?) cd_183).trans rfl
theorem c_183_4 : (zm_cd 183)[4]? = some ((4, .iconst 0, 1, 0, 0, 0, 0, 0, []) : zm_E) := (congrArg (fun l => l[4]?) cd_183).trans rfl
theorem c_183_5 : (zm_cd 183)[5]? = some ((5, .istore 4, 2, 4, 0, 0, 0, 0, []) : zm_E) := (congrArg (fun l => l[5]?) cd_183).trans rfl
theorem c_183_6 : (zm_cd 183)[6]? = some ((7, .iload 4, 2, 4, 0, 0, 0, 0, []) : zm_E) := (congrArg (fun l => l[6]?) cd_183).trans rfl
theorem c_183_7 : (zm_cd 183)[7]? = some ((9, .bipush 7, 2, 0, 0, 0, 7, 0, []) : zm_E) := (congrArg (fun l => l[7]?) cd_183).trans rfl
theorem c_183_8 : (zm_cd 183)[8]? = some ((11, .if_icmp .ge 32, 3, 26, 0, 0, 0, 0, []) : zm_E) := (congrArg (fun l => l[8]?) cd_183).trans rfl
theorem c_183_9 : (zm_cd 183)[9]? = some ((14, .iload_n 2, 1, 2, 0, 0, 0, 0, []) : zm_E) := (congrArg (fun l => l[9]?) cd_183).trans rfl
theorem c_183_10 : (zm_cd 183)[10]? = some ((15, .iload_n 3, 1, 3, 0, 0, 0, 0, []) : zm_E) := (congrArg (fun l => l[10]?) cd_183).trans rfl
theorem c_183_11 : (zm_cd 183)[11]? = some ((16, .invokestatic 89, 3, 36, 1, 1, 1, 0, []) : zm_E) := (congrArg (fun l => l[11]?) cd_183).trans rfl
theorem c_183_12 : (zm_cd 183)[12]? = some ((19, .ior, 1, 0, 0, 0, 0, 0, []) : zm_E) := (congrArg (fun l => l[12]?) cd_183).trans rfl
theorem c_183_13 : (zm_cd 183)[13]? = some ((20, .istore_n 2, 1, 2, 0, 0, 0, 0, []) : zm_E) := (congrArg (fun l => l[13]?) cd_183).trans rfl
theorem c_183_14 : (zm_cd 183)[14]? = some ((21, .aload_n 0, 1, 0, 0, 0, 0, 0, []) : zm_E) := (congrArg (fun l => l[14]?) cd_183).trans rfl
theorem c_183_15 : (zm_cd 183)[15]? = some ((22, .getfield 30, 3, 6, 8, 1, 0, 0, []) : zm_E) := (congrArg (fun l => l[15]?) cd_183).trans rfl
theorem c_183_16 : (zm_cd 183)[16]? = some ((25, .iload_n 3, 1, 3, 0, 0, 0, 0, []) : zm_E) := (congrArg (fun l => l[16]?) cd_183).trans rfl
theorem c_183_17 : (zm_cd 183)[17]? = some ((26, .invokestatic 56, 3, 209, 2, 1, 1, 0, []) : zm_E) := (congrArg (fun l => l[17]?) cd_183).trans rfl
theorem c_183_18 : (zm_cd 183)[18]? = some ((29, .istore_n 3, 1, 3, 0, 0, 0, 0, []) : zm_E) := (congrArg (fun l => l[18]?) cd_183).trans rfl
theorem c_183_19 : (zm_cd 183)[19]? = some ((30, .iload_n 3, 1, 3, 0, 0, 0, 0, []) : zm_E) := (congrArg (fun l => l[19]?) cd_183).trans rfl
theorem c_183_20 : (zm_cd 183)[20]? = some ((31, .iload_n 1, 1, 1, 0, 0, 0, 0, []) : zm_E) := (congrArg (fun l => l[20]?) cd_183).trans rfl
theorem c_183_21 : (zm_cd 183)[21]? = some ((32, .if_icmp .ne 5, 3, 24, 0, 0, 0, 0, []) : zm_E) := (congrArg (fun l => l[21]?) cd_183).trans rfl
theorem c_183_22 : (zm_cd 183)[22]? = some ((35, .iload_n 2, 1, 2, 0, 0, 0, 0, []) : zm_E) := (congrArg (fun l => l[22]?) cd_183).trans rfl
theorem c_183_23 : (zm_cd 183)[23]? = some ((36, .ireturn, 1, 0, 0, 0, 0, 0, []) : zm_E) := (congrArg (fun l => l[23]?) cd_183).trans rfl
theorem c_183_24 : (zm_cd 183)[24]? = some ((37, .iinc 4 1, 3, 4, 0, 0, 1, 0, []) : zm_E) := (congrArg (fun l => l[24]?) cd_183).trans rfl
theorem c_183_25 : (zm_cd 183)[25]? = some ((40, .goto (-33), 3, 6, 0, 0, 0, 0, []) : zm_E) := (congrArg (fun l => l[25]?) cd_183).trans rfl
theorem c_183_26 : (zm_cd 183)[26]? = some ((43, .iconst 0, 1, 0, 0, 0, 0, 0, []) : zm_E) := (congrArg (fun l => l[26]?) cd_183).trans rfl
theorem c_183_27 : (zm_cd 183)[27]? = some ((44, .ireturn, 1, 0, 0, 0, 0, 0, []) : zm_E) := (congrArg (fun l => l[27]?) cd_183).trans rfl
theorem cd_184 : zm_cd 184 = zd_184 := rfl
theorem ml_184 : zm_ml 184 = 4 := rfl
theorem ht_184 : zm_ht 184 = [] := rfl
theorem c_184_0 : (zm_cd 184)[0]? = some ((0, .iconst 0, 1, 0, 0, 0, 0, 0, []) : zm_E) := (congrArg (fun l => l[0]?) cd_184).trans rfl
theorem c_184_1 : (zm_cd 184)[1]? = some ((1, .istore_n 3, 1, 3, 0, 0, 0, 0, []) : zm_E) := (congrArg (fun l => l[1]?) cd_184).trans rfl
theorem c_184_2 : (zm_cd 184)[2]? = some ((2, .iload_n 3, 1, 3, 0, 0, 0, 0, []) : zm_E) := (congrArg (fun l => l[2]?) cd_184).trans rfl
theorem c_184_3 : (zm_cd 184)[3]? = some ((3, .aload_n 1, 1, 1, 0, 0, 0, 0, []) : zm_E) := (congrArg (fun l => l[3]?) cd_184).trans rfl
theorem c_184_4 : (zm_cd 184)[4]? = some ((4, .getfield 51, 3, 1, 0, 0, 0, 0, []) : zm_E) := (congrArg (fun l => l[4]?) cd_184).trans rfl
theorem c_184_5 : (zm_cd 184)[5]? = some ((7, .if_icmp .ge 64, 3, 35, 0, 0, 0, 0, []) : zm_E) := (congrArg (fun l => l[5]?) cd_184).trans rfl
theorem c_184_6 : (zm_cd 184)[6]? = some ((10, .iload_n 2, 1, 2, 0, 0, 0, 0, []) : zm_E) := (congrArg (fun l => l[6]?) cd_184).trans rfl
theorem c_184_7 : (zm_cd 184)[7]? = some ((11, .iload_n 3, 1, 3, 0, 0, 0, 0, []) : zm_E) := (congrArg (fun l => l[7]?) cd_184).trans rfl
theorem c_184_8 : (zm_cd 184)[8]? = some ((12, .invokestatic 63, 3, 37, 2, 1, 1, 0, []) : zm_E) := (congrArg (fun l => l[8]?) cd_184).trans rfl
theorem c_184_9 : (zm_cd 184)[9]? = some ((15, .ifCond .eq 50, 3, 33, 0, 0, 0, 0, []) : zm_E) := (congrArg (fun l => l[9]?) cd_184).trans rfl
theorem c_184_10 : (zm_cd 184)[10]? = some ((18, .aload_n 0, 1, 0, 0, 0, 0, 0, []) : zm_E) := (congrArg (fun l => l[10]?) cd_184).trans rfl
theorem c_184_11 : (zm_cd 184)[11]? = some ((19, .getfield 9, 3, 6, 2, 1, 0, 0, []) : zm_E) := (congrArg (fun l => l[11]?) cd_184).trans rfl
theorem c_184_12 : (zm_cd 184)[12]? = some ((22, .iload_n 3, 1, 3, 0, 0, 0, 0, []) : zm_E) := (congrArg (fun l => l[12]?) cd_184).trans rfl
theorem c_184_13 : (zm_cd 184)[13]? = some ((23, .aload_n 1, 1, 1, 0, 0, 0, 0, []) : zm_E) := (congrArg (fun l => l[13]?) cd_184).trans rfl
theorem c_184_14 : (zm_cd 184)[14]? = some ((24, .getfield 60, 3, 1, 3, 1, 0, 0, []) : zm_E) := (congrArg (fun l => l[14]?) cd_184).trans rfl
theorem c_184_15 : (zm_cd 184)[15]? = some ((27, .aload_n 0, 1, 0, 0, 0, 0, 0, []) : zm_E) := (congrArg (fun l => l[15]?) cd_184).trans rfl
theorem c_184_16 : (zm_cd 184)[16]? = some ((28, .getfield 30, 3, 6, 8, 1, 0, 0, []) : zm_E) := (congrArg (fun l => l[16]?) cd_184).trans rfl
theorem c_184_17 : (zm_cd 184)[17]? = some ((31, .iload_n 3, 1, 3, 0, 0, 0, 0, []) : zm_E) := (congrArg (fun l => l[17]?) cd_184).trans rfl
theorem c_184_18 : (zm_cd 184)[18]? = some ((32, .invokestatic 56, 3, 209, 2, 1, 1, 0, []) : zm_E) := (congrArg (fun l => l[18]?) cd_184).trans rfl
theorem c_184_19 : (zm_cd 184)[19]? = some ((35, .invokestatic 56, 3, 209, 2, 1, 1, 0, []) : zm_E) := (congrArg (fun l => l[19]?) cd_184).trans rfl
theorem c_184_20 : (zm_cd 184)[20]? = some ((38, .invokestatic 71, 3, 210, 3, 0, 1, 0, []) : zm_E) := (congrArg (fun l => l[20]?) cd_184).trans rfl
theorem c_184_21 : (zm_cd 184)[21]? = some ((41, .aload_n 0, 1, 0, 0, 0, 0, 0, []) : zm_E) := (congrArg (fun l => l[21]?) cd_184).trans rfl
theorem c_184_22 : (zm_cd 184)[22]? = some ((42, .getfield 15, 3, 6, 3, 1, 0, 0, []) : zm_E) := (congrArg (fun l => l[22]?) cd_184).trans rfl
theorem c_184_23 : (zm_cd 184)[23]? = some ((45, .iload_n 3, 1, 3, 0, 0, 0, 0, []) : zm_E) := (congrArg (fun l => l[23]?) cd_184).trans rfl
theorem c_184_24 : (zm_cd 184)[24]? = some ((46, .aload_n 0, 1, 0, 0, 0, 0, 0, []) : zm_E) := (congrArg (fun l => l[24]?) cd_184).trans rfl
theorem c_184_25 : (zm_cd 184)[25]? = some ((47, .getfield 36, 3, 6, 1, 0, 0, 0, []) : zm_E) := (congrArg (fun l => l[25]?) cd_184).trans rfl
theorem c_184_26 : (zm_cd 184)[26]? = some ((50, .invokestatic 71, 3, 210, 3, 0, 1, 0, []) : zm_E) := (congrArg (fun l => l[26]?) cd_184).trans rfl
theorem c_184_27 : (zm_cd 184)[27]? = some ((53, .aload_n 0, 1, 0, 0, 0, 0, 0, []) : zm_E) := (congrArg (fun l => l[27]?) cd_184).trans rfl
theorem c_184_28 : (zm_cd 184)[28]? = some ((54, .getfield 18, 3, 6, 4, 1, 0, 0, []) : zm_E) := (congrArg (fun l => l[28]?) cd_184).trans rfl
theorem c_184_29 : (zm_cd 184)[29]? = some ((57, .iload_n 3, 1, 3, 0, 0, 0, 0, []) : zm_E) := (congrArg (fun l => l[29]?) cd_184).trans rfl
theorem c_184_30 : (zm_cd 184)[30]? = some ((58, .aload_n 0, 1, 0, 0, 0, 0, 0, []) : zm_E) := (congrArg (fun l => l[30]?) cd_184).trans rfl
theorem c_184_31 : (zm_cd 184)[31]? = some ((59, .getfield 48, 3, 6, 0, 0, 0, 0, []) : zm_E) := (congrArg (fun l => l[31]?) cd_184).trans rfl
theorem c_184_32 : (zm_cd 184)[32]? = some ((62, .invokestatic 71, 3, 210, 3, 0, 1, 0, []) : zm_E) := (congrArg (fun l => l[32]?) cd_184).trans rfl
theorem c_184_33 : (zm_cd 184)[33]? = some ((65, .iinc 3 1, 3, 3, 0, 0, 1, 0, []) : zm_E) := (congrArg (fun l => l[33]?) cd_184).trans rfl
theorem c_184_34 : (zm_cd 184)[34]? = some ((68, .goto (-66), 3, 2, 0, 0, 0, 0, []) : zm_E) := (congrArg (fun l => l[34]?) cd_184).trans rfl
theorem c_184_35 : (zm_cd 184)[35]? = some ((71, .aload_n 0, 1, 0, 0, 0, 0, 0, []) : zm_E) := (congrArg (fun l => l[35]?) cd_184).trans rfl
theorem c_184_36 : (zm_cd 184)[36]? = some ((72, .getfield 24, 3, 6, 6, 1, 0, 0, []) : zm_E) := (congrArg (fun l => l[36]?) cd_184).trans rfl
theorem c_184_37 : (zm_cd 184)[37]? = some ((75, .aload_n 0, 1, 0, 0, 0, 0, 0, []) : zm_E) := (congrArg (fun l => l[37]?) cd_184).trans rfl
theorem c_184_38 : (zm_cd 184)[38]? = some ((76, .getfield 48, 3, 6, 0, 0, 0, 0, []) : zm_E) := (congrArg (fun l => l[38]?) cd_184).trans rfl
theorem c_184_39 : (zm_cd 184)[39]? = some ((79, .iload_n 2, 1, 2, 0, 0, 0, 0, []) : zm_E) := (congrArg (fun l => l[39]?) cd_184).trans rfl
theorem c_184_40 : (zm_cd 184)[40]? = some ((80, .invokestatic 71, 3, 210, 3, 0, 1, 0, []) : zm_E) := (congrArg (fun l => l[40]?) cd_184).trans rfl
theorem c_184_41 : (zm_cd 184)[41]? = some ((83, .aload_n 0, 1, 0, 0, 0, 0, 0, []) : zm_E) := (congrArg (fun l => l[41]?) cd_184).trans rfl
theorem c_184_42 : (zm_cd 184)[42]? = some ((84, .getfield 27, 3, 6, 7, 1, 0, 0, []) : zm_E) := (congrArg (fun l => l[42]?) cd_184).trans rfl
theorem c_184_43 : (zm_cd 184)[43]? = some ((87, .aload_n 0, 1, 0, 0, 0, 0, 0, []) : zm_E) := (congrArg (fun l => l[43]?) cd_184).trans rfl
theorem c_184_44 : (zm_cd 184)[44]? = some ((88, .getfield 48, 3, 6, 0, 0, 0, 0, []) : zm_E) := (congrArg (fun l => l[44]?) cd_184).trans rfl
theorem c_184_45 : (zm_cd 184)[45]? = some ((91, .aload_n 0, 1, 0, 0, 0, 0, 0, []) : zm_E) := (congrArg (fun l => l[45]?) cd_184).trans rfl
theorem c_184_46 : (zm_cd 184)[46]? = some ((92, .getfield 36, 3, 6, 1, 0, 0, 0, []) : zm_E) := (congrArg (fun l => l[46]?) cd_184).trans rfl
theorem c_184_47 : (zm_cd 184)[47]? = some ((95, .invokestatic 71, 3, 210, 3, 0, 1, 0, []) : zm_E) := (congrArg (fun l => l[47]?) cd_184).trans rfl
theorem c_184_48 : (zm_cd 184)[48]? = some ((98, .aload_n 0, 1, 0, 0, 0, 0, 0, []) : zm_E) := (congrArg (fun l => l[48]?) cd_184).trans rfl
theorem c_184_49 : (zm_cd 184)[49]? = some ((99, .dup, 1, 0, 0, 0, 0, 0, []) : zm_E) := (congrArg (fun l => l[49]?) cd_184).trans rfl
theorem c_184_50 : (zm_cd 184)[50]? = some ((100, .getfield 48, 3, 6, 0, 0, 0, 0, []) : zm_E) := (congrArg (fun l => l[50]?) cd_184).trans rfl
theorem c_184_51 : (zm_cd 184)[51]? = some ((103, .iconst 1, 1, 0, 0, 0, 1, 0, []) : zm_E) := (congrArg (fun l => l[51]?) cd_184).trans rfl
theorem c_184_52 : (zm_cd 184)[52]? = some ((104, .iadd, 1, 0, 0, 0, 0, 0, []) : zm_E) := (congrArg (fun l => l[52]?) cd_184).trans rfl
theorem c_184_53 : (zm_cd 184)[53]? = some ((105, .putfield 48, 3, 6, 0, 0, 0, 0, []) : zm_E) := (congrArg (fun l => l[53]?) cd_184).trans rfl
theorem c_184_54 : (zm_cd 184)[54]? = some ((108, .return_, 1, 0, 0, 0, 0, 0, []) : zm_E) := (congrArg (fun l => l[54]?) cd_184).trans rfl
theorem cd_185 : zm_cd 185 = zd_185 := rfl
theorem ml_185 : zm_ml 185 = 2 := rfl
theorem ht_185 : zm_ht 185 = [] := rfl
theorem c_185_0 : (zm_cd 185)[0]? = some ((0, .iload_n 1, 1, 1, 0, 0, 0, 0, []) : zm_E) := (congrArg (fun l => l[0]?) cd_185).trans rfl
theorem c_185_1 : (zm_cd 185)[1]? = some ((1, .aload_n 0, 1, 0, 0, 0, 0, 0, []) : zm_E) := (congrArg (fun l => l[1]?) cd_185).trans rfl
theorem c_185_2 : (zm_cd 185)[2]? = some ((2, .arraylength, 1, 0, 0, 0, 0, 0, []) : zm_E) := (congrArg (fun l => l[2]?) cd_185).trans rfl
theorem c_185_3 : (zm_cd 185)[3]? = some ((3, .if_icmp .ge 9, 3, 8, 0, 0, 0, 0, []) : zm_E) := (congrArg (fun l => l[3]?) cd_185).trans rfl
theorem c_185_4 : (zm_cd 185)[4]? = some ((6, .aload_n 0, 1, 0, 0, 0, 0, 0, []) : zm_E) := (congrArg (fun l => l[4]?) cd_185).trans rfl
theorem c_185_5 : (zm_cd 185)[5]? = some ((7, .iload_n 1, 1, 1, 0, 0, 0, 0, []) : zm_E) := (congrArg (fun l => l[5]?) cd_185).trans rfl
theorem c_185_6 : (zm_cd 185)[6]? = some ((8, .iaload, 1, 0, 0, 0, 0, 0, []) : zm_E) := (congrArg (fun l => l[6]?) cd_185).trans rfl
theorem c_185_7 : (zm_cd 185)[7]? = some ((9, .goto 11, 3, 13, 0, 0, 0, 0, []) : zm_E) := (congrArg (fun l => l[7]?) cd_185).trans rfl
theorem c_185_8 : (zm_cd 185)[8]? = some ((12, .ldc 7, 2, 0, 0, 0, 15558901, 0, []) : zm_E) := (congrArg (fun l => l[8]?) cd_185).trans rfl
theorem c_185_9 : (zm_cd 185)[9]? = some ((14, .iload_n 1, 1, 1, 0, 0, 0, 0, []) : zm_E) := (congrArg (fun l => l[9]?) cd_185).trans rfl
theorem c_185_10 : (zm_cd 185)[10]? = some ((15, .imul, 1, 0, 0, 0, 0, 0, []) : zm_E) := (congrArg (fun l => l[10]?) cd_185).trans rfl
theorem c_185_11 : (zm_cd 185)[11]? = some ((16, .sipush 1307, 3, 0, 0, 0, 1307, 0, []) : zm_E) := (congrArg (fun l => l[11]?) cd_185).trans rfl
theorem c_185_12 : (zm_cd 185)[12]? = some ((19, .iadd, 1, 0, 0, 0, 0, 0, []) : zm_E) := (congrArg (fun l => l[12]?) cd_185).trans rfl
theorem c_185_13 : (zm_cd 185)[13]? = some ((20, .ldc 8, 2, 0, 0, 0, 2147483647, 0, []) : zm_E) := (congrArg (fun l => l[13]?) cd_185).trans rfl
theorem c_185_14 : (zm_cd 185)[14]? = some ((22, .iand, 1, 0, 0, 0, 0, 0, []) : zm_E) := (congrArg (fun l => l[14]?) cd_185).trans rfl
theorem c_185_15 : (zm_cd 185)[15]? = some ((23, .ireturn, 1, 0, 0, 0, 0, 0, []) : zm_E) := (congrArg (fun l => l[15]?) cd_185).trans rfl
theorem cd_186 : zm_cd 186 = zd_186 := rfl
theorem ml_186 : zm_ml 186 = 3 := rfl
theorem ht_186 : zm_ht 186 = [] := rfl
theorem c_186_0 : (zm_cd 186)[0]? = some ((0, .iconst 0, 1, 0, 0, 0, 0, 0, []) : zm_E) := (congrArg (fun l => l[0]?) cd_186).trans rfl
theorem c_186_1 : (zm_cd 186)[1]? = some ((1, .istore_n 1, 1, 1, 0, 0, 0, 0, []) : zm_E) := (congrArg (fun l => l[1]?) cd_186).trans rfl
theorem c_186_2 : (zm_cd 186)[2]? = some ((2, .iconst 0, 1, 0, 0, 0, 0, 0, []) : zm_E) := (congrArg (fun l => l[2]?) cd_186).trans rfl
theorem c_186_3 : (zm_cd 186)[3]? = some ((3, .istore_n 2, 1, 2, 0, 0, 0, 0, []) : zm_E) := (congrArg (fun l => l[3]?) cd_186).trans rfl
theorem c_186_4 : (zm_cd 186)[4]? = some ((4, .iload_n 2, 1, 2, 0, 0, 0, 0, []) : zm_E) := (congrArg (fun l => l[4]?) cd_186).trans rfl
theorem c_186_5 : (zm_cd 186)[5]? = some ((5, .bipush 7, 2, 0, 0, 0, 7, 0, []) : zm_E) := (congrArg (fun l => l[5]?) cd_186).trans rfl
theorem c_186_6 : (zm_cd 186)[6]? = some ((7, .if_icmp .ge 17, 3, 17, 0, 0, 0, 0, []) : zm_E) := (congrArg (fun l => l[6]?) cd_186).trans rfl
theorem c_186_7 : (zm_cd 186)[7]? = some ((10, .iload_n 1, 1, 1, 0, 0, 0, 0, []) : zm_E) := (congrArg (fun l => l[7]?) cd_186).trans rfl
theorem c_186_8 : (zm_cd 186)[8]? = some ((11, .iload_n 0, 1, 0, 0, 0, 0, 0, []) : zm_E) := (congrArg (fun l => l[8]?) cd_186).trans rfl
theorem c_186_9 : (zm_cd 186)[9]? = some ((12, .iload_n 2, 1, 2, 0, 0, 0, 0, []) : zm_E) := (congrArg (fun l => l[9]?) cd_186).trans rfl
theorem c_186_10 : (zm_cd 186)[10]? = some ((13, .ishr, 1, 0, 0, 0, 0, 0, []) : zm_E) := (congrArg (fun l => l[10]?) cd_186).trans rfl
theorem c_186_11 : (zm_cd 186)[11]? = some ((14, .iconst 1, 1, 0, 0, 0, 1, 0, []) : zm_E) := (congrArg (fun l => l[11]?) cd_186).trans rfl
theorem c_186_12 : (zm_cd 186)[12]? = some ((15, .iand, 1, 0, 0, 0, 0, 0, []) : zm_E) := (congrArg (fun l => l[12]?) cd_186).trans rfl
theorem c_186_13 : (zm_cd 186)[13]? = some ((16, .iadd, 1, 0, 0, 0, 0, 0, []) : zm_E) := (congrArg (fun l => l[13]?) cd_186).trans rfl
theorem c_186_14 : (zm_cd 186)[14]? = some ((17, .istore_n 1, 1, 1, 0, 0, 0, 0, []) : zm_E) := (congrArg (fun l => l[14]?) cd_186).trans rfl
theorem c_186_15 : (zm_cd 186)[15]? = some ((18, .iinc 2 1, 3, 2, 0, 0, 1, 0, []) : zm_E) := (congrArg (fun l => l[15]?) cd_186).trans rfl
theorem c_186_16 : (zm_cd 186)[16]? = some ((21, .goto (-17), 3, 4, 0, 0, 0, 0, []) : zm_E) := (congrArg (fun l => l[16]?) cd_186).trans rfl
theorem c_186_17 : (zm_cd 186)[17]? = some ((24, .iload_n 1, 1, 1, 0, 0, 0, 0, []) : zm_E) := (congrArg (fun l => l[17]?) cd_186).trans rfl
theorem c_186_18 : (zm_cd 186)[18]? = some ((25, .ireturn, 1, 0, 0, 0, 0, 0, []) : zm_E) := (congrArg (fun l => l[18]?) cd_186).trans rfl
theorem cd_189 : zm_cd 189 = zd_189 := rfl
theorem ml_189 : zm_ml 189 = 8 := rfl
theorem ht_189 : zm_ht 189 = [] := rfl
theorem c_189_0 : (zm_cd 189)[0]? = some ((0, .iconst 0, 1, 0, 0, 0, 0, 0, []) : zm_E) := (congrArg (fun l => l[0]?) cd_189).trans rfl
theorem c_189_1 : (zm_cd 189)[1]? = some ((1, .istore_n 1, 1, 1, 0, 0, 0, 0, []) : zm_E) := (congrArg (fun l => l[1]?) cd_189).trans rfl
theorem c_189_2 : (zm_cd 189)[2]? = some ((2, .iconst 0, 1, 0, 0, 0, 0, 0, []) : zm_E) := (congrArg (fun l => l[2]?) cd_189).trans rfl
theorem c_189_3 : (zm_cd 189)[3]? = some ((3, .istore_n 2, 1, 2, 0, 0, 0, 0, []) : zm_E) := (congrArg (fun l => l[3]?) cd_189).trans rfl
theorem c_189_4 : (zm_cd 189)[4]? = some ((4, .iconst 0, 1, 0, 0, 0, 0, 0, []) : zm_E) := (congrArg (fun l => l[4]?) cd_189).trans rfl
theorem c_189_5 : (zm_cd 189)[5]? = some ((5, .istore_n 3, 1, 3, 0, 0, 0, 0, []) : zm_E) := (congrArg (fun l => l[5]?) cd_189).trans rfl
theorem c_189_6 : (zm_cd 189)[6]? = some ((6, .iconst 0, 1, 0, 0, 0, 0, 0, []) : zm_E) := (congrArg (fun l => l[6]?) cd_189).trans rfl
theorem c_189_7 : (zm_cd 189)[7]? = some ((7, .istore 4, 2, 4, 0, 0, 0, 0, []) : zm_E) := (congrArg (fun l => l[7]?) cd_189).trans rfl
theorem c_189_8 : (zm_cd 189)[8]? = some ((9, .iconst 0, 1, 0, 0, 0, 0, 0, []) : zm_E) := (congrArg (fun l => l[8]?) cd_189).trans rfl
theorem c_189_9 : (zm_cd 189)[9]? = some ((10, .istore 5, 2, 5, 0, 0, 0, 0, []) : zm_E) := (congrArg (fun l => l[9]?) cd_189).trans rfl
theorem c_189_10 : (zm_cd 189)[10]? = some ((12, .iload 5, 2, 5, 0, 0, 0, 0, []) : zm_E) := (congrArg (fun l => l[10]?) cd_189).trans rfl
theorem c_189_11 : (zm_cd 189)[11]? = some ((14, .aload_n 0, 1, 0, 0, 0, 0, 0, []) : zm_E) := (congrArg (fun l => l[11]?) cd_189).trans rfl
theorem c_189_12 : (zm_cd 189)[12]? = some ((15, .iconst 0, 1, 0, 0, 0, 0, 0, []) : zm_E) := (congrArg (fun l => l[12]?) cd_189).trans rfl
theorem c_189_13 : (zm_cd 189)[13]? = some ((16, .invokevirtual 9, 3, 5, 1, 1, 0, 0, [7]) : zm_E) := (congrArg (fun l => l[13]?) cd_189).trans rfl
theorem c_189_14 : (zm_cd 189)[14]? = some ((19, .if_icmp .ge 95, 3, 68, 0, 0, 0, 0, []) : zm_E) := (congrArg (fun l => l[14]?) cd_189).trans rfl
theorem c_189_15 : (zm_cd 189)[15]? = some ((22, .aload_n 0, 1, 0, 0, 0, 0, 0, []) : zm_E) := (congrArg (fun l => l[15]?) cd_189).trans rfl
theorem c_189_16 : (zm_cd 189)[16]? = some ((23, .iload 5, 2, 5, 0, 0, 0, 0, []) : zm_E) := (congrArg (fun l => l[16]?) cd_189).trans rfl
theorem c_189_17 : (zm_cd 189)[17]? = some ((25, .iconst 2, 1, 0, 0, 0, 2, 0, []) : zm_E) := (congrArg (fun l => l[17]?) cd_189).trans rfl
theorem c_189_18 : (zm_cd 189)[18]? = some ((26, .invokevirtual 15, 3, 6, 2, 1, 0, 0, [7]) : zm_E) := (congrArg (fun l => l[18]?) cd_189).trans rfl
theorem c_189_19 : (zm_cd 189)[19]? = some ((29, .iconst 1, 1, 0, 0, 0, 1, 0, []) : zm_E) := (congrArg (fun l => l[19]?) cd_189).trans rfl
theorem c_189_20 : (zm_cd 189)[20]? = some ((30, .if_icmp .ne 56, 3, 55, 0, 0, 0, 0, []) : zm_E) := (congrArg (fun l => l[20]?) cd_189).trans rfl
theorem c_189_21 : (zm_cd 189)[21]? = some ((33, .iload_n 1, 1, 1, 0, 0, 0, 0, []) : zm_E) := (congrArg (fun l => l[21]?) cd_189).trans rfl
theorem c_189_22 : (zm_cd 189)[22]? = some ((34, .iconst 1, 1, 0, 0, 0, 1, 0, []) : zm_E) := (congrArg (fun l => l[22]?) cd_189).trans rfl
theorem c_189_23 : (zm_cd 189)[23]? = some ((35, .aload_n 0, 1, 0, 0, 0, 0, 0, []) : zm_E) := (congrArg (fun l => l[23]?) cd_189).trans rfl
theorem c_189_24 : (zm_cd 189)[24]? = some ((36, .iload 5, 2, 5, 0, 0, 0, 0, []) : zm_E) := (congrArg (fun l => l[24]?) cd_189).trans rfl
theorem c_189_25 : (zm_cd 189)[25]? = some ((38, .invokevirtual 33, 3, 22, 1, 1, 0, 0, [7]) : zm_E) := (congrArg (fun l => l[25]?) cd_189).trans rfl
theorem c_189_26 : (zm_cd 189)[26]? = some ((41, .ishl, 1, 0, 0, 0, 0, 0, []) : zm_E) := (congrArg (fun l => l[26]?) cd_189).trans rfl
theorem c_189_27 : (zm_cd 189)[27]? = some ((42, .ior, 1, 0, 0, 0, 0, 0, []) : zm_E) := (congrArg (fun l => l[27]?) cd_189).trans rfl
theorem c_189_28 : (zm_cd 189)[28]? = some ((43, .istore_n 1, 1, 1, 0, 0, 0, 0, []) : zm_E) := (congrArg (fun l => l[28]?) cd_189).trans rfl
theorem c_189_29 : (zm_cd 189)[29]? = some ((44, .iload_n 2, 1, 2, 0, 0, 0, 0, []) : zm_E) := (congrArg (fun l => l[29]?) cd_189).trans rfl
theorem c_189_30 : (zm_cd 189)[30]? = some ((45, .iconst 1, 1, 0, 0, 0, 1, 0, []) : zm_E) := (congrArg (fun l => l[30]?) cd_189).trans rfl
theorem c_189_31 : (zm_cd 189)[31]? = some ((46, .aload_n 0, 1, 0, 0, 0, 0, 0, []) : zm_E) := (congrArg (fun l => l[31]?) cd_189).trans rfl
theorem c_189_32 : (zm_cd 189)[32]? = some ((47, .iload 5, 2, 5, 0, 0, 0, 0, []) : zm_E) := (congrArg (fun l => l[32]?) cd_189).trans rfl
theorem c_189_33 : (zm_cd 189)[33]? = some ((49, .iconst 0, 1, 0, 0, 0, 0, 0, []) : zm_E) := (congrArg (fun l => l[33]?) cd_189).trans rfl
theorem c_189_34 : (zm_cd 189)[34]? = some ((50, .invokevirtual 15, 3, 6, 2, 1, 0, 0, [7]) : zm_E) := (congrArg (fun l => l[34]?) cd_189).trans rfl
theorem c_189_35 : (zm_cd 189)[35]? = some ((53, .ishl, 1, 0, 0, 0, 0, 0, []) : zm_E) := (congrArg (fun l => l[35]?) cd_189).trans rfl
theorem c_189_36 : (zm_cd 189)[36]? = some ((54, .ior, 1, 0, 0, 0, 0, 0, []) : zm_E) := (congrArg (fun l => l[36]?) cd_189).trans rfl
theorem c_189_37 : (zm_cd 189)[37]? = some ((55, .istore_n 2, 1, 2, 0, 0, 0, 0, []) : zm_E) := (congrArg (fun l => l[37]?) cd_189).trans rfl
theorem c_189_38 : (zm_cd 189)[38]? = some ((56, .iload_n 3, 1, 3, 0, 0, 0, 0, []) : zm_E) := (congrArg (fun l => l[38]?) cd_189).trans rfl
theorem c_189_39 : (zm_cd 189)[39]? = some ((57, .aload_n 0, 1, 0, 0, 0, 0, 0, []) : zm_E) := (congrArg (fun l => l[39]?) cd_189).trans rfl
theorem c_189_40 : (zm_cd 189)[40]? = some ((58, .iload 5, 2, 5, 0, 0, 0, 0, []) : zm_E) := (congrArg (fun l => l[40]?) cd_189).trans rfl
theorem c_189_41 : (zm_cd 189)[41]? = some ((60, .aload_n 0, 1, 0, 0, 0, 0, 0, []) : zm_E) := (congrArg (fun l => l[41]?) cd_189).trans rfl
theorem c_189_42 : (zm_cd 189)[42]? = some ((61, .iload 5, 2, 5, 0, 0, 0, 0, []) : zm_E) := (congrArg (fun l => l[42]?) cd_189).trans rfl
theorem c_189_43 : (zm_cd 189)[43]? = some ((63, .invokevirtual 33, 3, 22, 1, 1, 0, 0, [7]) : zm_E) := (congrArg (fun l => l[43]?) cd_189).trans rfl
theorem c_189_44 : (zm_cd 189)[44]? = some ((66, .invokevirtual 19, 3, 7, 2, 1, 0, 0, [7]) : zm_E) := (congrArg (fun l => l[44]?) cd_189).trans rfl
theorem c_189_45 : (zm_cd 189)[45]? = some ((69, .iadd, 1, 0, 0, 0, 0, 0, []) : zm_E) := (congrArg (fun l => l[45]?) cd_189).trans rfl
theorem c_189_46 : (zm_cd 189)[46]? = some ((70, .istore_n 3, 1, 3, 0, 0, 0, 0, []) : zm_E) := (congrArg (fun l => l[46]?) cd_189).trans rfl
theorem c_189_47 : (zm_cd 189)[47]? = some ((71, .iload 4, 2, 4, 0, 0, 0, 0, []) : zm_E) := (congrArg (fun l => l[47]?) cd_189).trans rfl
theorem c_189_48 : (zm_cd 189)[48]? = some ((73, .aload_n 0, 1, 0, 0, 0, 0, 0, []) : zm_E) := (congrArg (fun l => l[48]?) cd_189).trans rfl
theorem c_189_49 : (zm_cd 189)[49]? = some ((74, .iload 5, 2, 5, 0, 0, 0, 0, []) : zm_E) := (congrArg (fun l => l[49]?) cd_189).trans rfl
theorem c_189_50 : (zm_cd 189)[50]? = some ((76, .iconst 1, 1, 0, 0, 0, 1, 0, []) : zm_E) := (congrArg (fun l => l[50]?) cd_189).trans rfl
theorem c_189_51 : (zm_cd 189)[51]? = some ((77, .invokevirtual 15, 3, 6, 2, 1, 0, 0, [7]) : zm_E) := (congrArg (fun l => l[51]?) cd_189).trans rfl
theorem c_189_52 : (zm_cd 189)[52]? = some ((80, .iadd, 1, 0, 0, 0, 0, 0, []) : zm_E) := (congrArg (fun l => l[52]?) cd_189).trans rfl
theorem c_189_53 : (zm_cd 189)[53]? = some ((81, .istore 4, 2, 4, 0, 0, 0, 0, []) : zm_E) := (congrArg (fun l => l[53]?) cd_189).trans rfl
theorem c_189_54 : (zm_cd 189)[54]? = some ((83, .goto 25, 3, 66, 0, 0, 0, 0, []) : zm_E) := (congrArg (fun l => l[54]?) cd_189).trans rfl
theorem c_189_55 : (zm_cd 189)[55]? = some ((86, .aload_n 0, 1, 0, 0, 0, 0, 0, []) : zm_E) := (congrArg (fun l => l[55]?) cd_189).trans rfl
theorem c_189_56 : (zm_cd 189)[56]? = some ((87, .iload 5, 2, 5, 0, 0, 0, 0, []) : zm_E) := (congrArg (fun l => l[56]?) cd_189).trans rfl
theorem c_189_57 : (zm_cd 189)[57]? = some ((89, .invokevirtual 33, 3, 22, 1, 1, 0, 0, [7]) : zm_E) := (congrArg (fun l => l[57]?) cd_189).trans rfl
theorem c_189_58 : (zm_cd 189)[58]? = some ((92, .bipush (-9), 2, 0, 0, 0, (-9), 0, []) : zm_E) := (congrArg (fun l => l[58]?) cd_189).trans rfl
theorem c_189_59 : (zm_cd 189)[59]? = some ((94, .if_icmp .ne 12, 3, 64, 0, 0, 0, 0, []) : zm_E) := (congrArg (fun l => l[59]?) cd_189).trans rfl
theorem c_189_60 : (zm_cd 189)[60]? = some ((97, .aload_n 0, 1, 0, 0, 0, 0, 0, []) : zm_E) := (congrArg (fun l => l[60]?) cd_189).trans rfl
theorem c_189_61 : (zm_cd 189)[61]? = some ((98, .iload 5, 2, 5, 0, 0, 0, 0, []) : zm_E) := (congrArg (fun l => l[61]?) cd_189).trans rfl
theorem c_189_62 : (zm_cd 189)[62]? = some ((100, .invokevirtual 36, 3, 24, 1, 1, 0, 0, [7]) : zm_E) := (congrArg (fun l => l[62]?) cd_189).trans rfl
theorem c_189_63 : (zm_cd 189)[63]? = some ((103, .ifCond .eq 5, 3, 66, 0, 0, 0, 0, []) : zm_E) := (congrArg (fun l => l[63]?) cd_189).trans rfl
theorem c_189_64 : (zm_cd 189)[64]? = some ((106, .iconst 0, 1, 0, 0, 0, 0, 0, []) : zm_E) := (congrArg (fun l => l[64]?) cd_189).trans rfl
theorem c_189_65 : (zm_cd 189)[65]? = some ((107, .ireturn, 1, 1, 0, 0, 0, 0, []) : zm_E) := (congrArg (fun l => l[65]?) cd_189).trans rfl
theorem c_189_66 : (zm_cd 189)[66]? = some ((108, .iinc 5 1, 3, 5, 0, 0, 1, 0, []) : zm_E) := (congrArg (fun l => l[66]?) cd_189).trans rfl
theorem c_189_67 : (zm_cd 189)[67]? = some ((111, .goto (-99), 3, 10, 0, 0, 0, 0, []) : zm_E) := (congrArg (fun l => l[67]?) cd_189).trans rfl
theorem c_189_68 : (zm_cd 189)[68]? = some ((114, .iload_n 1, 1, 1, 0, 0, 0, 0, []) : zm_E) := (congrArg (fun l => l[68]?) cd_189).trans rfl
theorem c_189_69 : (zm_cd 189)[69]? = some ((115, .iload_n 2, 1, 2, 0, 0, 0, 0, []) : zm_E) := (congrArg (fun l => l[69]?) cd_189).trans rfl
theorem c_189_70 : (zm_cd 189)[70]? = some ((116, .if_icmp .ne 21, 3, 80, 0, 0, 0, 0, []) : zm_E) := (congrArg (fun l => l[70]?) cd_189).trans rfl
theorem c_189_71 : (zm_cd 189)[71]? = some ((119, .iload_n 3, 1, 3, 0, 0, 0, 0, []) : zm_E) := (congrArg (fun l => l[71]?) cd_189).trans rfl
theorem c_189_72 : (zm_cd 189)[72]? = some ((120, .aload_n 0, 1, 0, 0, 0, 0, 0, []) : zm_E) := (congrArg (fun l => l[72]?) cd_189).trans rfl
theorem c_189_73 : (zm_cd 189)[73]? = some ((121, .invokevirtual 39, 3, 21, 0, 1, 0, 0, [7]) : zm_E) := (congrArg (fun l => l[73]?) cd_189).trans rfl
theorem c_189_74 : (zm_cd 189)[74]? = some ((124, .if_icmp .ne 13, 3, 80, 0, 0, 0, 0, []) : zm_E) := (congrArg (fun l => l[74]?) cd_189).trans rfl
theorem c_189_75 : (zm_cd 189)[75]? = some ((127, .iload_n 3, 1, 3, 0, 0, 0, 0, []) : zm_E) := (congrArg (fun l => l[75]?) cd_189).trans rfl
theorem c_189_76 : (zm_cd 189)[76]? = some ((128, .iload 4, 2, 4, 0, 0, 0, 0, []) : zm_E) := (congrArg (fun l => l[76]?) cd_189).trans rfl
theorem c_189_77 : (zm_cd 189)[77]? = some ((130, .if_icmp .gt 7, 3, 80, 0, 0, 0, 0, []) : zm_E) := (congrArg (fun l => l[77]?) cd_189).trans rfl
theorem c_189_78 : (zm_cd 189)[78]? = some ((133, .iconst 1, 1, 0, 0, 0, 1, 0, []) : zm_E) := (congrArg (fun l => l[78]?) cd_189).trans rfl
theorem c_189_79 : (zm_cd 189)[79]? = some ((134, .goto 4, 3, 81, 0, 0, 0, 0, []) : zm_E) := (congrArg (fun l => l[79]?) cd_189).trans rfl
theorem c_189_80 : (zm_cd 189)[80]? = some ((137, .iconst 0, 1, 0, 0, 0, 0, 0, []) : zm_E) := (congrArg (fun l => l[80]?) cd_189).trans rfl
theorem c_189_81 : (zm_cd 189)[81]? = some ((138, .istore 5, 2, 5, 0, 0, 0, 0, []) : zm_E) := (congrArg (fun l => l[81]?) cd_189).trans rfl
theorem c_189_82 : (zm_cd 189)[82]? = some ((140, .aload_n 0, 1, 0, 0, 0, 0, 0, []) : zm_E) := (congrArg (fun l => l[82]?) cd_189).trans rfl
theorem c_189_83 : (zm_cd 189)[83]? = some ((141, .iconst 0, 1, 0, 0, 0, 0, 0, []) : zm_E) := (congrArg (fun l => l[83]?) cd_189).trans rfl
theorem c_189_84 : (zm_cd 189)[84]? = some ((142, .invokevirtual 43, 3, 19, 1, 1, 0, 0, [7]) : zm_E) := (congrArg (fun l => l[84]?) cd_189).trans rfl
theorem c_189_85 : (zm_cd 189)[85]? = some ((145, .istore 6, 2, 6, 0, 0, 0, 0, []) : zm_E) := (congrArg (fun l => l[85]?) cd_189).trans rfl
theorem c_189_86 : (zm_cd 189)[86]? = some ((147, .aload_n 0, 1, 0, 0, 0, 0, 0, []) : zm_E) := (congrArg (fun l => l[86]?) cd_189).trans rfl
theorem c_189_87 : (zm_cd 189)[87]? = some ((148, .iconst 1, 1, 0, 0, 0, 1, 0, []) : zm_E) := (congrArg (fun l => l[87]?) cd_189).trans rfl
theorem c_189_88 : (zm_cd 189)[88]? = some ((149, .invokevirtual 43, 3, 19, 1, 1, 0, 0, [7]) : zm_E) := (congrArg (fun l => l[88]?) cd_189).trans rfl
theorem c_189_89 : (zm_cd 189)[89]? = some ((152, .istore 7, 2, 7, 0, 0, 0, 0, []) : zm_E) := (congrArg (fun l => l[89]?) cd_189).trans rfl
theorem c_189_90 : (zm_cd 189)[90]? = some ((154, .iload 5, 2, 5, 0, 0, 0, 0, []) : zm_E) := (congrArg (fun l => l[90]?) cd_189).trans rfl
theorem c_189_91 : (zm_cd 189)[91]? = some ((156, .ifCond .eq 80, 3, 126, 0, 0, 0, 0, []) : zm_E) := (congrArg (fun l => l[91]?) cd_189).trans rfl
theorem c_189_92 : (zm_cd 189)[92]? = some ((159, .iload 6, 2, 6, 0, 0, 0, 0, []) : zm_E) := (congrArg (fun l => l[92]?) cd_189).trans rfl
theorem c_189_93 : (zm_cd 189)[93]? = some ((161, .ifCond .ge 21, 3, 102, 0, 0, 0, 0, []) : zm_E) := (congrArg (fun l => l[93]?) cd_189).trans rfl
theorem c_189_94 : (zm_cd 189)[94]? = some ((164, .iload 6, 2, 6, 0, 0, 0, 0, []) : zm_E) := (congrArg (fun l => l[94]?) cd_189).trans rfl
theorem c_189_95 : (zm_cd 189)[95]? = some ((166, .bipush (-9), 2, 0, 0, 0, (-9), 0, []) : zm_E) := (congrArg (fun l => l[95]?) cd_189).trans rfl
theorem c_189_96 : (zm_cd 189)[96]? = some ((168, .if_icmp .ne 68, 3, 126, 0, 0, 0, 0, []) : zm_E) := (congrArg (fun l => l[96]?) cd_189).trans rfl
theorem c_189_97 : (zm_cd 189)[97]? = some ((171, .aload_n 0, 1, 0, 0, 0, 0, 0, []) : zm_E) := (congrArg (fun l => l[97]?) cd_189).trans rfl
theorem c_189_98 : (zm_cd 189)[98]? = some ((172, .iconst 0, 1, 0, 0, 0, 0, 0, []) : zm_E) := (congrArg (fun l => l[98]?) cd_189).trans rfl
theorem c_189_99 : (zm_cd 189)[99]? = some ((173, .invokevirtual 47, 3, 20, 1, 1, 0, 0, [7]) : zm_E) := (congrArg (fun l => l[99]?) cd_189).trans rfl
theorem c_189_100 : (zm_cd 189)[100]? = some ((176, .ifCond .ne 60, 3, 126, 0, 0, 0, 0, []) : zm_E) := (congrArg (fun l => l[100]?) cd_189).trans rfl
theorem c_189_101 : (zm_cd 189)[101]? = some ((179, .goto 11, 3, 106, 0, 0, 0, 0, []) : zm_E) := (congrArg (fun l => l[101]?) cd_189).trans rfl
theorem c_189_102 : (zm_cd 189)[102]? = some ((182, .aload_n 0, 1, 0, 0, 0, 0, 0, []) : zm_E) := (congrArg (fun l => l[102]?) cd_189).trans rfl
theorem c_189_103 : (zm_cd 189)[103]? = some ((183, .iconst 0, 1, 0, 0, 0, 0, 0, []) : zm_E) := (congrArg (fun l => l[103]?) cd_189).trans rfl
theorem c_189_104 : (zm_cd 189)[104]? = some ((184, .invokevirtual 47, 3, 20, 1, 1, 0, 0, [7]) : zm_E) := (congrArg (fun l => l[104]?) cd_189).trans rfl
theorem c_189_105 : (zm_cd 189)[105]? = some ((187, .ifCond .le 49, 3, 126, 0, 0, 0, 0, []) : zm_E) := (congrArg (fun l => l[105]?) cd_189).trans rfl
theorem c_189_106 : (zm_cd 189)[106]? = some ((190, .iload 7, 2, 7, 0, 0, 0, 0, []) : zm_E) := (congrArg (fun l => l[106]?) cd_189).trans rfl
theorem c_189_107 : (zm_cd 189)[107]? = some ((192, .ifCond .ge 14, 3, 113, 0, 0, 0, 0, []) : zm_E) := (congrArg (fun l => l[107]?) cd_189).trans rfl
theorem c_189_108 : (zm_cd 189)[108]? = some ((195, .aload_n 0, 1, 0, 0, 0, 0, 0, []) : zm_E) := (congrArg (fun l => l[108]?) cd_189).trans rfl
theorem c_189_109 : (zm_cd 189)[109]? = some ((196, .iconst 1, 1, 0, 0, 0, 1, 0, []) : zm_E) := (congrArg (fun l => l[109]?) cd_189).trans rfl
theorem c_189_110 : (zm_cd 189)[110]? = some ((197, .invokevirtual 47, 3, 20, 1, 1, 0, 0, [7]) : zm_E) := (congrArg (fun l => l[110]?) cd_189).trans rfl
theorem c_189_111 : (zm_cd 189)[111]? = some ((200, .ifCond .ne 36, 3, 126, 0, 0, 0, 0, []) : zm_E) := (congrArg (fun l => l[111]?) cd_189).trans rfl
theorem c_189_112 : (zm_cd 189)[112]? = some ((203, .goto 29, 3, 124, 0, 0, 0, 0, []) : zm_E) := (congrArg (fun l => l[112]?) cd_189).trans rfl
theorem c_189_113 : (zm_cd 189)[113]? = some ((206, .aload_n 0, 1, 0, 0, 0, 0, 0, []) : zm_E) := (congrArg (fun l => l[113]?) cd_189).trans rfl
theorem c_189_114 : (zm_cd 189)[114]? = some ((207, .iconst 1, 1, 0, 0, 0, 1, 0, []) : zm_E) := (congrArg (fun l => l[114]?) cd_189).trans rfl
theorem c_189_115 : (zm_cd 189)[115]? = some ((208, .invokevirtual 47, 3, 20, 1, 1, 0, 0, [7]) : zm_E) := (congrArg (fun l => l[115]?) cd_189).trans rfl
theorem c_189_116 : (zm_cd 189)[116]? = some ((211, .ifCond .le 25, 3, 126, 0, 0, 0, 0, []) : zm_E) := (congrArg (fun l => l[116]?) cd_189).trans rfl
theorem c_189_117 : (zm_cd 189)[117]? = some ((214, .iload 6, 2, 6, 0, 0, 0, 0, []) : zm_E) := (congrArg (fun l => l[117]?) cd_189).trans rfl
theorem c_189_118 : (zm_cd 189)[118]? = some ((216, .ifCond .le 20, 3, 126, 0, 0, 0, 0, []) : zm_E) := (congrArg (fun l => l[118]?) cd_189).trans rfl
theorem c_189_119 : (zm_cd 189)[119]? = some ((219, .iload 6, 2, 6, 0, 0, 0, 0, []) : zm_E) := (congrArg (fun l => l[119]?) cd_189).trans rfl
theorem c_189_120 : (zm_cd 189)[120]? = some ((221, .invokestatic 25, 3, 186, 1, 1, 0, 0, []) : zm_E) := (congrArg (fun l => l[120]?) cd_189).trans rfl
theorem c_189_121 : (zm_cd 189)[121]? = some ((224, .iload 7, 2, 7, 0, 0, 0, 0, []) : zm_E) := (congrArg (fun l => l[121]?) cd_189).trans rfl
theorem c_189_122 : (zm_cd 189)[122]? = some ((226, .invokestatic 25, 3, 186, 1, 1, 0, 0, []) : zm_E) := (congrArg (fun l => l[122]?) cd_189).trans rfl
theorem c_189_123 : (zm_cd 189)[123]? = some ((229, .if_icmp .gt 7, 3, 126, 0, 0, 0, 0, []) : zm_E) := (congrArg (fun l => l[123]?) cd_189).trans rfl
theorem c_189_124 : (zm_cd 189)[124]? = some ((232, .iconst 1, 1, 0, 0, 0, 1, 0, []) : zm_E) := (congrArg (fun l => l[124]?) cd_189).trans rfl
theorem c_189_125 : (zm_cd 189)[125]? = some ((233, .goto 4, 3, 127, 0, 0, 0, 0, []) : zm_E) := (congrArg (fun l => l[125]?) cd_189).trans rfl
theorem c_189_126 : (zm_cd 189)[126]? = some ((236, .iconst 0, 1, 0, 0, 0, 0, 0, []) : zm_E) := (congrArg (fun l => l[126]?) cd_189).trans rfl
theorem c_189_127 : (zm_cd 189)[127]? = some ((237, .istore 5, 2, 5, 0, 0, 0, 0, []) : zm_E) := (congrArg (fun l => l[127]?) cd_189).trans rfl
theorem c_189_128 : (zm_cd 189)[128]? = some ((239, .iload 5, 2, 5, 0, 0, 0, 0, []) : zm_E) := (congrArg (fun l => l[128]?) cd_189).trans rfl
theorem c_189_129 : (zm_cd 189)[129]? = some ((241, .ifCond .eq 20, 3, 139, 0, 0, 0, 0, []) : zm_E) := (congrArg (fun l => l[129]?) cd_189).trans rfl
theorem c_189_130 : (zm_cd 189)[130]? = some ((244, .aload_n 0, 1, 0, 0, 0, 0, 0, []) : zm_E) := (congrArg (fun l => l[130]?) cd_189).trans rfl
theorem c_189_131 : (zm_cd 189)[131]? = some ((245, .iconst 1, 1, 0, 0, 0, 1, 0, []) : zm_E) := (congrArg (fun l => l[131]?) cd_189).trans rfl
theorem c_189_132 : (zm_cd 189)[132]? = some ((246, .invokevirtual 47, 3, 20, 1, 1, 0, 0, [7]) : zm_E) := (congrArg (fun l => l[132]?) cd_189).trans rfl
theorem c_189_133 : (zm_cd 189)[133]? = some ((249, .aload_n 0, 1, 0, 0, 0, 0, 0, []) : zm_E) := (congrArg (fun l => l[133]?) cd_189).trans rfl
theorem c_189_134 : (zm_cd 189)[134]? = some ((250, .iconst 0, 1, 0, 0, 0, 0, 0, []) : zm_E) := (congrArg (fun l => l[134]?) cd_189).trans rfl
theorem c_189_135 : (zm_cd 189)[135]? = some ((251, .invokevirtual 47, 3, 20, 1, 1, 0, 0, [7]) : zm_E) := (congrArg (fun l => l[135]?) cd_189).trans rfl
theorem c_189_136 : (zm_cd 189)[136]? = some ((254, .if_icmp .gt 7, 3, 139, 0, 0, 0, 0, []) : zm_E) := (congrArg (fun l => l[136]?) cd_189).trans rfl
theorem c_189_137 : (zm_cd 189)[137]? = some ((257, .iconst 1, 1, 0, 0, 0, 1, 0, []) : zm_E) := (congrArg (fun l => l[137]?) cd_189).trans rfl
theorem c_189_138 : (zm_cd 189)[138]? = some ((258, .goto 4, 3, 140, 0, 0, 0, 0, []) : zm_E) := (congrArg (fun l => l[138]?) cd_189).trans rfl
theorem c_189_139 : (zm_cd 189)[139]? = some ((261, .iconst 0, 1, 0, 0, 0, 0, 0, []) : zm_E) := (congrArg (fun l => l[139]?) cd_189).trans rfl
theorem c_189_140 : (zm_cd 189)[140]? = some ((262, .ireturn, 1, 1, 0, 0, 0, 0, []) : zm_E) := (congrArg (fun l => l[140]?) cd_189).trans rfl
theorem cd_207 : zm_cd 207 = zd_207 := rfl
theorem ml_207 : zm_ml 207 = 1 := rfl
theorem ht_207 : zm_ht 207 = [] := rfl
theorem c_207_0 : (zm_cd 207)[0]? = some ((0, .iload_n 0, 1, 0, 0, 0, 0, 0, []) : zm_E) := (congrArg (fun l => l[0]?) cd_207).trans rfl
theorem c_207_1 : (zm_cd 207)[1]? = some ((1, .iload_n 0, 1, 0, 0, 0, 0, 0, []) : zm_E) := (congrArg (fun l => l[1]?) cd_207).trans rfl
theorem c_207_2 : (zm_cd 207)[2]? = some ((2, .iconst 1, 1, 0, 0, 0, 1, 0, []) : zm_E) := (congrArg (fun l => l[2]?) cd_207).trans rfl
theorem c_207_3 : (zm_cd 207)[3]? = some ((3, .iushr, 1, 0, 0, 0, 0, 0, []) : zm_E) := (congrArg (fun l => l[3]?) cd_207).trans rfl
theorem c_207_4 : (zm_cd 207)[4]? = some ((4, .ldc_w 265, 3, 0, 0, 0, 1431655765, 0, []) : zm_E) := (congrArg (fun l => l[4]?) cd_207).trans rfl
theorem c_207_5 : (zm_cd 207)[5]? = some ((7, .iand, 1, 0, 0, 0, 0, 0, []) : zm_E) := (congrArg (fun l => l[5]?) cd_207).trans rfl
theorem c_207_6 : (zm_cd 207)[6]? = some ((8, .isub, 1, 0, 0, 0, 0, 0, []) : zm_E) := (congrArg (fun l => l[6]?) cd_207).trans rfl
theorem c_207_7 : (zm_cd 207)[7]? = some ((9, .istore_n 0, 1, 0, 0, 0, 0, 0, []) : zm_E) := (congrArg (fun l => l[7]?) cd_207).trans rfl
theorem c_207_8 : (zm_cd 207)[8]? = some ((10, .iload_n 0, 1, 0, 0, 0, 0, 0, []) : zm_E) := (congrArg (fun l => l[8]?) cd_207).trans rfl
theorem c_207_9 : (zm_cd 207)[9]? = some ((11, .ldc_w 266, 3, 0, 0, 0, 858993459, 0, []) : zm_E) := (congrArg (fun l => l[9]?) cd_207).trans rfl
theorem c_207_10 : (zm_cd 207)[10]? = some ((14, .iand, 1, 0, 0, 0, 0, 0, []) : zm_E) := (congrArg (fun l => l[10]?) cd_207).trans rfl
theorem c_207_11 : (zm_cd 207)[11]? = some ((15, .iload_n 0, 1, 0, 0, 0, 0, 0, []) : zm_E) := (congrArg (fun l => l[11]?) cd_207).trans rfl
theorem c_207_12 : (zm_cd 207)[12]? = some ((16, .iconst 2, 1, 0, 0, 0, 2, 0, []) : zm_E) := (congrArg (fun l => l[12]?) cd_207).trans rfl
theorem c_207_13 : (zm_cd 207)[13]? = some ((17, .iushr, 1, 0, 0, 0, 0, 0, []) : zm_E) := (congrArg (fun l => l[13]?) cd_207).trans rfl
theorem c_207_14 : (zm_cd 207)[14]? = some ((18, .ldc_w 266, 3, 0, 0, 0, 858993459, 0, []) : zm_E) := (congrArg (fun l => l[14]?) cd_207).trans rfl
theorem c_207_15 : (zm_cd 207)[15]? = some ((21, .iand, 1, 0, 0, 0, 0, 0, []) : zm_E) := (congrArg (fun l => l[15]?) cd_207).trans rfl
theorem c_207_16 : (zm_cd 207)[16]? = some ((22, .iadd, 1, 0, 0, 0, 0, 0, []) : zm_E) := (congrArg (fun l => l[16]?) cd_207).trans rfl
theorem c_207_17 : (zm_cd 207)[17]? = some ((23, .istore_n 0, 1, 0, 0, 0, 0, 0, []) : zm_E) := (congrArg (fun l => l[17]?) cd_207).trans rfl
theorem c_207_18 : (zm_cd 207)[18]? = some ((24, .iload_n 0, 1, 0, 0, 0, 0, 0, []) : zm_E) := (congrArg (fun l => l[18]?) cd_207).trans rfl
theorem c_207_19 : (zm_cd 207)[19]? = some ((25, .iload_n 0, 1, 0, 0, 0, 0, 0, []) : zm_E) := (congrArg (fun l => l[19]?) cd_207).trans rfl
theorem c_207_20 : (zm_cd 207)[20]? = some ((26, .iconst 4, 1, 0, 0, 0, 4, 0, []) : zm_E) := (congrArg (fun l => l[20]?) cd_207).trans rfl
theorem c_207_21 : (zm_cd 207)[21]? = some ((27, .iushr, 1, 0, 0, 0, 0, 0, []) : zm_E) := (congrArg (fun l => l[21]?) cd_207).trans rfl
theorem c_207_22 : (zm_cd 207)[22]? = some ((28, .iadd, 1, 0, 0, 0, 0, 0, []) : zm_E) := (congrArg (fun l => l[22]?) cd_207).trans rfl
theorem c_207_23 : (zm_cd 207)[23]? = some ((29, .ldc_w 267, 3, 0, 0, 0, 252645135, 0, []) : zm_E) := (congrArg (fun l => l[23]?) cd_207).trans rfl
theorem c_207_24 : (zm_cd 207)[24]? = some ((32, .iand, 1, 0, 0, 0, 0, 0, []) : zm_E) := (congrArg (fun l => l[24]?) cd_207).trans rfl
theorem c_207_25 : (zm_cd 207)[25]? = some ((33, .istore_n 0, 1, 0, 0, 0, 0, 0, []) : zm_E) := (congrArg (fun l => l[25]?) cd_207).trans rfl
theorem c_207_26 : (zm_cd 207)[26]? = some ((34, .iload_n 0, 1, 0, 0, 0, 0, 0, []) : zm_E) := (congrArg (fun l => l[26]?) cd_207).trans rfl
theorem c_207_27 : (zm_cd 207)[27]? = some ((35, .iload_n 0, 1, 0, 0, 0, 0, 0, []) : zm_E) := (congrArg (fun l => l[27]?) cd_207).trans rfl
theorem c_207_28 : (zm_cd 207)[28]? = some ((36, .bipush 8, 2, 0, 0, 0, 8, 0, []) : zm_E) := (congrArg (fun l => l[28]?) cd_207).trans rfl
theorem c_207_29 : (zm_cd 207)[29]? = some ((38, .iushr, 1, 0, 0, 0, 0, 0, []) : zm_E) := (congrArg (fun l => l[29]?) cd_207).trans rfl
theorem c_207_30 : (zm_cd 207)[30]? = some ((39, .iadd, 1, 0, 0, 0, 0, 0, []) : zm_E) := (congrArg (fun l => l[30]?) cd_207).trans rfl
theorem c_207_31 : (zm_cd 207)[31]? = some ((40, .istore_n 0, 1, 0, 0, 0, 0, 0, []) : zm_E) := (congrArg (fun l => l[31]?) cd_207).trans rfl
theorem c_207_32 : (zm_cd 207)[32]? = some ((41, .iload_n 0, 1, 0, 0, 0, 0, 0, []) : zm_E) := (congrArg (fun l => l[32]?) cd_207).trans rfl
theorem c_207_33 : (zm_cd 207)[33]? = some ((42, .iload_n 0, 1, 0, 0, 0, 0, 0, []) : zm_E) := (congrArg (fun l => l[33]?) cd_207).trans rfl
theorem c_207_34 : (zm_cd 207)[34]? = some ((43, .bipush 16, 2, 0, 0, 0, 16, 0, []) : zm_E) := (congrArg (fun l => l[34]?) cd_207).trans rfl
theorem c_207_35 : (zm_cd 207)[35]? = some ((45, .iushr, 1, 0, 0, 0, 0, 0, []) : zm_E) := (congrArg (fun l => l[35]?) cd_207).trans rfl
theorem c_207_36 : (zm_cd 207)[36]? = some ((46, .iadd, 1, 0, 0, 0, 0, 0, []) : zm_E) := (congrArg (fun l => l[36]?) cd_207).trans rfl
theorem c_207_37 : (zm_cd 207)[37]? = some ((47, .istore_n 0, 1, 0, 0, 0, 0, 0, []) : zm_E) := (congrArg (fun l => l[37]?) cd_207).trans rfl
theorem c_207_38 : (zm_cd 207)[38]? = some ((48, .iload_n 0, 1, 0, 0, 0, 0, 0, []) : zm_E) := (congrArg (fun l => l[38]?) cd_207).trans rfl
theorem c_207_39 : (zm_cd 207)[39]? = some ((49, .bipush 63, 2, 0, 0, 0, 63, 0, []) : zm_E) := (congrArg (fun l => l[39]?) cd_207).trans rfl
theorem c_207_40 : (zm_cd 207)[40]? = some ((51, .iand, 1, 0, 0, 0, 0, 0, []) : zm_E) := (congrArg (fun l => l[40]?) cd_207).trans rfl
theorem c_207_41 : (zm_cd 207)[41]? = some ((52, .ireturn, 1, 0, 0, 0, 0, 0, []) : zm_E) := (congrArg (fun l => l[41]?) cd_207).trans rfl
theorem cd_208 : zm_cd 208 = zd_208 := rfl
theorem ml_208 : zm_ml 208 = 5 := rfl
theorem ht_208 : zm_ht 208 = [] := rfl
theorem c_208_0 : (zm_cd 208)[0]? = some ((0, .iconst 0, 1, 0, 0, 0, 0, 0, []) : zm_E) := (congrArg (fun l => l[0]?) cd_208).trans rfl
theorem c_208_1 : (zm_cd 208)[1]? = some ((1, .istore_n 3, 1, 3, 0, 0, 0, 0, []) : zm_E) := (congrArg (fun l => l[1]?) cd_208).trans rfl
theorem c_208_2 : (zm_cd 208)[2]? = some ((2, .aload_n 0, 1, 0, 0, 0, 0, 0, []) : zm_E) := (congrArg (fun l => l[2]?) cd_208).trans rfl
theorem c_208_3 : (zm_cd 208)[3]? = some ((3, .arraylength, 1, 0, 0, 0, 0, 0, []) : zm_E) := (congrArg (fun l => l[3]?) cd_208).trans rfl
theorem c_208_4 : (zm_cd 208)[4]? = some ((4, .istore 4, 2, 4, 0, 0, 0, 0, []) : zm_E) := (congrArg (fun l => l[4]?) cd_208).trans rfl
theorem c_208_5 : (zm_cd 208)[5]? = some ((6, .iload_n 3, 1, 3, 0, 0, 0, 0, []) : zm_E) := (congrArg (fun l => l[5]?) cd_208).trans rfl
theorem c_208_6 : (zm_cd 208)[6]? = some ((7, .iload 4, 2, 4, 0, 0, 0, 0, []) : zm_E) := (congrArg (fun l => l[6]?) cd_208).trans rfl
theorem c_208_7 : (zm_cd 208)[7]? = some ((9, .if_icmp .ge 13, 3, 14, 0, 0, 0, 0, []) : zm_E) := (congrArg (fun l => l[7]?) cd_208).trans rfl
theorem c_208_8 : (zm_cd 208)[8]? = some ((12, .aload_n 0, 1, 0, 0, 0, 0, 0, []) : zm_E) := (congrArg (fun l => l[8]?) cd_208).trans rfl
theorem c_208_9 : (zm_cd 208)[9]? = some ((13, .iload_n 3, 1, 3, 0, 0, 0, 0, []) : zm_E) := (congrArg (fun l => l[9]?) cd_208).trans rfl
theorem c_208_10 : (zm_cd 208)[10]? = some ((14, .lload_n 1, 1, 1, 0, 0, 0, 0, []) : zm_E) := (congrArg (fun l => l[10]?) cd_208).trans rfl
theorem c_208_11 : (zm_cd 208)[11]? = some ((15, .lastore, 1, 0, 0, 0, 0, 0, []) : zm_E) := (congrArg (fun l => l[11]?) cd_208).trans rfl
theorem c_208_12 : (zm_cd 208)[12]? = some ((16, .iinc 3 1, 3, 3, 0, 0, 1, 0, []) : zm_E) := (congrArg (fun l => l[12]?) cd_208).trans rfl
theorem c_208_13 : (zm_cd 208)[13]? = some ((19, .goto (-13), 3, 5, 0, 0, 0, 0, []) : zm_E) := (congrArg (fun l => l[13]?) cd_208).trans rfl
theorem c_208_14 : (zm_cd 208)[14]? = some ((22, .return_, 1, 0, 0, 0, 0, 0, []) : zm_E) := (congrArg (fun l => l[14]?) cd_208).trans rfl
theorem cd_209 : zm_cd 209 = zd_209 := rfl
theorem ml_209 : zm_ml 209 = 2 := rfl
theorem ht_209 : zm_ht 209 = [] := rfl
theorem c_209_0 : (zm_cd 209)[0]? = some ((0, .iload_n 1, 1, 1, 0, 0, 0, 0, []) : zm_E) := (congrArg (fun l => l[0]?) cd_209).trans rfl
theorem c_209_1 : (zm_cd 209)[1]? = some ((1, .ifCond .lt 15, 3, 10, 0, 0, 0, 0, []) : zm_E) := (congrArg (fun l => l[1]?) cd_209).trans rfl
theorem c_209_2 : (zm_cd 209)[2]? = some ((4, .iload_n 1, 1, 1, 0, 0, 0, 0, []) : zm_E) := (congrArg (fun l => l[2]?) cd_209).trans rfl
theorem c_209_3 : (zm_cd 209)[3]? = some ((5, .aload_n 0, 1, 0, 0, 0, 0, 0, []) : zm_E) := (congrArg (fun l => l[3]?) cd_209).trans rfl
theorem c_209_4 : (zm_cd 209)[4]? = some ((6, .arraylength, 1, 0, 0, 0, 0, 0, []) : zm_E) := (congrArg (fun l => l[4]?) cd_209).trans rfl
theorem c_209_5 : (zm_cd 209)[5]? = some ((7, .if_icmp .ge 9, 3, 10, 0, 0, 0, 0, []) : zm_E) := (congrArg (fun l => l[5]?) cd_209).trans rfl
theorem c_209_6 : (zm_cd 209)[6]? = some ((10, .aload_n 0, 1, 0, 0, 0, 0, 0, []) : zm_E) := (congrArg (fun l => l[6]?) cd_209).trans rfl
theorem c_209_7 : (zm_cd 209)[7]? = some ((11, .iload_n 1, 1, 1, 0, 0, 0, 0, []) : zm_E) := (congrArg (fun l => l[7]?) cd_209).trans rfl
theorem c_209_8 : (zm_cd 209)[8]? = some ((12, .iaload, 1, 0, 0, 0, 0, 0, []) : zm_E) := (congrArg (fun l => l[8]?) cd_209).trans rfl
theorem c_209_9 : (zm_cd 209)[9]? = some ((13, .goto 5, 3, 11, 0, 0, 0, 0, []) : zm_E) := (congrArg (fun l => l[9]?) cd_209).trans rfl
theorem c_209_10 : (zm_cd 209)[10]? = some ((16, .bipush (-9), 2, 0, 0, 0, (-9), 0, []) : zm_E) := (congrArg (fun l => l[10]?) cd_209).trans rfl
theorem c_209_11 : (zm_cd 209)[11]? = some ((18, .ireturn, 1, 0, 0, 0, 0, 0, []) : zm_E) := (congrArg (fun l => l[11]?) cd_209).trans rfl
theorem cd_210 : zm_cd 210 = zd_210 := rfl
theorem ml_210 : zm_ml 210 = 3 := rfl
theorem ht_210 : zm_ht 210 = [] := rfl
theorem c_210_0 : (zm_cd 210)[0]? = some ((0, .iload_n 1, 1, 1, 0, 0, 0, 0, []) : zm_E) := (congrArg (fun l => l[0]?) cd_210).trans rfl
theorem c_210_1 : (zm_cd 210)[1]? = some ((1, .ifCond .lt 13, 3, 10, 0, 0, 0, 0, []) : zm_E) := (congrArg (fun l => l[1]?) cd_210).trans rfl
theorem c_210_2 : (zm_cd 210)[2]? = some ((4, .iload_n 1, 1, 1, 0, 0, 0, 0, []) : zm_E) := (congrArg (fun l => l[2]?) cd_210).trans rfl
theorem c_210_3 : (zm_cd 210)[3]? = some ((5, .aload_n 0, 1, 0, 0, 0, 0, 0, []) : zm_E) := (congrArg (fun l => l[3]?) cd_210).trans rfl
theorem c_210_4 : (zm_cd 210)[4]? = some ((6, .arraylength, 1, 0, 0, 0, 0, 0, []) : zm_E) := (congrArg (fun l => l[4]?) cd_210).trans rfl
theorem c_210_5 : (zm_cd 210)[5]? = some ((7, .if_icmp .ge 7, 3, 10, 0, 0, 0, 0, []) : zm_E) := (congrArg (fun l => l[5]?) cd_210).trans rfl
theorem c_210_6 : (zm_cd 210)[6]? = some ((10, .aload_n 0, 1, 0, 0, 0, 0, 0, []) : zm_E) := (congrArg (fun l => l[6]?) cd_210).trans rfl
theorem c_210_7 : (zm_cd 210)[7]? = some ((11, .iload_n 1, 1, 1, 0, 0, 0, 0, []) : zm_E) := (congrArg (fun l => l[7]?) cd_210).trans rfl
theorem c_210_8 : (zm_cd 210)[8]? = some ((12, .iload_n 2, 1, 2, 0, 0, 0, 0, []) : zm_E) := (congrArg (fun l => l[8]?) cd_210).trans rfl
theorem c_210_9 : (zm_cd 210)[9]? = some ((13, .iastore, 1, 0, 0, 0, 0, 0, []) : zm_E) := (congrArg (fun l => l[9]?) cd_210).trans rfl
theorem c_210_10 : (zm_cd 210)[10]? = some ((14, .return_, 1, 0, 0, 0, 0, 0, []) : zm_E) := (congrArg (fun l => l[10]?) cd_210).trans rfl
theorem cd_211 : zm_cd 211 = zd_211 := rfl
theorem ml_211 : zm_ml 211 = 2 := rfl
theorem ht_211 : zm_ht 211 = [] := rfl
theorem c_211_0 : (zm_cd 211)[0]? = some ((0, .aload_n 0, 1, 0, 0, 0, 0, 0, []) : zm_E) := (congrArg (fun l => l[0]?) cd_211).trans rfl
theorem c_211_1 : (zm_cd 211)[1]? = some ((1, .iconst 0, 1, 0, 0, 0, 0, 0, []) : zm_E) := (congrArg (fun l => l[1]?) cd_211).trans rfl
theorem c_211_2 : (zm_cd 211)[2]? = some ((2, .aload_n 1, 1, 1, 0, 0, 0, 0, []) : zm_E) := (congrArg (fun l => l[2]?) cd_211).trans rfl
theorem c_211_3 : (zm_cd 211)[3]? = some ((3, .iconst 0, 1, 0, 0, 0, 0, 0, []) : zm_E) := (congrArg (fun l => l[3]?) cd_211).trans rfl
theorem c_211_4 : (zm_cd 211)[4]? = some ((4, .aload_n 0, 1, 0, 0, 0, 0, 0, []) : zm_E) := (congrArg (fun l => l[4]?) cd_211).trans rfl
theorem c_211_5 : (zm_cd 211)[5]? = some ((5, .arraylength, 1, 0, 0, 0, 0, 0, []) : zm_E) := (congrArg (fun l => l[5]?) cd_211).trans rfl
theorem c_211_6 : (zm_cd 211)[6]? = some ((6, .aload_n 1, 1, 1, 0, 0, 0, 0, []) : zm_E) := (congrArg (fun l => l[6]?) cd_211).trans rfl
theorem c_211_7 : (zm_cd 211)[7]? = some ((7, .arraylength, 1, 0, 0, 0, 0, 0, []) : zm_E) := (congrArg (fun l => l[7]?) cd_211).trans rfl
theorem c_211_8 : (zm_cd 211)[8]? = some ((8, .invokestatic 337, 3, 1003, 2, 1, 0, 0, []) : zm_E) := (congrArg (fun l => l[8]?) cd_211).trans rfl
theorem c_211_9 : (zm_cd 211)[9]? = some ((11, .invokestatic 342, 3, 1000, 5, 0, 0, 0, []) : zm_E) := (congrArg (fun l => l[9]?) cd_211).trans rfl
theorem c_211_10 : (zm_cd 211)[10]? = some ((14, .return_, 1, 0, 0, 0, 0, 0, []) : zm_E) := (congrArg (fun l => l[10]?) cd_211).trans rfl
theorem cd_212 : zm_cd 212 = zd_212 := rfl
theorem ml_212 : zm_ml 212 = 1 := rfl
theorem ht_212 : zm_ht 212 = [] := rfl
theorem c_212_0 : (zm_cd 212)[0]? = some ((0, .aload_n 0, 1, 0, 0, 0, 0, 0, []) : zm_E) := (congrArg (fun l => l[0]?) cd_212).trans rfl
theorem c_212_1 : (zm_cd 212)[1]? = some ((1, .getfield 16, 3, 0, 1, 0, 0, 0, []) : zm_E) := (congrArg (fun l => l[1]?) cd_212).trans rfl
theorem c_212_2 : (zm_cd 212)[2]? = some ((4, .ireturn, 1, 0, 0, 0, 0, 0, []) : zm_E) := (congrArg (fun l => l[2]?) cd_212).trans rfl
