-- ===== PART A: goes FIRST, ahead of the names: the tables' words, and 'selects' of the private methods out of them =====
/-- a private method of a class that the tables say can be made, by its rows of tables_1 -/
def lw_okq (q : MethodName × Nat) : Prop := (q.1.cls ≠ "java/lang/invoke/MethodHandle" ∧ q.1.cls ≠ "java/lang/invoke/VarHandle") ∧ Cond.instantiable q.1.cls q.2 ∈ tables_1 ∧ Cond.privateMethod q.1 ∈ tables_1 ∧ Cond.instanceMethod q.1 ∈ tables_1
theorem lw_p0 : lw_okq (⟨"TradeRings$Text", "characterAt", "(I)I"⟩, 2) := ⟨⟨by decide +kernel, by decide +kernel⟩, List.mem_of_getElem? (i := 30) (by decide +kernel), List.mem_of_getElem? (i := 254) (by decide +kernel), List.mem_of_getElem? (i := 255) (by decide +kernel)⟩
theorem lw_p1 : lw_okq (⟨"TradeRings$Text", "digitAt", "(III)I"⟩, 2) := ⟨⟨by decide +kernel, by decide +kernel⟩, List.mem_of_getElem? (i := 30) (by decide +kernel), List.mem_of_getElem? (i := 261) (by decide +kernel), List.mem_of_getElem? (i := 262) (by decide +kernel)⟩
theorem lw_p2 : lw_okq (⟨"TradeRings$Text", "readRanks", "(LTradeRings$Market;I)I"⟩, 2) := ⟨⟨by decide +kernel, by decide +kernel⟩, List.mem_of_getElem? (i := 30) (by decide +kernel), List.mem_of_getElem? (i := 277) (by decide +kernel), List.mem_of_getElem? (i := 278) (by decide +kernel)⟩
theorem lw_p3 : lw_okq (⟨"TradeRings$Text", "readHoldings", "(LTradeRings$Market;I)I"⟩, 2) := ⟨⟨by decide +kernel, by decide +kernel⟩, List.mem_of_getElem? (i := 30) (by decide +kernel), List.mem_of_getElem? (i := 285) (by decide +kernel), List.mem_of_getElem? (i := 286) (by decide +kernel)⟩
theorem lw_p4 : lw_okq (⟨"TradeRings", "presentTrading", "()LTradeRings$Trading;"⟩, 11) := ⟨⟨by decide +kernel, by decide +kernel⟩, List.mem_of_getElem? (i := 22) (by decide +kernel), List.mem_of_getElem? (i := 323) (by decide +kernel), List.mem_of_getElem? (i := 324) (by decide +kernel)⟩
theorem lw_p5 : lw_okq (⟨"TradeRings$Trading", "forget", "()V"⟩, 9) := ⟨⟨by decide +kernel, by decide +kernel⟩, List.mem_of_getElem? (i := 109) (by decide +kernel), List.mem_of_getElem? (i := 339) (by decide +kernel), List.mem_of_getElem? (i := 340) (by decide +kernel)⟩
theorem lw_p6 : lw_okq (⟨"TradeRings$Trading", "point", "(LTradeRings$Market;I)V"⟩, 9) := ⟨⟨by decide +kernel, by decide +kernel⟩, List.mem_of_getElem? (i := 109) (by decide +kernel), List.mem_of_getElem? (i := 344) (by decide +kernel), List.mem_of_getElem? (i := 345) (by decide +kernel)⟩
theorem lw_p7 : lw_okq (⟨"TradeRings$Trading", "closeRings", "(LTradeRings$Market;I)I"⟩, 9) := ⟨⟨by decide +kernel, by decide +kernel⟩, List.mem_of_getElem? (i := 109) (by decide +kernel), List.mem_of_getElem? (i := 357) (by decide +kernel), List.mem_of_getElem? (i := 358) (by decide +kernel)⟩
theorem lw_p8 : lw_okq (⟨"TradeRings$Trading", "ringThrough", "(I)I"⟩, 9) := ⟨⟨by decide +kernel, by decide +kernel⟩, List.mem_of_getElem? (i := 109) (by decide +kernel), List.mem_of_getElem? (i := 361) (by decide +kernel), List.mem_of_getElem? (i := 362) (by decide +kernel)⟩
theorem lw_p9 : lw_okq (⟨"TradeRings$Trading", "addRing", "(LTradeRings$Market;I)V"⟩, 9) := ⟨⟨by decide +kernel, by decide +kernel⟩, List.mem_of_getElem? (i := 109) (by decide +kernel), List.mem_of_getElem? (i := 366) (by decide +kernel), List.mem_of_getElem? (i := 367) (by decide +kernel)⟩
theorem lw_p10 : lw_okq (⟨"TradeRings$Sharing", "noteLikings", "(LTradeRings$Market;)V"⟩, 6) := ⟨⟨by decide +kernel, by decide +kernel⟩, List.mem_of_getElem? (i := 153) (by decide +kernel), List.mem_of_getElem? (i := 388) (by decide +kernel), List.mem_of_getElem? (i := 389) (by decide +kernel)⟩
theorem lw_p11 : lw_okq (⟨"TradeRings$Sharing", "couldDoBetter", "(LTradeRings$Market;IZ)Z"⟩, 6) := ⟨⟨by decide +kernel, by decide +kernel⟩, List.mem_of_getElem? (i := 153) (by decide +kernel), List.mem_of_getElem? (i := 410) (by decide +kernel), List.mem_of_getElem? (i := 411) (by decide +kernel)⟩
theorem lw_p12 : lw_okq (⟨"TradeRings$Sharing", "lineUp", "(LTradeRings$Market;I)V"⟩, 6) := ⟨⟨by decide +kernel, by decide +kernel⟩, List.mem_of_getElem? (i := 153) (by decide +kernel), List.mem_of_getElem? (i := 414) (by decide +kernel), List.mem_of_getElem? (i := 415) (by decide +kernel)⟩
theorem lw_p13 : lw_okq (⟨"TradeRings$Sharing", "countWays", "(I[I)I"⟩, 6) := ⟨⟨by decide +kernel, by decide +kernel⟩, List.mem_of_getElem? (i := 153) (by decide +kernel), List.mem_of_getElem? (i := 419) (by decide +kernel), List.mem_of_getElem? (i := 420) (by decide +kernel)⟩
theorem lw_p14 : lw_okq (⟨"TradeRings$Sharing", "spread", "(III)V"⟩, 6) := ⟨⟨by decide +kernel, by decide +kernel⟩, List.mem_of_getElem? (i := 153) (by decide +kernel), List.mem_of_getElem? (i := 424) (by decide +kernel), List.mem_of_getElem? (i := 425) (by decide +kernel)⟩
theorem lw_p15 : lw_okq (⟨"TradeRings$Sharing", "bestThing", "(LTradeRings$Market;III)I"⟩, 6) := ⟨⟨by decide +kernel, by decide +kernel⟩, List.mem_of_getElem? (i := 153) (by decide +kernel), List.mem_of_getElem? (i := 449) (by decide +kernel), List.mem_of_getElem? (i := 450) (by decide +kernel)⟩
def lw_privs_1 : List (MethodName × Nat) := [(⟨"TradeRings$Text", "characterAt", "(I)I"⟩, 2), (⟨"TradeRings$Text", "digitAt", "(III)I"⟩, 2), (⟨"TradeRings$Text", "readRanks", "(LTradeRings$Market;I)I"⟩, 2), (⟨"TradeRings$Text", "readHoldings", "(LTradeRings$Market;I)I"⟩, 2), (⟨"TradeRings", "presentTrading", "()LTradeRings$Trading;"⟩, 11), (⟨"TradeRings$Trading", "forget", "()V"⟩, 9), (⟨"TradeRings$Trading", "point", "(LTradeRings$Market;I)V"⟩, 9), (⟨"TradeRings$Trading", "closeRings", "(LTradeRings$Market;I)I"⟩, 9), (⟨"TradeRings$Trading", "ringThrough", "(I)I"⟩, 9), (⟨"TradeRings$Trading", "addRing", "(LTradeRings$Market;I)V"⟩, 9), (⟨"TradeRings$Sharing", "noteLikings", "(LTradeRings$Market;)V"⟩, 6), (⟨"TradeRings$Sharing", "couldDoBetter", "(LTradeRings$Market;IZ)Z"⟩, 6), (⟨"TradeRings$Sharing", "lineUp", "(LTradeRings$Market;I)V"⟩, 6), (⟨"TradeRings$Sharing", "countWays", "(I[I)I"⟩, 6), (⟨"TradeRings$Sharing", "spread", "(III)V"⟩, 6), (⟨"TradeRings$Sharing", "bestThing", "(LTradeRings$Market;III)I"⟩, 6)]
theorem lw_r1 : ∀ q ∈ lw_privs_1, lw_okq q := List.forall_mem_cons.mpr ⟨lw_p0, List.forall_mem_cons.mpr ⟨lw_p1, List.forall_mem_cons.mpr ⟨lw_p2, List.forall_mem_cons.mpr ⟨lw_p3, List.forall_mem_cons.mpr ⟨lw_p4, List.forall_mem_cons.mpr ⟨lw_p5, List.forall_mem_cons.mpr ⟨lw_p6, List.forall_mem_cons.mpr ⟨lw_p7, List.forall_mem_cons.mpr ⟨lw_p8, List.forall_mem_cons.mpr ⟨lw_p9, List.forall_mem_cons.mpr ⟨lw_p10, List.forall_mem_cons.mpr ⟨lw_p11, List.forall_mem_cons.mpr ⟨lw_p12, List.forall_mem_cons.mpr ⟨lw_p13, List.forall_mem_cons.mpr ⟨lw_p14, List.forall_mem_cons.mpr ⟨lw_p15, fun _ h => absurd h List.not_mem_nil⟩⟩⟩⟩⟩⟩⟩⟩⟩⟩⟩⟩⟩⟩⟩⟩
theorem lw_p16 : lw_okq (⟨"TradeRings$Sharing", "sumWith", "(LTradeRings$Market;III)I"⟩, 6) := ⟨⟨by decide +kernel, by decide +kernel⟩, List.mem_of_getElem? (i := 153) (by decide +kernel), List.mem_of_getElem? (i := 453) (by decide +kernel), List.mem_of_getElem? (i := 454) (by decide +kernel)⟩
theorem lw_p17 : lw_okq (⟨"java/lang/Throwable", "fillInStackTrace", "(I)Ljava/lang/Throwable;"⟩, 6) := ⟨⟨by decide +kernel, by decide +kernel⟩, List.mem_of_getElem? (i := 513) (by decide +kernel), List.mem_of_getElem? (i := 511) (by decide +kernel), List.mem_of_getElem? (i := 512) (by decide +kernel)⟩
theorem lw_p18 : lw_okq (⟨"TradeRings", "needTrader", "(I)V"⟩, 11) := ⟨⟨by decide +kernel, by decide +kernel⟩, List.mem_of_getElem? (i := 22) (by decide +kernel), List.mem_of_getElem? (i := 624) (by decide +kernel), List.mem_of_getElem? (i := 625) (by decide +kernel)⟩
theorem lw_p19 : lw_okq (⟨"TradeRings", "needThing", "(I)V"⟩, 11) := ⟨⟨by decide +kernel, by decide +kernel⟩, List.mem_of_getElem? (i := 22) (by decide +kernel), List.mem_of_getElem? (i := 659) (by decide +kernel), List.mem_of_getElem? (i := 660) (by decide +kernel)⟩
theorem lw_p20 : lw_okq (⟨"TradeRings$Search", "meet", "(LTradeRings$Market;I)V"⟩, 3) := ⟨⟨by decide +kernel, by decide +kernel⟩, List.mem_of_getElem? (i := 178) (by decide +kernel), List.mem_of_getElem? (i := 813) (by decide +kernel), List.mem_of_getElem? (i := 814) (by decide +kernel)⟩
theorem lw_p21 : lw_okq (⟨"TradeRings$Search", "exchangeAll", "(LTradeRings$Market;III)Z"⟩, 3) := ⟨⟨by decide +kernel, by decide +kernel⟩, List.mem_of_getElem? (i := 178) (by decide +kernel), List.mem_of_getElem? (i := 830) (by decide +kernel), List.mem_of_getElem? (i := 831) (by decide +kernel)⟩
theorem lw_p22 : lw_okq (⟨"TradeRings", "neededSlot", "(I)LTradeRings$Slot;"⟩, 11) := ⟨⟨by decide +kernel, by decide +kernel⟩, List.mem_of_getElem? (i := 22) (by decide +kernel), List.mem_of_getElem? (i := 908) (by decide +kernel), List.mem_of_getElem? (i := 909) (by decide +kernel)⟩
theorem lw_p23 : lw_okq (⟨"TradeRingsModel", "fails", "(I)I"⟩, 27) := ⟨⟨by decide +kernel, by decide +kernel⟩, List.mem_of_getElem? (i := 921) (by decide +kernel), List.mem_of_getElem? (i := 1022) (by decide +kernel), List.mem_of_getElem? (i := 1023) (by decide +kernel)⟩
theorem lw_p24 : lw_okq (⟨"TradeRingsModel", "readMarket", "()Z"⟩, 27) := ⟨⟨by decide +kernel, by decide +kernel⟩, List.mem_of_getElem? (i := 921) (by decide +kernel), List.mem_of_getElem? (i := 1034) (by decide +kernel), List.mem_of_getElem? (i := 1035) (by decide +kernel)⟩
theorem lw_p25 : lw_okq (⟨"TradeRingsModel", "sign", "(I)Z"⟩, 27) := ⟨⟨by decide +kernel, by decide +kernel⟩, List.mem_of_getElem? (i := 921) (by decide +kernel), List.mem_of_getElem? (i := 1038) (by decide +kernel), List.mem_of_getElem? (i := 1039) (by decide +kernel)⟩
theorem lw_p26 : lw_okq (⟨"TradeRingsModel", "digitTo", "(II)Z"⟩, 27) := ⟨⟨by decide +kernel, by decide +kernel⟩, List.mem_of_getElem? (i := 921) (by decide +kernel), List.mem_of_getElem? (i := 1042) (by decide +kernel), List.mem_of_getElem? (i := 1043) (by decide +kernel)⟩
theorem lw_p27 : lw_okq (⟨"TradeRingsModel", "readHolders", "(I)Z"⟩, 27) := ⟨⟨by decide +kernel, by decide +kernel⟩, List.mem_of_getElem? (i := 921) (by decide +kernel), List.mem_of_getElem? (i := 1046) (by decide +kernel), List.mem_of_getElem? (i := 1047) (by decide +kernel)⟩
theorem lw_p28 : lw_okq (⟨"TradeRingsModel", "present", "()I"⟩, 27) := ⟨⟨by decide +kernel, by decide +kernel⟩, List.mem_of_getElem? (i := 921) (by decide +kernel), List.mem_of_getElem? (i := 1057) (by decide +kernel), List.mem_of_getElem? (i := 1058) (by decide +kernel)⟩
theorem lw_p29 : lw_okq (⟨"TradeRingsModel", "findTrading", "()V"⟩, 27) := ⟨⟨by decide +kernel, by decide +kernel⟩, List.mem_of_getElem? (i := 921) (by decide +kernel), List.mem_of_getElem? (i := 1068) (by decide +kernel), List.mem_of_getElem? (i := 1069) (by decide +kernel)⟩
theorem lw_p30 : lw_okq (⟨"TradeRingsModel", "isPresent", "(I)Z"⟩, 27) := ⟨⟨by decide +kernel, by decide +kernel⟩, List.mem_of_getElem? (i := 921) (by decide +kernel), List.mem_of_getElem? (i := 1072) (by decide +kernel), List.mem_of_getElem? (i := 1073) (by decide +kernel)⟩
theorem lw_p31 : lw_okq (⟨"TradeRingsModel", "pointsAt", "(II)I"⟩, 27) := ⟨⟨by decide +kernel, by decide +kernel⟩, List.mem_of_getElem? (i := 921) (by decide +kernel), List.mem_of_getElem? (i := 1076) (by decide +kernel), List.mem_of_getElem? (i := 1077) (by decide +kernel)⟩
def lw_privs_2 : List (MethodName × Nat) := [(⟨"TradeRings$Sharing", "sumWith", "(LTradeRings$Market;III)I"⟩, 6), (⟨"java/lang/Throwable", "fillInStackTrace", "(I)Ljava/lang/Throwable;"⟩, 6), (⟨"TradeRings", "needTrader", "(I)V"⟩, 11), (⟨"TradeRings", "needThing", "(I)V"⟩, 11), (⟨"TradeRings$Search", "meet", "(LTradeRings$Market;I)V"⟩, 3), (⟨"TradeRings$Search", "exchangeAll", "(LTradeRings$Market;III)Z"⟩, 3), (⟨"TradeRings", "neededSlot", "(I)LTradeRings$Slot;"⟩, 11), (⟨"TradeRingsModel", "fails", "(I)I"⟩, 27), (⟨"TradeRingsModel", "readMarket", "()Z"⟩, 27), (⟨"TradeRingsModel", "sign", "(I)Z"⟩, 27), (⟨"TradeRingsModel", "digitTo", "(II)Z"⟩, 27), (⟨"TradeRingsModel", "readHolders", "(I)Z"⟩, 27), (⟨"TradeRingsModel", "present", "()I"⟩, 27), (⟨"TradeRingsModel", "findTrading", "()V"⟩, 27), (⟨"TradeRingsModel", "isPresent", "(I)Z"⟩, 27), (⟨"TradeRingsModel", "pointsAt", "(II)I"⟩, 27)]
theorem lw_r2 : ∀ q ∈ lw_privs_2, lw_okq q := List.forall_mem_cons.mpr ⟨lw_p16, List.forall_mem_cons.mpr ⟨lw_p17, List.forall_mem_cons.mpr ⟨lw_p18, List.forall_mem_cons.mpr ⟨lw_p19, List.forall_mem_cons.mpr ⟨lw_p20, List.forall_mem_cons.mpr ⟨lw_p21, List.forall_mem_cons.mpr ⟨lw_p22, List.forall_mem_cons.mpr ⟨lw_p23, List.forall_mem_cons.mpr ⟨lw_p24, List.forall_mem_cons.mpr ⟨lw_p25, List.forall_mem_cons.mpr ⟨lw_p26, List.forall_mem_cons.mpr ⟨lw_p27, List.forall_mem_cons.mpr ⟨lw_p28, List.forall_mem_cons.mpr ⟨lw_p29, List.forall_mem_cons.mpr ⟨lw_p30, List.forall_mem_cons.mpr ⟨lw_p31, fun _ h => absurd h List.not_mem_nil⟩⟩⟩⟩⟩⟩⟩⟩⟩⟩⟩⟩⟩⟩⟩⟩
theorem lw_p32 : lw_okq (⟨"TradeRingsModel", "held", "(I)I"⟩, 27) := ⟨⟨by decide +kernel, by decide +kernel⟩, List.mem_of_getElem? (i := 921) (by decide +kernel), List.mem_of_getElem? (i := 1080) (by decide +kernel), List.mem_of_getElem? (i := 1081) (by decide +kernel)⟩
theorem lw_p33 : lw_okq (⟨"TradeRingsModel", "rankOf", "(II)I"⟩, 27) := ⟨⟨by decide +kernel, by decide +kernel⟩, List.mem_of_getElem? (i := 921) (by decide +kernel), List.mem_of_getElem? (i := 1084) (by decide +kernel), List.mem_of_getElem? (i := 1085) (by decide +kernel)⟩
theorem lw_p34 : lw_okq (⟨"TradeRingsModel", "ringWith", "(I)I"⟩, 27) := ⟨⟨by decide +kernel, by decide +kernel⟩, List.mem_of_getElem? (i := 921) (by decide +kernel), List.mem_of_getElem? (i := 1088) (by decide +kernel), List.mem_of_getElem? (i := 1089) (by decide +kernel)⟩
theorem lw_p35 : lw_okq (⟨"TradeRingsModel", "finish", "(I)V"⟩, 27) := ⟨⟨by decide +kernel, by decide +kernel⟩, List.mem_of_getElem? (i := 921) (by decide +kernel), List.mem_of_getElem? (i := 1092) (by decide +kernel), List.mem_of_getElem? (i := 1093) (by decide +kernel)⟩
theorem lw_p36 : lw_okq (⟨"TradeRingsModel", "envies", "(II)Z"⟩, 27) := ⟨⟨by decide +kernel, by decide +kernel⟩, List.mem_of_getElem? (i := 921) (by decide +kernel), List.mem_of_getElem? (i := 1096) (by decide +kernel), List.mem_of_getElem? (i := 1097) (by decide +kernel)⟩
theorem lw_p37 : lw_okq (⟨"TradeRingsModel", "allRanks", "()I"⟩, 27) := ⟨⟨by decide +kernel, by decide +kernel⟩, List.mem_of_getElem? (i := 921) (by decide +kernel), List.mem_of_getElem? (i := 1100) (by decide +kernel), List.mem_of_getElem? (i := 1101) (by decide +kernel)⟩
theorem lw_p38 : lw_okq (⟨"TradeRingsModel", "isOne", "(I)Z"⟩, 27) := ⟨⟨by decide +kernel, by decide +kernel⟩, List.mem_of_getElem? (i := 921) (by decide +kernel), List.mem_of_getElem? (i := 1108) (by decide +kernel), List.mem_of_getElem? (i := 1109) (by decide +kernel)⟩
theorem lw_p39 : lw_okq (⟨"TradeRingsModel", "against", "(II)I"⟩, 27) := ⟨⟨by decide +kernel, by decide +kernel⟩, List.mem_of_getElem? (i := 921) (by decide +kernel), List.mem_of_getElem? (i := 1129) (by decide +kernel), List.mem_of_getElem? (i := 1130) (by decide +kernel)⟩
theorem lw_p40 : lw_okq (⟨"TradeRingsModel", "remember", "()V"⟩, 27) := ⟨⟨by decide +kernel, by decide +kernel⟩, List.mem_of_getElem? (i := 921) (by decide +kernel), List.mem_of_getElem? (i := 1137) (by decide +kernel), List.mem_of_getElem? (i := 1138) (by decide +kernel)⟩
theorem lw_p41 : lw_okq (⟨"TradeRingsModel", "ranks", "(III)I"⟩, 27) := ⟨⟨by decide +kernel, by decide +kernel⟩, List.mem_of_getElem? (i := 921) (by decide +kernel), List.mem_of_getElem? (i := 1146) (by decide +kernel), List.mem_of_getElem? (i := 1147) (by decide +kernel)⟩
theorem lw_p42 : lw_okq (⟨"TradeRingsModel", "exchanges", "(II)I"⟩, 27) := ⟨⟨by decide +kernel, by decide +kernel⟩, List.mem_of_getElem? (i := 921) (by decide +kernel), List.mem_of_getElem? (i := 1154) (by decide +kernel), List.mem_of_getElem? (i := 1155) (by decide +kernel)⟩
theorem lw_p43 : lw_okq (⟨"TradeRingsModel", "takes", "(I)I"⟩, 27) := ⟨⟨by decide +kernel, by decide +kernel⟩, List.mem_of_getElem? (i := 921) (by decide +kernel), List.mem_of_getElem? (i := 1162) (by decide +kernel), List.mem_of_getElem? (i := 1163) (by decide +kernel)⟩
theorem lw_p44 : lw_okq (⟨"TradeRingsModel", "trades", "()I"⟩, 27) := ⟨⟨by decide +kernel, by decide +kernel⟩, List.mem_of_getElem? (i := 921) (by decide +kernel), List.mem_of_getElem? (i := 1170) (by decide +kernel), List.mem_of_getElem? (i := 1171) (by decide +kernel)⟩
theorem lw_p45 : lw_okq (⟨"TradeRingsModel", "home", "()I"⟩, 27) := ⟨⟨by decide +kernel, by decide +kernel⟩, List.mem_of_getElem? (i := 921) (by decide +kernel), List.mem_of_getElem? (i := 1182) (by decide +kernel), List.mem_of_getElem? (i := 1183) (by decide +kernel)⟩
theorem lw_p46 : lw_okq (⟨"TradeRingsModel", "couldDo", "(IZ)Z"⟩, 27) := ⟨⟨by decide +kernel, by decide +kernel⟩, List.mem_of_getElem? (i := 921) (by decide +kernel), List.mem_of_getElem? (i := 1194) (by decide +kernel), List.mem_of_getElem? (i := 1195) (by decide +kernel)⟩
theorem lw_p47 : lw_okq (⟨"TradeRingsModel", "waysOf", "(III)I"⟩, 27) := ⟨⟨by decide +kernel, by decide +kernel⟩, List.mem_of_getElem? (i := 921) (by decide +kernel), List.mem_of_getElem? (i := 1198) (by decide +kernel), List.mem_of_getElem? (i := 1199) (by decide +kernel)⟩
def lw_privs_3 : List (MethodName × Nat) := [(⟨"TradeRingsModel", "held", "(I)I"⟩, 27), (⟨"TradeRingsModel", "rankOf", "(II)I"⟩, 27), (⟨"TradeRingsModel", "ringWith", "(I)I"⟩, 27), (⟨"TradeRingsModel", "finish", "(I)V"⟩, 27), (⟨"TradeRingsModel", "envies", "(II)Z"⟩, 27), (⟨"TradeRingsModel", "allRanks", "()I"⟩, 27), (⟨"TradeRingsModel", "isOne", "(I)Z"⟩, 27), (⟨"TradeRingsModel", "against", "(II)I"⟩, 27), (⟨"TradeRingsModel", "remember", "()V"⟩, 27), (⟨"TradeRingsModel", "ranks", "(III)I"⟩, 27), (⟨"TradeRingsModel", "exchanges", "(II)I"⟩, 27), (⟨"TradeRingsModel", "takes", "(I)I"⟩, 27), (⟨"TradeRingsModel", "trades", "()I"⟩, 27), (⟨"TradeRingsModel", "home", "()I"⟩, 27), (⟨"TradeRingsModel", "couldDo", "(IZ)Z"⟩, 27), (⟨"TradeRingsModel", "waysOf", "(III)I"⟩, 27)]
theorem lw_r3 : ∀ q ∈ lw_privs_3, lw_okq q := List.forall_mem_cons.mpr ⟨lw_p32, List.forall_mem_cons.mpr ⟨lw_p33, List.forall_mem_cons.mpr ⟨lw_p34, List.forall_mem_cons.mpr ⟨lw_p35, List.forall_mem_cons.mpr ⟨lw_p36, List.forall_mem_cons.mpr ⟨lw_p37, List.forall_mem_cons.mpr ⟨lw_p38, List.forall_mem_cons.mpr ⟨lw_p39, List.forall_mem_cons.mpr ⟨lw_p40, List.forall_mem_cons.mpr ⟨lw_p41, List.forall_mem_cons.mpr ⟨lw_p42, List.forall_mem_cons.mpr ⟨lw_p43, List.forall_mem_cons.mpr ⟨lw_p44, List.forall_mem_cons.mpr ⟨lw_p45, List.forall_mem_cons.mpr ⟨lw_p46, List.forall_mem_cons.mpr ⟨lw_p47, fun _ h => absurd h List.not_mem_nil⟩⟩⟩⟩⟩⟩⟩⟩⟩⟩⟩⟩⟩⟩⟩⟩
theorem lw_p48 : lw_okq (⟨"TradeRingsModel", "spread", "(IIII)V"⟩, 27) := ⟨⟨by decide +kernel, by decide +kernel⟩, List.mem_of_getElem? (i := 921) (by decide +kernel), List.mem_of_getElem? (i := 1202) (by decide +kernel), List.mem_of_getElem? (i := 1203) (by decide +kernel)⟩
theorem lw_p49 : lw_okq (⟨"TradeRingsModel", "groupMany", "(Z)I"⟩, 27) := ⟨⟨by decide +kernel, by decide +kernel⟩, List.mem_of_getElem? (i := 921) (by decide +kernel), List.mem_of_getElem? (i := 1210) (by decide +kernel), List.mem_of_getElem? (i := 1211) (by decide +kernel)⟩
theorem lw_p50 : lw_okq (⟨"TradeRingsModel", "findLeast", "()I"⟩, 27) := ⟨⟨by decide +kernel, by decide +kernel⟩, List.mem_of_getElem? (i := 921) (by decide +kernel), List.mem_of_getElem? (i := 1218) (by decide +kernel), List.mem_of_getElem? (i := 1219) (by decide +kernel)⟩
theorem lw_p51 : lw_okq (⟨"TradeRingsModel", "heldThings", "()I"⟩, 27) := ⟨⟨by decide +kernel, by decide +kernel⟩, List.mem_of_getElem? (i := 921) (by decide +kernel), List.mem_of_getElem? (i := 1222) (by decide +kernel), List.mem_of_getElem? (i := 1223) (by decide +kernel)⟩
theorem lw_p52 : lw_okq (⟨"TradeRingsModel", "presentOnes", "()I"⟩, 27) := ⟨⟨by decide +kernel, by decide +kernel⟩, List.mem_of_getElem? (i := 921) (by decide +kernel), List.mem_of_getElem? (i := 1234) (by decide +kernel), List.mem_of_getElem? (i := 1235) (by decide +kernel)⟩
theorem lw_p53 : lw_okq (⟨"TradeRingsModel", "keep", "()V"⟩, 27) := ⟨⟨by decide +kernel, by decide +kernel⟩, List.mem_of_getElem? (i := 921) (by decide +kernel), List.mem_of_getElem? (i := 1246) (by decide +kernel), List.mem_of_getElem? (i := 1247) (by decide +kernel)⟩
theorem lw_p54 : lw_okq (⟨"TradeRingsModel", "exchangesTo", "(II)I"⟩, 27) := ⟨⟨by decide +kernel, by decide +kernel⟩, List.mem_of_getElem? (i := 921) (by decide +kernel), List.mem_of_getElem? (i := 1250) (by decide +kernel), List.mem_of_getElem? (i := 1251) (by decide +kernel)⟩
theorem lw_p55 : lw_okq (⟨"TradeRingsModel", "coded", "()I"⟩, 27) := ⟨⟨by decide +kernel, by decide +kernel⟩, List.mem_of_getElem? (i := 921) (by decide +kernel), List.mem_of_getElem? (i := 1254) (by decide +kernel), List.mem_of_getElem? (i := 1255) (by decide +kernel)⟩
theorem lw_p56 : lw_okq (⟨"TradeRingsModel", "numberOf", "(I)I"⟩, 27) := ⟨⟨by decide +kernel, by decide +kernel⟩, List.mem_of_getElem? (i := 921) (by decide +kernel), List.mem_of_getElem? (i := 1258) (by decide +kernel), List.mem_of_getElem? (i := 1259) (by decide +kernel)⟩
theorem lw_p57 : lw_okq (⟨"TradeRingsModel", "uncodes", "(I)V"⟩, 27) := ⟨⟨by decide +kernel, by decide +kernel⟩, List.mem_of_getElem? (i := 921) (by decide +kernel), List.mem_of_getElem? (i := 1262) (by decide +kernel), List.mem_of_getElem? (i := 1263) (by decide +kernel)⟩
theorem lw_p58 : lw_okq (⟨"TradeRingsModel", "bringBack", "()V"⟩, 27) := ⟨⟨by decide +kernel, by decide +kernel⟩, List.mem_of_getElem? (i := 921) (by decide +kernel), List.mem_of_getElem? (i := 1266) (by decide +kernel), List.mem_of_getElem? (i := 1267) (by decide +kernel)⟩
theorem lw_p59 : lw_okq (⟨"TradeRingsModel", "succeeds", "(I)Z"⟩, 27) := ⟨⟨by decide +kernel, by decide +kernel⟩, List.mem_of_getElem? (i := 921) (by decide +kernel), List.mem_of_getElem? (i := 1276) (by decide +kernel), List.mem_of_getElem? (i := 1277) (by decide +kernel)⟩
theorem lw_p60 : lw_okq (⟨"TradeRingsModel", "acts", "(IIII)Z"⟩, 27) := ⟨⟨by decide +kernel, by decide +kernel⟩, List.mem_of_getElem? (i := 921) (by decide +kernel), List.mem_of_getElem? (i := 1281) (by decide +kernel), List.mem_of_getElem? (i := 1282) (by decide +kernel)⟩
def lw_privs_4 : List (MethodName × Nat) := [(⟨"TradeRingsModel", "spread", "(IIII)V"⟩, 27), (⟨"TradeRingsModel", "groupMany", "(Z)I"⟩, 27), (⟨"TradeRingsModel", "findLeast", "()I"⟩, 27), (⟨"TradeRingsModel", "heldThings", "()I"⟩, 27), (⟨"TradeRingsModel", "presentOnes", "()I"⟩, 27), (⟨"TradeRingsModel", "keep", "()V"⟩, 27), (⟨"TradeRingsModel", "exchangesTo", "(II)I"⟩, 27), (⟨"TradeRingsModel", "coded", "()I"⟩, 27), (⟨"TradeRingsModel", "numberOf", "(I)I"⟩, 27), (⟨"TradeRingsModel", "uncodes", "(I)V"⟩, 27), (⟨"TradeRingsModel", "bringBack", "()V"⟩, 27), (⟨"TradeRingsModel", "succeeds", "(I)Z"⟩, 27), (⟨"TradeRingsModel", "acts", "(IIII)Z"⟩, 27)]
theorem lw_r4 : ∀ q ∈ lw_privs_4, lw_okq q := List.forall_mem_cons.mpr ⟨lw_p48, List.forall_mem_cons.mpr ⟨lw_p49, List.forall_mem_cons.mpr ⟨lw_p50, List.forall_mem_cons.mpr ⟨lw_p51, List.forall_mem_cons.mpr ⟨lw_p52, List.forall_mem_cons.mpr ⟨lw_p53, List.forall_mem_cons.mpr ⟨lw_p54, List.forall_mem_cons.mpr ⟨lw_p55, List.forall_mem_cons.mpr ⟨lw_p56, List.forall_mem_cons.mpr ⟨lw_p57, List.forall_mem_cons.mpr ⟨lw_p58, List.forall_mem_cons.mpr ⟨lw_p59, List.forall_mem_cons.mpr ⟨lw_p60, fun _ h => absurd h List.not_mem_nil⟩⟩⟩⟩⟩⟩⟩⟩⟩⟩⟩⟩⟩
def lw_privs : List (MethodName × Nat) := lw_privs_1 ++ (lw_privs_2 ++ (lw_privs_3 ++ (lw_privs_4)))
def lw_tbl : List Cond := k2_sels lw_privs ++ tables_1
theorem lw_privs_ok : ∀ q ∈ lw_privs, lw_okq q := by
  show ∀ q ∈ lw_privs_1 ++ (lw_privs_2 ++ (lw_privs_3 ++ (lw_privs_4))), lw_okq q
  exact List.forall_mem_append.mpr ⟨lw_r1, List.forall_mem_append.mpr ⟨lw_r2, List.forall_mem_append.mpr ⟨lw_r3, lw_r4⟩⟩⟩
def RX0 : String := "TradeRings$History"
def TX0 : u_T := fun k => match k with
  | 0 => ("TradeRings$History", "states", "[LTradeRings$Market;", true)
  | 1 => ("TradeRings$History", "size", "I", false)
  | _ => ("TradeRings$History", "next", "I", false)
def tyX0 : Nat → FieldType := fun k => match k with
  | 0 => .array (.object "TradeRings$Market")
  | 1 => .int
  | _ => .int
abbrev wsX00 : List Cond := u_ws RX0 TX0 3
theorem nmX0 : ∀ a, a < 3 → ∀ b, b < 3 → a ≠ b → (TX0 a).2.1 ≠ (TX0 b).2.1 := by decide +kernel
theorem tyX0_ok : ∀ k, k < 3 → parseFieldDescriptor (TX0 k).2.2.1 = some (tyX0 k) := by decide +kernel
abbrev cX0_init : ByteArray := prog_2_method_1_code
def yX0_init : MethodName := ⟨RX0, "<init>", "()V"⟩
abbrev cX0_remembered : ByteArray := prog_2_method_2_code
def yX0_remembered : MethodName := ⟨RX0, "remembered", "()I"⟩
abbrev cX0_forgetAll : ByteArray := prog_2_method_3_code
def yX0_forgetAll : MethodName := ⟨RX0, "forgetAll", "()V"⟩
abbrev cX0_remember : ByteArray := prog_2_method_4_code
def yX0_remember : MethodName := ⟨RX0, "remember", "(LTradeRings$Market;)V"⟩
abbrev cX0_takeBack : ByteArray := prog_2_method_5_code
def yX0_takeBack : MethodName := ⟨RX0, "takeBack", "(LTradeRings$Market;)V"⟩
def RX1 : String := "TradeRings$Market"
def TX1 : u_T := fun k => match k with
  | 0 => ("TradeRings$Market", "count", "I", false)
  | 1 => ("TradeRings$Market", "left", "I", false)
  | 2 => ("TradeRings$Market", "ranks", "[I", true)
  | _ => ("TradeRings$Market", "holds", "[I", true)
def tyX1 : Nat → FieldType := fun k => match k with
  | 0 => .int
  | 1 => .int
  | 2 => .array .int
  | _ => .array .int
abbrev wsX10 : List Cond := u_ws RX1 TX1 4
theorem nmX1 : ∀ a, a < 4 → ∀ b, b < 4 → a ≠ b → (TX1 a).2.1 ≠ (TX1 b).2.1 := by decide +kernel
theorem tyX1_ok : ∀ k, k < 4 → parseFieldDescriptor (TX1 k).2.2.1 = some (tyX1 k) := by decide +kernel
abbrev cX1_init : ByteArray := prog_3_method_1_code
def yX1_init : MethodName := ⟨RX1, "<init>", "()V"⟩
abbrev cX1_become : ByteArray := prog_3_method_2_code
def yX1_become : MethodName := ⟨RX1, "become", "(LTradeRings$Market;)V"⟩
abbrev cX1_has : ByteArray := prog_3_method_3_code
def yX1_has : MethodName := ⟨RX1, "has", "(I)Z"⟩
abbrev cX1_everybody : ByteArray := prog_3_method_4_code
def yX1_everybody : MethodName := ⟨RX1, "everybody", "()I"⟩
abbrev cX1_present : ByteArray := prog_3_method_5_code
def yX1_present : MethodName := ⟨RX1, "present", "()I"⟩
abbrev cX1_isPresent : ByteArray := prog_3_method_6_code
def yX1_isPresent : MethodName := ⟨RX1, "isPresent", "(I)Z"⟩
abbrev cX1_presentCount : ByteArray := prog_3_method_7_code
def yX1_presentCount : MethodName := ⟨RX1, "presentCount", "()I"⟩
abbrev cX1_rankBy : ByteArray := prog_3_method_8_code
def yX1_rankBy : MethodName := ⟨RX1, "rankBy", "(II)I"⟩
abbrev cX1_rankOfHeld : ByteArray := prog_3_method_9_code
def yX1_rankOfHeld : MethodName := ⟨RX1, "rankOfHeld", "(I)I"⟩
abbrev cX1_putRank : ByteArray := prog_3_method_10_code
def yX1_putRank : MethodName := ⟨RX1, "putRank", "(III)V"⟩
abbrev cX1_lossBy : ByteArray := prog_3_method_11_code
def yX1_lossBy : MethodName := ⟨RX1, "lossBy", "(II)I"⟩
abbrev cX1_holderOf : ByteArray := prog_3_method_12_code
def yX1_holderOf : MethodName := ⟨RX1, "holderOf", "(I)I"⟩
abbrev cX1_thingsOf : ByteArray := prog_3_method_13_code
def yX1_thingsOf : MethodName := ⟨RX1, "thingsOf", "(I)I"⟩
abbrev cX1_ownersWithTheirThing : ByteArray := prog_3_method_14_code
def yX1_ownersWithTheirThing : MethodName := ⟨RX1, "ownersWithTheirThing", "()I"⟩
abbrev cX1_sumOfRanks : ByteArray := prog_3_method_15_code
def yX1_sumOfRanks : MethodName := ⟨RX1, "sumOfRanks", "()I"⟩
abbrev cX1_envies : ByteArray := prog_3_method_16_code
def yX1_envies : MethodName := ⟨RX1, "envies", "()I"⟩
abbrev cX1_reasonAgainst : ByteArray := prog_3_method_17_code
def yX1_reasonAgainst : MethodName := ⟨RX1, "reasonAgainst", "(II)I"⟩
abbrev cX1_swap : ByteArray := prog_3_method_18_code
def yX1_swap : MethodName := ⟨RX1, "swap", "(II)V"⟩
abbrev cX1_take : ByteArray := prog_3_method_19_code
def yX1_take : MethodName := ⟨RX1, "take", "(LTradeRings$Trading;I)I"⟩
abbrev cX1_sendAway : ByteArray := prog_3_method_20_code
def yX1_sendAway : MethodName := ⟨RX1, "sendAway", "(I)V"⟩
abbrev cX1_sendHome : ByteArray := prog_3_method_21_code
def yX1_sendHome : MethodName := ⟨RX1, "sendHome", "()I"⟩
abbrev cX1_begin : ByteArray := prog_3_method_22_code
def yX1_begin : MethodName := ⟨RX1, "begin", "(I)V"⟩
abbrev cX1_addOne : ByteArray := prog_3_method_23_code
def yX1_addOne : MethodName := ⟨RX1, "addOne", "()I"⟩
def RX2 : String := "TradeRings$Script"
def TX2 : u_T := fun k => match k with
  | 0 => ("TradeRings$Script", "commands", "[I", true)
  | _ => ("TradeRings$Script", "length", "I", false)
def tyX2 : Nat → FieldType := fun k => match k with
  | 0 => .array .int
  | _ => .int
abbrev wsX20 : List Cond := u_ws RX2 TX2 2
theorem nmX2 : ∀ a, a < 2 → ∀ b, b < 2 → a ≠ b → (TX2 a).2.1 ≠ (TX2 b).2.1 := by decide +kernel
theorem tyX2_ok : ∀ k, k < 2 → parseFieldDescriptor (TX2 k).2.2.1 = some (tyX2 k) := by decide +kernel
abbrev cX2_init : ByteArray := prog_4_method_1_code
def yX2_init : MethodName := ⟨RX2, "<init>", "()V"⟩
abbrev cX2_takes : ByteArray := prog_4_method_2_code
def yX2_takes : MethodName := ⟨RX2, "takes", "(IJ)Z"⟩
abbrev cX2_succeeds : ByteArray := prog_4_method_3_code
def yX2_succeeds : MethodName := ⟨RX2, "succeeds", "(ILTradeRings$Market;LTradeRings$Trading;LTradeRings$Sharing;)Z"⟩
abbrev cX2_exchanges : ByteArray := prog_4_method_4_code
def yX2_exchanges : MethodName := ⟨RX2, "exchanges", "(LTradeRings$Market;II)Z"⟩
abbrev cX2_doesRing : ByteArray := prog_4_method_5_code
def yX2_doesRing : MethodName := ⟨RX2, "doesRing", "(LTradeRings$Market;LTradeRings$Trading;I)Z"⟩
abbrev cX2_trades : ByteArray := prog_4_method_6_code
def yX2_trades : MethodName := ⟨RX2, "trades", "(LTradeRings$Market;LTradeRings$Trading;)Z"⟩
abbrev cX2_leaves : ByteArray := prog_4_method_7_code
def yX2_leaves : MethodName := ⟨RX2, "leaves", "(LTradeRings$Market;I)Z"⟩
abbrev cX2_ranks : ByteArray := prog_4_method_8_code
def yX2_ranks : MethodName := ⟨RX2, "ranks", "(LTradeRings$Market;III)Z"⟩
abbrev cX2_goesHome : ByteArray := prog_4_method_9_code
def yX2_goesHome : MethodName := ⟨RX2, "goesHome", "(LTradeRings$Market;)Z"⟩
def RX3 : String := "TradeRings$Search"
def TX3 : u_T := fun k => match k with
  | 0 => ("TradeRings$Search", "queue", "[I", true)
  | 1 => ("TradeRings$Search", "tail", "I", false)
  | _ => ("TradeRings$Search", "met", "[J", true)
def tyX3 : Nat → FieldType := fun k => match k with
  | 0 => .array .int
  | 1 => .int
  | _ => .array .long
abbrev wsX30 : List Cond := u_ws RX3 TX3 3
theorem nmX3 : ∀ a, a < 3 → ∀ b, b < 3 → a ≠ b → (TX3 a).2.1 ≠ (TX3 b).2.1 := by decide +kernel
theorem tyX3_ok : ∀ k, k < 3 → parseFieldDescriptor (TX3 k).2.2.1 = some (tyX3 k) := by decide +kernel
abbrev cX3_init : ByteArray := prog_5_method_1_code
def yX3_init : MethodName := ⟨RX3, "<init>", "()V"⟩
abbrev cX3_fewestExchanges : ByteArray := prog_5_method_2_code
def yX3_fewestExchanges : MethodName := ⟨RX3, "fewestExchanges", "(LTradeRings$Market;II)I"⟩
abbrev cX3_exchangeAll : ByteArray := prog_5_method_3_code
def yX3_exchangeAll : MethodName := ⟨RX3, "exchangeAll", "(LTradeRings$Market;III)Z"⟩
abbrev cX3_meet : ByteArray := prog_5_method_4_code
def yX3_meet : MethodName := ⟨RX3, "meet", "(LTradeRings$Market;I)V"⟩
abbrev cX3_numberOf : ByteArray := prog_5_method_5_code
def yX3_numberOf : MethodName := ⟨RX3, "numberOf", "(LTradeRings$Market;)I"⟩
abbrev cX3_pack : ByteArray := prog_5_method_6_code
def yX3_pack : MethodName := ⟨RX3, "pack", "(LTradeRings$Market;)I"⟩
abbrev cX3_unpack : ByteArray := prog_5_method_7_code
def yX3_unpack : MethodName := ⟨RX3, "unpack", "(ILTradeRings$Market;)V"⟩
def RX4 : String := "TradeRings$Sharing"
def TX4 : u_T := fun k => match k with
  | 0 => ("TradeRings$Sharing", "better", "[I", true)
  | 1 => ("TradeRings$Sharing", "alike", "[I", true)
  | 2 => ("TradeRings$Sharing", "notLess", "[I", true)
  | 3 => ("TradeRings$Sharing", "line", "[I", true)
  | 4 => ("TradeRings$Sharing", "inLine", "I", false)
  | _ => ("TradeRings$Sharing", "table", "[I", true)
def tyX4 : Nat → FieldType := fun k => match k with
  | 0 => .array .int
  | 1 => .array .int
  | 2 => .array .int
  | 3 => .array .int
  | 4 => .int
  | _ => .array .int
abbrev wsX40 : List Cond := u_ws RX4 TX4 6
theorem nmX4 : ∀ a, a < 6 → ∀ b, b < 6 → a ≠ b → (TX4 a).2.1 ≠ (TX4 b).2.1 := by decide +kernel
theorem tyX4_ok : ∀ k, k < 6 → parseFieldDescriptor (TX4 k).2.2.1 = some (tyX4 k) := by decide +kernel
abbrev cX4_init : ByteArray := prog_6_method_1_code
def yX4_init : MethodName := ⟨RX4, "<init>", "()V"⟩
abbrev cX4_smallestGroup : ByteArray := prog_6_method_2_code
def yX4_smallestGroup : MethodName := ⟨RX4, "smallestGroup", "(LTradeRings$Market;Z)I"⟩
abbrev cX4_countGroups : ByteArray := prog_6_method_3_code
def yX4_countGroups : MethodName := ⟨RX4, "countGroups", "(LTradeRings$Market;Z)I"⟩
abbrev cX4_couldDoBetter : ByteArray := prog_6_method_4_code
def yX4_couldDoBetter : MethodName := ⟨RX4, "couldDoBetter", "(LTradeRings$Market;IZ)Z"⟩
abbrev cX4_countBetterWays : ByteArray := prog_6_method_5_code
def yX4_countBetterWays : MethodName := ⟨RX4, "countBetterWays", "(LTradeRings$Market;)I"⟩
abbrev cX4_noteLikings : ByteArray := prog_6_method_6_code
def yX4_noteLikings : MethodName := ⟨RX4, "noteLikings", "(LTradeRings$Market;)V"⟩
abbrev cX4_lineUp : ByteArray := prog_6_method_7_code
def yX4_lineUp : MethodName := ⟨RX4, "lineUp", "(LTradeRings$Market;I)V"⟩
abbrev cX4_countWays : ByteArray := prog_6_method_8_code
def yX4_countWays : MethodName := ⟨RX4, "countWays", "(I[I)I"⟩
abbrev cX4_spread : ByteArray := prog_6_method_9_code
def yX4_spread : MethodName := ⟨RX4, "spread", "(III)V"⟩
abbrev cX4_leastSum : ByteArray := prog_6_method_10_code
def yX4_leastSum : MethodName := ⟨RX4, "leastSum", "(LTradeRings$Market;)I"⟩
abbrev cX4_thingAtLeast : ByteArray := prog_6_method_11_code
def yX4_thingAtLeast : MethodName := ⟨RX4, "thingAtLeast", "(LTradeRings$Market;I)I"⟩
abbrev cX4_bestThing : ByteArray := prog_6_method_12_code
def yX4_bestThing : MethodName := ⟨RX4, "bestThing", "(LTradeRings$Market;III)I"⟩
abbrev cX4_sumWith : ByteArray := prog_6_method_13_code
def yX4_sumWith : MethodName := ⟨RX4, "sumWith", "(LTradeRings$Market;III)I"⟩
def RX9 : String := "TradeRings$Slot"
def TX9 : u_T := fun k => match k with
  | 0 => ("TradeRings$Slot", "saved", "LTradeRings$Market;", true)
  | _ => ("TradeRings$Slot", "isFull", "Z", false)
def tyX9 : Nat → FieldType := fun k => match k with
  | 0 => .object "TradeRings$Market"
  | _ => .boolean
abbrev wsX50 : List Cond := u_ws RX9 TX9 2
theorem nmX9 : ∀ a, a < 2 → ∀ b, b < 2 → a ≠ b → (TX9 a).2.1 ≠ (TX9 b).2.1 := by decide +kernel
theorem tyX9_ok : ∀ k, k < 2 → parseFieldDescriptor (TX9 k).2.2.1 = some (tyX9 k) := by decide +kernel
abbrev cX9_init : ByteArray := prog_7_method_1_code
def yX9_init : MethodName := ⟨RX9, "<init>", "()V"⟩
def RX5 : String := "TradeRings$Text"
def TX5 : u_T := fun k => match k with
  | 0 => ("TradeRings$Text", "characters", "[I", true)
  | _ => ("TradeRings$Text", "length", "I", false)
def tyX5 : Nat → FieldType := fun k => match k with
  | 0 => .array .int
  | _ => .int
abbrev wsX60 : List Cond := u_ws RX5 TX5 2
theorem nmX5 : ∀ a, a < 2 → ∀ b, b < 2 → a ≠ b → (TX5 a).2.1 ≠ (TX5 b).2.1 := by decide +kernel
theorem tyX5_ok : ∀ k, k < 2 → parseFieldDescriptor (TX5 k).2.2.1 = some (tyX5 k) := by decide +kernel
abbrev cX5_init : ByteArray := prog_8_method_1_code
def yX5_init : MethodName := ⟨RX5, "<init>", "()V"⟩
abbrev cX5_isFull : ByteArray := prog_8_method_2_code
def yX5_isFull : MethodName := ⟨RX5, "isFull", "()Z"⟩
abbrev cX5_add : ByteArray := prog_8_method_3_code
def yX5_add : MethodName := ⟨RX5, "add", "(I)V"⟩
abbrev cX5_characterAt : ByteArray := prog_8_method_4_code
def yX5_characterAt : MethodName := ⟨RX5, "characterAt", "(I)I"⟩
abbrev cX5_digitAt : ByteArray := prog_8_method_5_code
def yX5_digitAt : MethodName := ⟨RX5, "digitAt", "(III)I"⟩
abbrev cX5_readMarket : ByteArray := prog_8_method_6_code
def yX5_readMarket : MethodName := ⟨RX5, "readMarket", "(LTradeRings$Market;)I"⟩
abbrev cX5_readRanks : ByteArray := prog_8_method_7_code
def yX5_readRanks : MethodName := ⟨RX5, "readRanks", "(LTradeRings$Market;I)I"⟩
abbrev cX5_readHoldings : ByteArray := prog_8_method_8_code
def yX5_readHoldings : MethodName := ⟨RX5, "readHoldings", "(LTradeRings$Market;I)I"⟩
def RX6 : String := "TradeRings$Trading"
def TX6 : u_T := fun k => match k with
  | 0 => ("TradeRings$Trading", "rings", "I", false)
  | 1 => ("TradeRings$Trading", "rounds", "I", false)
  | 2 => ("TradeRings$Trading", "gets", "[I", true)
  | 3 => ("TradeRings$Trading", "roundOf", "[I", true)
  | 4 => ("TradeRings$Trading", "ringOf", "[I", true)
  | 5 => ("TradeRings$Trading", "firstChoice", "[I", true)
  | 6 => ("TradeRings$Trading", "tradersOf", "[I", true)
  | 7 => ("TradeRings$Trading", "roundOfRing", "[I", true)
  | _ => ("TradeRings$Trading", "pointsAt", "[I", true)
def tyX6 : Nat → FieldType := fun k => match k with
  | 0 => .int
  | 1 => .int
  | 2 => .array .int
  | 3 => .array .int
  | 4 => .array .int
  | 5 => .array .int
  | 6 => .array .int
  | 7 => .array .int
  | _ => .array .int
abbrev wsX70 : List Cond := u_ws RX6 TX6 9
theorem nmX6 : ∀ a, a < 9 → ∀ b, b < 9 → a ≠ b → (TX6 a).2.1 ≠ (TX6 b).2.1 := by decide +kernel
theorem tyX6_ok : ∀ k, k < 9 → parseFieldDescriptor (TX6 k).2.2.1 = some (tyX6 k) := by decide +kernel
abbrev cX6_init : ByteArray := prog_9_method_1_code
def yX6_init : MethodName := ⟨RX6, "<init>", "()V"⟩
abbrev cX6_find : ByteArray := prog_9_method_2_code
def yX6_find : MethodName := ⟨RX6, "find", "(LTradeRings$Market;I)V"⟩
abbrev cX6_hasRing : ByteArray := prog_9_method_3_code
def yX6_hasRing : MethodName := ⟨RX6, "hasRing", "(I)Z"⟩
abbrev cX6_movers : ByteArray := prog_9_method_4_code
def yX6_movers : MethodName := ⟨RX6, "movers", "(LTradeRings$Market;)I"⟩
abbrev cX6_gainOf : ByteArray := prog_9_method_5_code
def yX6_gainOf : MethodName := ⟨RX6, "gainOf", "(LTradeRings$Market;I)I"⟩
abbrev cX6_forget : ByteArray := prog_9_method_6_code
def yX6_forget : MethodName := ⟨RX6, "forget", "()V"⟩
abbrev cX6_point : ByteArray := prog_9_method_7_code
def yX6_point : MethodName := ⟨RX6, "point", "(LTradeRings$Market;I)V"⟩
abbrev cX6_choice : ByteArray := prog_9_method_8_code
def yX6_choice : MethodName := ⟨RX6, "choice", "(LTradeRings$Market;II)I"⟩
abbrev cX6_closeRings : ByteArray := prog_9_method_9_code
def yX6_closeRings : MethodName := ⟨RX6, "closeRings", "(LTradeRings$Market;I)I"⟩
abbrev cX6_ringThrough : ByteArray := prog_9_method_10_code
def yX6_ringThrough : MethodName := ⟨RX6, "ringThrough", "(I)I"⟩
abbrev cX6_addRing : ByteArray := prog_9_method_11_code
def yX6_addRing : MethodName := ⟨RX6, "addRing", "(LTradeRings$Market;I)V"⟩
def RX7 : String := "TradeRings"
def TX7 : u_T := fun k => match k with
  | 0 => ("TradeRings", "text", "LTradeRings$Text;", true)
  | 1 => ("TradeRings", "market", "LTradeRings$Market;", true)
  | 2 => ("TradeRings", "history", "LTradeRings$History;", true)
  | 3 => ("TradeRings", "slotZero", "LTradeRings$Slot;", true)
  | 4 => ("TradeRings", "slotOne", "LTradeRings$Slot;", true)
  | 5 => ("TradeRings", "copy", "LTradeRings$Market;", true)
  | 6 => ("TradeRings", "trading", "LTradeRings$Trading;", true)
  | 7 => ("TradeRings", "tradingWithout", "LTradeRings$Trading;", true)
  | 8 => ("TradeRings", "sharing", "LTradeRings$Sharing;", true)
  | 9 => ("TradeRings", "search", "LTradeRings$Search;", true)
  | _ => ("TradeRings", "commands", "LTradeRings$Script;", true)
def tyX7 : Nat → FieldType := fun k => match k with
  | 0 => .object "TradeRings$Text"
  | 1 => .object "TradeRings$Market"
  | 2 => .object "TradeRings$History"
  | 3 => .object "TradeRings$Slot"
  | 4 => .object "TradeRings$Slot"
  | 5 => .object "TradeRings$Market"
  | 6 => .object "TradeRings$Trading"
  | 7 => .object "TradeRings$Trading"
  | 8 => .object "TradeRings$Sharing"
  | 9 => .object "TradeRings$Search"
  | _ => .object "TradeRings$Script"
abbrev wsX80 : List Cond := u_ws RX7 TX7 11
theorem nmX7 : ∀ a, a < 11 → ∀ b, b < 11 → a ≠ b → (TX7 a).2.1 ≠ (TX7 b).2.1 := by decide +kernel
theorem tyX7_ok : ∀ k, k < 11 → parseFieldDescriptor (TX7 k).2.2.1 = some (tyX7 k) := by decide +kernel
abbrev cX7_init : ByteArray := prog_1_method_1_code
def yX7_init : MethodName := ⟨RX7, "<init>", "()V"⟩
abbrev cX7_append : ByteArray := prog_1_method_2_code
def yX7_append : MethodName := ⟨RX7, "append", "(I)I"⟩
abbrev cX7_clearText : ByteArray := prog_1_method_3_code
def yX7_clearText : MethodName := ⟨RX7, "clearText", "()I"⟩
abbrev cX7_errorPosition : ByteArray := prog_1_method_4_code
def yX7_errorPosition : MethodName := ⟨RX7, "errorPosition", "()I"⟩
abbrev cX7_load : ByteArray := prog_1_method_5_code
def yX7_load : MethodName := ⟨RX7, "load", "()I"⟩
abbrev cX7_about : ByteArray := prog_1_method_6_code
def yX7_about : MethodName := ⟨RX7, "about", "(I)I"⟩
abbrev cX7_trader : ByteArray := prog_1_method_7_code
def yX7_trader : MethodName := ⟨RX7, "trader", "(II)I"⟩
abbrev cX7_rank : ByteArray := prog_1_method_8_code
def yX7_rank : MethodName := ⟨RX7, "rank", "(II)I"⟩
abbrev cX7_holder : ByteArray := prog_1_method_9_code
def yX7_holder : MethodName := ⟨RX7, "holder", "(I)I"⟩
abbrev cX7_ring : ByteArray := prog_1_method_10_code
def yX7_ring : MethodName := ⟨RX7, "ring", "(II)I"⟩
abbrev cX7_whyNot : ByteArray := prog_1_method_11_code
def yX7_whyNot : MethodName := ⟨RX7, "whyNot", "(II)I"⟩
abbrev cX7_addTrader : ByteArray := prog_1_method_12_code
def yX7_addTrader : MethodName := ⟨RX7, "addTrader", "()I"⟩
abbrev cX7_setRank : ByteArray := prog_1_method_13_code
def yX7_setRank : MethodName := ⟨RX7, "setRank", "(III)I"⟩
abbrev cX7_exchange : ByteArray := prog_1_method_14_code
def yX7_exchange : MethodName := ⟨RX7, "exchange", "(II)I"⟩
abbrev cX7_doRing : ByteArray := prog_1_method_15_code
def yX7_doRing : MethodName := ⟨RX7, "doRing", "(I)I"⟩
abbrev cX7_trade : ByteArray := prog_1_method_16_code
def yX7_trade : MethodName := ⟨RX7, "trade", "()I"⟩
abbrev cX7_leave : ByteArray := prog_1_method_17_code
def yX7_leave : MethodName := ⟨RX7, "leave", "(I)I"⟩
abbrev cX7_goHome : ByteArray := prog_1_method_18_code
def yX7_goHome : MethodName := ⟨RX7, "goHome", "()I"⟩
abbrev cX7_undo : ByteArray := prog_1_method_19_code
def yX7_undo : MethodName := ⟨RX7, "undo", "()I"⟩
abbrev cX7_group : ByteArray := prog_1_method_20_code
def yX7_group : MethodName := ⟨RX7, "group", "(Z)I"⟩
abbrev cX7_groups : ByteArray := prog_1_method_21_code
def yX7_groups : MethodName := ⟨RX7, "groups", "(Z)I"⟩
abbrev cX7_least : ByteArray := prog_1_method_22_code
def yX7_least : MethodName := ⟨RX7, "least", "()I"⟩
abbrev cX7_leastOf : ByteArray := prog_1_method_23_code
def yX7_leastOf : MethodName := ⟨RX7, "leastOf", "(I)I"⟩
abbrev cX7_betterWays : ByteArray := prog_1_method_24_code
def yX7_betterWays : MethodName := ⟨RX7, "betterWays", "()I"⟩
abbrev cX7_harms : ByteArray := prog_1_method_25_code
def yX7_harms : MethodName := ⟨RX7, "harms", "(I)I"⟩
abbrev cX7_fewest : ByteArray := prog_1_method_26_code
def yX7_fewest : MethodName := ⟨RX7, "fewest", "(II)I"⟩
abbrev cX7_runScript : ByteArray := prog_1_method_27_code
def yX7_runScript : MethodName := ⟨RX7, "runScript", "(IJ)I"⟩
abbrev cX7_simulate : ByteArray := prog_1_method_28_code
def yX7_simulate : MethodName := ⟨RX7, "simulate", "(JI)I"⟩
abbrev cX7_save : ByteArray := prog_1_method_29_code
def yX7_save : MethodName := ⟨RX7, "save", "(I)I"⟩
abbrev cX7_restore : ByteArray := prog_1_method_30_code
def yX7_restore : MethodName := ⟨RX7, "restore", "(I)I"⟩
abbrev cX7_presentTrading : ByteArray := prog_1_method_31_code
def yX7_presentTrading : MethodName := ⟨RX7, "presentTrading", "()LTradeRings$Trading;"⟩
abbrev cX7_needTrader : ByteArray := prog_1_method_32_code
def yX7_needTrader : MethodName := ⟨RX7, "needTrader", "(I)V"⟩
abbrev cX7_needThing : ByteArray := prog_1_method_33_code
def yX7_needThing : MethodName := ⟨RX7, "needThing", "(I)V"⟩
abbrev cX7_neededSlot : ByteArray := prog_1_method_34_code
def yX7_neededSlot : MethodName := ⟨RX7, "neededSlot", "(I)LTradeRings$Slot;"⟩
abbrev cX7_needRing : ByteArray := prog_1_method_35_code
def yX7_needRing : MethodName := ⟨RX7, "needRing", "(LTradeRings$Trading;I)V"⟩
abbrev cX7_meet : ByteArray := prog_1_method_36_code
def yX7_meet : MethodName := ⟨RX7, "meet", "(LTradeRings$Market;I)Z"⟩
abbrev cX7_bit : ByteArray := prog_1_method_37_code
def yX7_bit : MethodName := ⟨RX7, "bit", "(I)I"⟩
abbrev cX7_contains : ByteArray := prog_1_method_38_code
def yX7_contains : MethodName := ⟨RX7, "contains", "(II)Z"⟩
abbrev cX7_at : ByteArray := prog_1_method_39_code
def yX7_at : MethodName := ⟨RX7, "at", "([II)I"⟩
abbrev cX7_put : ByteArray := prog_1_method_40_code
def yX7_put : MethodName := ⟨RX7, "put", "([III)V"⟩
abbrev cX7_copyRow : ByteArray := prog_1_method_41_code
def yX7_copyRow : MethodName := ⟨RX7, "copyRow", "([I[I)V"⟩
def RX8 : String := "TradeRingsModel"
def TX8 : u_T := fun k => match k with
  | 0 => ("TradeRingsModel", "q", "[I", true)
  | 1 => ("TradeRingsModel", "spare", "[I", true)
  | 2 => ("TradeRingsModel", "remembered", "[I", true)
  | 3 => ("TradeRingsModel", "states", "I", false)
  | 4 => ("TradeRingsModel", "slots", "[I", true)
  | 5 => ("TradeRingsModel", "isSaved", "[Z", true)
  | 6 => ("TradeRingsModel", "text", "[I", true)
  | 7 => ("TradeRingsModel", "length", "I", false)
  | 8 => ("TradeRingsModel", "thrown", "I", false)
  | 9 => ("TradeRingsModel", "gets", "[I", true)
  | 10 => ("TradeRingsModel", "rounds", "[I", true)
  | 11 => ("TradeRingsModel", "ringOf", "[I", true)
  | 12 => ("TradeRingsModel", "first", "[I", true)
  | 13 => ("TradeRingsModel", "to", "[I", true)
  | 14 => ("TradeRingsModel", "rings", "[I", true)
  | 15 => ("TradeRingsModel", "ringRounds", "[I", true)
  | 16 => ("TradeRingsModel", "ringMany", "I", false)
  | 17 => ("TradeRingsModel", "roundMany", "I", false)
  | 18 => ("TradeRingsModel", "place", "I", false)
  | 19 => ("TradeRingsModel", "digit", "I", false)
  | 20 => ("TradeRingsModel", "read", "[I", true)
  | 21 => ("TradeRingsModel", "ways", "[I", true)
  | 22 => ("TradeRingsModel", "sums", "[I", true)
  | 23 => ("TradeRingsModel", "order", "[I", true)
  | 24 => ("TradeRingsModel", "before", "[I", true)
  | 25 => ("TradeRingsModel", "queue", "[I", true)
  | _ => ("TradeRingsModel", "isMet", "[Z", true)
def tyX8 : Nat → FieldType := fun k => match k with
  | 0 => .array .int
  | 1 => .array .int
  | 2 => .array .int
  | 3 => .int
  | 4 => .array .int
  | 5 => .array .boolean
  | 6 => .array .int
  | 7 => .int
  | 8 => .int
  | 9 => .array .int
  | 10 => .array .int
  | 11 => .array .int
  | 12 => .array .int
  | 13 => .array .int
  | 14 => .array .int
  | 15 => .array .int
  | 16 => .int
  | 17 => .int
  | 18 => .int
  | 19 => .int
  | 20 => .array .int
  | 21 => .array .int
  | 22 => .array .int
  | 23 => .array .int
  | 24 => .array .int
  | 25 => .array .int
  | _ => .array .boolean
abbrev wsX90 : List Cond := u_ws RX8 TX8 27
theorem nmX8 : ∀ a, a < 27 → ∀ b, b < 27 → a ≠ b → (TX8 a).2.1 ≠ (TX8 b).2.1 := by decide +kernel
theorem tyX8_ok : ∀ k, k < 27 → parseFieldDescriptor (TX8 k).2.2.1 = some (tyX8 k) := by decide +kernel
abbrev cX8_init : ByteArray := prog_11_method_1_code
def yX8_init : MethodName := ⟨RX8, "<init>", "()V"⟩
abbrev cX8_thrown : ByteArray := prog_11_method_2_code
def yX8_thrown : MethodName := ⟨RX8, "thrown", "()I"⟩
abbrev cX8_in : ByteArray := prog_11_method_3_code
def yX8_in : MethodName := ⟨RX8, "in", "(JJJ)Z"⟩
abbrev cX8_has : ByteArray := prog_11_method_4_code
def yX8_has : MethodName := ⟨RX8, "has", "(II)Z"⟩
abbrev cX8_ones : ByteArray := prog_11_method_5_code
def yX8_ones : MethodName := ⟨RX8, "ones", "(I)I"⟩
abbrev cX8_fails : ByteArray := prog_11_method_6_code
def yX8_fails : MethodName := ⟨RX8, "fails", "(I)I"⟩
abbrev cX8_keep : ByteArray := prog_11_method_7_code
def yX8_keep : MethodName := ⟨RX8, "keep", "()V"⟩
abbrev cX8_bringBack : ByteArray := prog_11_method_8_code
def yX8_bringBack : MethodName := ⟨RX8, "bringBack", "()V"⟩
abbrev cX8_remember : ByteArray := prog_11_method_9_code
def yX8_remember : MethodName := ⟨RX8, "remember", "()V"⟩
abbrev cX8_isOne : ByteArray := prog_11_method_10_code
def yX8_isOne : MethodName := ⟨RX8, "isOne", "(I)Z"⟩
abbrev cX8_isPresent : ByteArray := prog_11_method_11_code
def yX8_isPresent : MethodName := ⟨RX8, "isPresent", "(I)Z"⟩
abbrev cX8_rankOf : ByteArray := prog_11_method_12_code
def yX8_rankOf : MethodName := ⟨RX8, "rankOf", "(II)I"⟩
abbrev cX8_held : ByteArray := prog_11_method_13_code
def yX8_held : MethodName := ⟨RX8, "held", "(I)I"⟩
abbrev cX8_present : ByteArray := prog_11_method_14_code
def yX8_present : MethodName := ⟨RX8, "present", "()I"⟩
abbrev cX8_allRanks : ByteArray := prog_11_method_15_code
def yX8_allRanks : MethodName := ⟨RX8, "allRanks", "()I"⟩
abbrev cX8_pointsAt : ByteArray := prog_11_method_16_code
def yX8_pointsAt : MethodName := ⟨RX8, "pointsAt", "(II)I"⟩
abbrev cX8_ringWith : ByteArray := prog_11_method_17_code
def yX8_ringWith : MethodName := ⟨RX8, "ringWith", "(I)I"⟩
abbrev cX8_findTrading : ByteArray := prog_11_method_18_code
def yX8_findTrading : MethodName := ⟨RX8, "findTrading", "()V"⟩
abbrev cX8_finish : ByteArray := prog_11_method_19_code
def yX8_finish : MethodName := ⟨RX8, "finish", "(I)V"⟩
abbrev cX8_append : ByteArray := prog_11_method_20_code
def yX8_append : MethodName := ⟨RX8, "append", "(I)I"⟩
abbrev cX8_clearText : ByteArray := prog_11_method_21_code
def yX8_clearText : MethodName := ⟨RX8, "clearText", "()I"⟩
abbrev cX8_sign : ByteArray := prog_11_method_22_code
def yX8_sign : MethodName := ⟨RX8, "sign", "(I)Z"⟩
abbrev cX8_digitTo : ByteArray := prog_11_method_23_code
def yX8_digitTo : MethodName := ⟨RX8, "digitTo", "(II)Z"⟩
abbrev cX8_readHolders : ByteArray := prog_11_method_24_code
def yX8_readHolders : MethodName := ⟨RX8, "readHolders", "(I)Z"⟩
abbrev cX8_readMarket : ByteArray := prog_11_method_25_code
def yX8_readMarket : MethodName := ⟨RX8, "readMarket", "()Z"⟩
abbrev cX8_errorPosition : ByteArray := prog_11_method_26_code
def yX8_errorPosition : MethodName := ⟨RX8, "errorPosition", "()I"⟩
abbrev cX8_load : ByteArray := prog_11_method_27_code
def yX8_load : MethodName := ⟨RX8, "load", "()I"⟩
abbrev cX8_envies : ByteArray := prog_11_method_28_code
def yX8_envies : MethodName := ⟨RX8, "envies", "(II)Z"⟩
abbrev cX8_about : ByteArray := prog_11_method_29_code
def yX8_about : MethodName := ⟨RX8, "about", "(I)I"⟩
abbrev cX8_trader : ByteArray := prog_11_method_30_code
def yX8_trader : MethodName := ⟨RX8, "trader", "(II)I"⟩
abbrev cX8_rank : ByteArray := prog_11_method_31_code
def yX8_rank : MethodName := ⟨RX8, "rank", "(II)I"⟩
abbrev cX8_holder : ByteArray := prog_11_method_32_code
def yX8_holder : MethodName := ⟨RX8, "holder", "(I)I"⟩
abbrev cX8_ring : ByteArray := prog_11_method_33_code
def yX8_ring : MethodName := ⟨RX8, "ring", "(II)I"⟩
abbrev cX8_against : ByteArray := prog_11_method_34_code
def yX8_against : MethodName := ⟨RX8, "against", "(II)I"⟩
abbrev cX8_whyNot : ByteArray := prog_11_method_35_code
def yX8_whyNot : MethodName := ⟨RX8, "whyNot", "(II)I"⟩
abbrev cX8_addTrader : ByteArray := prog_11_method_36_code
def yX8_addTrader : MethodName := ⟨RX8, "addTrader", "()I"⟩
abbrev cX8_ranks : ByteArray := prog_11_method_37_code
def yX8_ranks : MethodName := ⟨RX8, "ranks", "(III)I"⟩
abbrev cX8_setRank : ByteArray := prog_11_method_38_code
def yX8_setRank : MethodName := ⟨RX8, "setRank", "(III)I"⟩
abbrev cX8_exchanges : ByteArray := prog_11_method_39_code
def yX8_exchanges : MethodName := ⟨RX8, "exchanges", "(II)I"⟩
abbrev cX8_exchange : ByteArray := prog_11_method_40_code
def yX8_exchange : MethodName := ⟨RX8, "exchange", "(II)I"⟩
abbrev cX8_takes : ByteArray := prog_11_method_41_code
def yX8_takes : MethodName := ⟨RX8, "takes", "(I)I"⟩
abbrev cX8_doRing : ByteArray := prog_11_method_42_code
def yX8_doRing : MethodName := ⟨RX8, "doRing", "(I)I"⟩
abbrev cX8_trades : ByteArray := prog_11_method_43_code
def yX8_trades : MethodName := ⟨RX8, "trades", "()I"⟩
abbrev cX8_trade : ByteArray := prog_11_method_44_code
def yX8_trade : MethodName := ⟨RX8, "trade", "()I"⟩
abbrev cX8_leave : ByteArray := prog_11_method_45_code
def yX8_leave : MethodName := ⟨RX8, "leave", "(I)I"⟩
abbrev cX8_home : ByteArray := prog_11_method_46_code
def yX8_home : MethodName := ⟨RX8, "home", "()I"⟩
abbrev cX8_goHome : ByteArray := prog_11_method_47_code
def yX8_goHome : MethodName := ⟨RX8, "goHome", "()I"⟩
abbrev cX8_undo : ByteArray := prog_11_method_48_code
def yX8_undo : MethodName := ⟨RX8, "undo", "()I"⟩
abbrev cX8_waysOf : ByteArray := prog_11_method_49_code
def yX8_waysOf : MethodName := ⟨RX8, "waysOf", "(III)I"⟩
abbrev cX8_spread : ByteArray := prog_11_method_50_code
def yX8_spread : MethodName := ⟨RX8, "spread", "(IIII)V"⟩
abbrev cX8_couldDo : ByteArray := prog_11_method_51_code
def yX8_couldDo : MethodName := ⟨RX8, "couldDo", "(IZ)Z"⟩
abbrev cX8_group : ByteArray := prog_11_method_52_code
def yX8_group : MethodName := ⟨RX8, "group", "(Z)I"⟩
abbrev cX8_groupMany : ByteArray := prog_11_method_53_code
def yX8_groupMany : MethodName := ⟨RX8, "groupMany", "(Z)I"⟩
abbrev cX8_groups : ByteArray := prog_11_method_54_code
def yX8_groups : MethodName := ⟨RX8, "groups", "(Z)I"⟩
abbrev cX8_presentOnes : ByteArray := prog_11_method_55_code
def yX8_presentOnes : MethodName := ⟨RX8, "presentOnes", "()I"⟩
abbrev cX8_heldThings : ByteArray := prog_11_method_56_code
def yX8_heldThings : MethodName := ⟨RX8, "heldThings", "()I"⟩
abbrev cX8_findLeast : ByteArray := prog_11_method_57_code
def yX8_findLeast : MethodName := ⟨RX8, "findLeast", "()I"⟩
abbrev cX8_least : ByteArray := prog_11_method_58_code
def yX8_least : MethodName := ⟨RX8, "least", "()I"⟩
abbrev cX8_leastOf : ByteArray := prog_11_method_59_code
def yX8_leastOf : MethodName := ⟨RX8, "leastOf", "(I)I"⟩
abbrev cX8_betterWays : ByteArray := prog_11_method_60_code
def yX8_betterWays : MethodName := ⟨RX8, "betterWays", "()I"⟩
abbrev cX8_harms : ByteArray := prog_11_method_61_code
def yX8_harms : MethodName := ⟨RX8, "harms", "(I)I"⟩
abbrev cX8_coded : ByteArray := prog_11_method_62_code
def yX8_coded : MethodName := ⟨RX8, "coded", "()I"⟩
abbrev cX8_uncodes : ByteArray := prog_11_method_63_code
def yX8_uncodes : MethodName := ⟨RX8, "uncodes", "(I)V"⟩
abbrev cX8_numberOf : ByteArray := prog_11_method_64_code
def yX8_numberOf : MethodName := ⟨RX8, "numberOf", "(I)I"⟩
abbrev cX8_exchangesTo : ByteArray := prog_11_method_65_code
def yX8_exchangesTo : MethodName := ⟨RX8, "exchangesTo", "(II)I"⟩
abbrev cX8_fewest : ByteArray := prog_11_method_66_code
def yX8_fewest : MethodName := ⟨RX8, "fewest", "(II)I"⟩
abbrev cX8_acts : ByteArray := prog_11_method_67_code
def yX8_acts : MethodName := ⟨RX8, "acts", "(IIII)Z"⟩
abbrev cX8_succeeds : ByteArray := prog_11_method_68_code
def yX8_succeeds : MethodName := ⟨RX8, "succeeds", "(I)Z"⟩
abbrev cX8_runScript : ByteArray := prog_11_method_69_code
def yX8_runScript : MethodName := ⟨RX8, "runScript", "(IJ)I"⟩
abbrev cX8_simulate : ByteArray := prog_11_method_70_code
def yX8_simulate : MethodName := ⟨RX8, "simulate", "(JI)I"⟩
abbrev cX8_save : ByteArray := prog_11_method_71_code
def yX8_save : MethodName := ⟨RX8, "save", "(I)I"⟩
abbrev cX8_restore : ByteArray := prog_11_method_72_code
def yX8_restore : MethodName := ⟨RX8, "restore", "(I)I"⟩
def RJx145de : String := "java/io/Serializable"
def TJx145de : u_T := fun k => match k with
  | _ => ("", "", "", false)
def tyJx145de : Nat → FieldType := fun k => match k with
  | _ => .int
abbrev wsJx145de0 : List Cond := u_ws RJx145de TJx145de 0
theorem nmJx145de : ∀ a, a < 0 → ∀ b, b < 0 → a ≠ b → (TJx145de a).2.1 ≠ (TJx145de b).2.1 := by decide +kernel
theorem tyJx145de_ok : ∀ k, k < 0 → parseFieldDescriptor (TJx145de k).2.2.1 = some (tyJx145de k) := by decide +kernel
def RJ6 : String := "java/lang/Integer"
def TJ6 : u_T := fun k => match k with
  | _ => ("", "", "", false)
def tyJ6 : Nat → FieldType := fun k => match k with
  | _ => .int
abbrev wsJ60 : List Cond := u_ws RJ6 TJ6 0
theorem nmJ6 : ∀ a, a < 0 → ∀ b, b < 0 → a ≠ b → (TJ6 a).2.1 ≠ (TJ6 b).2.1 := by decide +kernel
theorem tyJ6_ok : ∀ k, k < 0 → parseFieldDescriptor (TJ6 k).2.2.1 = some (tyJ6 k) := by decide +kernel
abbrev cJ6_bitCount_0f7a4 : ByteArray := prog_16_method_49_code
def yJ6_bitCount_0f7a4 : MethodName := ⟨RJ6, "bitCount", "(I)I"⟩
def RJ9 : String := "java/lang/Math"
def TJ9 : u_T := fun k => match k with
  | _ => ("", "", "", false)
def tyJ9 : Nat → FieldType := fun k => match k with
  | _ => .int
abbrev wsJ90 : List Cond := u_ws RJ9 TJ9 0
theorem nmJ9 : ∀ a, a < 0 → ∀ b, b < 0 → a ≠ b → (TJ9 a).2.1 ≠ (TJ9 b).2.1 := by decide +kernel
theorem tyJ9_ok : ∀ k, k < 0 → parseFieldDescriptor (TJ9 k).2.2.1 = some (tyJ9 k) := by decide +kernel
abbrev cJ9_min_7cf53 : ByteArray := prog_17_method_69_code
def yJ9_min_7cf53 : MethodName := ⟨RJ9, "min", "(II)I"⟩
def RJ0 : String := "java/lang/String"
def TJ0 : u_T := fun k => match k with
  | _ => ("", "", "", false)
def tyJ0 : Nat → FieldType := fun k => match k with
  | _ => .int
abbrev wsJ00 : List Cond := u_ws RJ0 TJ0 0
theorem nmJ0 : ∀ a, a < 0 → ∀ b, b < 0 → a ≠ b → (TJ0 a).2.1 ≠ (TJ0 b).2.1 := by decide +kernel
theorem tyJ0_ok : ∀ k, k < 0 → parseFieldDescriptor (TJ0 k).2.2.1 = some (tyJ0 k) := by decide +kernel
def RJ10 : String := "java/lang/System"
def TJ10 : u_T := fun k => match k with
  | _ => ("", "", "", false)
def tyJ10 : Nat → FieldType := fun k => match k with
  | _ => .int
abbrev wsJ100 : List Cond := u_ws RJ10 TJ10 0
theorem nmJ10 : ∀ a, a < 0 → ∀ b, b < 0 → a ≠ b → (TJ10 a).2.1 ≠ (TJ10 b).2.1 := by decide +kernel
theorem tyJ10_ok : ∀ k, k < 0 → parseFieldDescriptor (TJ10 k).2.2.1 = some (tyJ10 k) := by decide +kernel
def RJ7 : String := "java/util/Arrays"
def TJ7 : u_T := fun k => match k with
  | _ => ("", "", "", false)
def tyJ7 : Nat → FieldType := fun k => match k with
  | _ => .int
abbrev wsJ70 : List Cond := u_ws RJ7 TJ7 0
theorem nmJ7 : ∀ a, a < 0 → ∀ b, b < 0 → a ≠ b → (TJ7 a).2.1 ≠ (TJ7 b).2.1 := by decide +kernel
theorem tyJ7_ok : ∀ k, k < 0 → parseFieldDescriptor (TJ7 k).2.2.1 = some (tyJ7 k) := by decide +kernel
abbrev cJ7_fill_d0a16 : ByteArray := prog_22_method_101_code
def yJ7_fill_d0a16 : MethodName := ⟨RJ7, "fill", "([JJ)V"⟩
def RL : String := "TradeRingsLaw"
abbrev cL_append : ByteArray := method_3_code
def yL_append : MethodName := ⟨RL, "append", "(LTradeRings;I[J)I"⟩
abbrev cL_load : ByteArray := method_4_code
def yL_load : MethodName := ⟨RL, "load", "(LTradeRings;[J)I"⟩
abbrev cL_about : ByteArray := method_5_code
def yL_about : MethodName := ⟨RL, "about", "(LTradeRings;I[J)I"⟩
abbrev cL_trader : ByteArray := method_6_code
def yL_trader : MethodName := ⟨RL, "trader", "(LTradeRings;II[J)I"⟩
abbrev cL_rank : ByteArray := method_7_code
def yL_rank : MethodName := ⟨RL, "rank", "(LTradeRings;II[J)I"⟩
abbrev cL_holder : ByteArray := method_8_code
def yL_holder : MethodName := ⟨RL, "holder", "(LTradeRings;I[J)I"⟩
abbrev cL_ring : ByteArray := method_9_code
def yL_ring : MethodName := ⟨RL, "ring", "(LTradeRings;II[J)I"⟩
abbrev cL_whyNot : ByteArray := method_10_code
def yL_whyNot : MethodName := ⟨RL, "whyNot", "(LTradeRings;II[J)I"⟩
abbrev cL_addTrader : ByteArray := method_11_code
def yL_addTrader : MethodName := ⟨RL, "addTrader", "(LTradeRings;[J)I"⟩
abbrev cL_setRank : ByteArray := method_12_code
def yL_setRank : MethodName := ⟨RL, "setRank", "(LTradeRings;III[J)I"⟩
abbrev cL_exchange : ByteArray := method_13_code
def yL_exchange : MethodName := ⟨RL, "exchange", "(LTradeRings;II[J)I"⟩
abbrev cL_doRing : ByteArray := method_14_code
def yL_doRing : MethodName := ⟨RL, "doRing", "(LTradeRings;I[J)I"⟩
abbrev cL_leave : ByteArray := method_15_code
def yL_leave : MethodName := ⟨RL, "leave", "(LTradeRings;I[J)I"⟩
abbrev cL_undo : ByteArray := method_16_code
def yL_undo : MethodName := ⟨RL, "undo", "(LTradeRings;[J)I"⟩
abbrev cL_leastOf : ByteArray := method_17_code
def yL_leastOf : MethodName := ⟨RL, "leastOf", "(LTradeRings;I[J)I"⟩
abbrev cL_harms : ByteArray := method_18_code
def yL_harms : MethodName := ⟨RL, "harms", "(LTradeRings;I[J)I"⟩
abbrev cL_fewest : ByteArray := method_19_code
def yL_fewest : MethodName := ⟨RL, "fewest", "(LTradeRings;II[J)I"⟩
abbrev cL_runScript : ByteArray := method_20_code
def yL_runScript : MethodName := ⟨RL, "runScript", "(LTradeRings;IJ[J)I"⟩
abbrev cL_simulate : ByteArray := method_21_code
def yL_simulate : MethodName := ⟨RL, "simulate", "(LTradeRings;JI[J)I"⟩
abbrev cL_save : ByteArray := method_22_code
def yL_save : MethodName := ⟨RL, "save", "(LTradeRings;I[J)I"⟩
abbrev cL_restore : ByteArray := method_23_code
def yL_restore : MethodName := ⟨RL, "restore", "(LTradeRings;I[J)I"⟩
abbrev cL_law : ByteArray := code
def yL_law : MethodName := ⟨RL, "law", "([I)Z"⟩
abbrev vwCl : List vw_C := [(RX0, TX0, 3), (RX1, TX1, 4), (RX2, TX2, 2), (RX3, TX3, 3), (RX4, TX4, 6), (RX5, TX5, 2), (RX6, TX6, 9), (RX7, TX7, 11), (RX8, TX8, 27), (RX9, TX9, 2)]
