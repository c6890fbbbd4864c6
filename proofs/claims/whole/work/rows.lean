section
-- ===== PART A: goes FIRST, ahead of the names: the tables' words, and 'selects' of the private methods out of them =====
/-- a private method of a class that the tables say can be made, by its rows of tables_1 -/
def lw_okq (q : MethodName × Nat) : Prop := (q.1.cls ≠ "java/lang/invoke/MethodHandle" ∧ q.1.cls ≠ "java/lang/invoke/VarHandle") ∧ Cond.instantiable q.1.cls q.2 ∈ tables_1 ∧ Cond.privateMethod q.1 ∈ tables_1 ∧ Cond.instanceMethod q.1 ∈ tables_1
theorem lw_p0 : lw_okq (⟨"TradeRings$Text", "at", "(I)I"⟩, 2) := ⟨⟨by decide +kernel, by decide +kernel⟩, List.mem_of_getElem? (i := 29) (by decide +kernel), List.mem_of_getElem? (i := 239) (by decide +kernel), List.mem_of_getElem? (i := 240) (by decide +kernel)⟩
theorem lw_p1 : lw_okq (⟨"TradeRings$Text", "digitAt", "(III)I"⟩, 2) := ⟨⟨by decide +kernel, by decide +kernel⟩, List.mem_of_getElem? (i := 29) (by decide +kernel), List.mem_of_getElem? (i := 243) (by decide +kernel), List.mem_of_getElem? (i := 244) (by decide +kernel)⟩
theorem lw_p2 : lw_okq (⟨"TradeRings$Text", "readRanks", "(LTradeRings$Market;I)I"⟩, 2) := ⟨⟨by decide +kernel, by decide +kernel⟩, List.mem_of_getElem? (i := 29) (by decide +kernel), List.mem_of_getElem? (i := 255) (by decide +kernel), List.mem_of_getElem? (i := 256) (by decide +kernel)⟩
theorem lw_p3 : lw_okq (⟨"TradeRings$Text", "readHoldings", "(LTradeRings$Market;I)I"⟩, 2) := ⟨⟨by decide +kernel, by decide +kernel⟩, List.mem_of_getElem? (i := 29) (by decide +kernel), List.mem_of_getElem? (i := 263) (by decide +kernel), List.mem_of_getElem? (i := 264) (by decide +kernel)⟩
theorem lw_p4 : lw_okq (⟨"TradeRings", "presentTrading", "()LTradeRings$Trading;"⟩, 11) := ⟨⟨by decide +kernel, by decide +kernel⟩, List.mem_of_getElem? (i := 21) (by decide +kernel), List.mem_of_getElem? (i := 296) (by decide +kernel), List.mem_of_getElem? (i := 297) (by decide +kernel)⟩
theorem lw_p5 : lw_okq (⟨"TradeRings$Trading", "forget", "()V"⟩, 9) := ⟨⟨by decide +kernel, by decide +kernel⟩, List.mem_of_getElem? (i := 93) (by decide +kernel), List.mem_of_getElem? (i := 312) (by decide +kernel), List.mem_of_getElem? (i := 313) (by decide +kernel)⟩
theorem lw_p6 : lw_okq (⟨"TradeRings$Trading", "point", "(LTradeRings$Market;I)V"⟩, 9) := ⟨⟨by decide +kernel, by decide +kernel⟩, List.mem_of_getElem? (i := 93) (by decide +kernel), List.mem_of_getElem? (i := 316) (by decide +kernel), List.mem_of_getElem? (i := 317) (by decide +kernel)⟩
theorem lw_p7 : lw_okq (⟨"TradeRings$Trading", "closeRings", "(LTradeRings$Market;I)I"⟩, 9) := ⟨⟨by decide +kernel, by decide +kernel⟩, List.mem_of_getElem? (i := 93) (by decide +kernel), List.mem_of_getElem? (i := 328) (by decide +kernel), List.mem_of_getElem? (i := 329) (by decide +kernel)⟩
theorem lw_p8 : lw_okq (⟨"TradeRings$Trading", "ringThrough", "(I)I"⟩, 9) := ⟨⟨by decide +kernel, by decide +kernel⟩, List.mem_of_getElem? (i := 93) (by decide +kernel), List.mem_of_getElem? (i := 332) (by decide +kernel), List.mem_of_getElem? (i := 333) (by decide +kernel)⟩
theorem lw_p9 : lw_okq (⟨"TradeRings$Trading", "addRing", "(LTradeRings$Market;I)V"⟩, 9) := ⟨⟨by decide +kernel, by decide +kernel⟩, List.mem_of_getElem? (i := 93) (by decide +kernel), List.mem_of_getElem? (i := 337) (by decide +kernel), List.mem_of_getElem? (i := 338) (by decide +kernel)⟩
theorem lw_p10 : lw_okq (⟨"TradeRings$Sharing", "noteLikings", "(LTradeRings$Market;)V"⟩, 6) := ⟨⟨by decide +kernel, by decide +kernel⟩, List.mem_of_getElem? (i := 138) (by decide +kernel), List.mem_of_getElem? (i := 359) (by decide +kernel), List.mem_of_getElem? (i := 360) (by decide +kernel)⟩
theorem lw_p11 : lw_okq (⟨"TradeRings$Sharing", "couldDoBetter", "(LTradeRings$Market;IZ)Z"⟩, 6) := ⟨⟨by decide +kernel, by decide +kernel⟩, List.mem_of_getElem? (i := 138) (by decide +kernel), List.mem_of_getElem? (i := 376) (by decide +kernel), List.mem_of_getElem? (i := 377) (by decide +kernel)⟩
theorem lw_p12 : lw_okq (⟨"TradeRings$Sharing", "lineUp", "(LTradeRings$Market;I)V"⟩, 6) := ⟨⟨by decide +kernel, by decide +kernel⟩, List.mem_of_getElem? (i := 138) (by decide +kernel), List.mem_of_getElem? (i := 380) (by decide +kernel), List.mem_of_getElem? (i := 381) (by decide +kernel)⟩
theorem lw_p13 : lw_okq (⟨"TradeRings$Sharing", "countWays", "(I[I)I"⟩, 6) := ⟨⟨by decide +kernel, by decide +kernel⟩, List.mem_of_getElem? (i := 138) (by decide +kernel), List.mem_of_getElem? (i := 385) (by decide +kernel), List.mem_of_getElem? (i := 386) (by decide +kernel)⟩
theorem lw_p14 : lw_okq (⟨"TradeRings$Sharing", "spread", "(II)V"⟩, 6) := ⟨⟨by decide +kernel, by decide +kernel⟩, List.mem_of_getElem? (i := 138) (by decide +kernel), List.mem_of_getElem? (i := 389) (by decide +kernel), List.mem_of_getElem? (i := 390) (by decide +kernel)⟩
theorem lw_p15 : lw_okq (⟨"TradeRings$Sharing", "bestThing", "(LTradeRings$Market;III)I"⟩, 6) := ⟨⟨by decide +kernel, by decide +kernel⟩, List.mem_of_getElem? (i := 138) (by decide +kernel), List.mem_of_getElem? (i := 414) (by decide +kernel), List.mem_of_getElem? (i := 415) (by decide +kernel)⟩
def lw_privs_1 : List (MethodName × Nat) := [(⟨"TradeRings$Text", "at", "(I)I"⟩, 2), (⟨"TradeRings$Text", "digitAt", "(III)I"⟩, 2), (⟨"TradeRings$Text", "readRanks", "(LTradeRings$Market;I)I"⟩, 2), (⟨"TradeRings$Text", "readHoldings", "(LTradeRings$Market;I)I"⟩, 2), (⟨"TradeRings", "presentTrading", "()LTradeRings$Trading;"⟩, 11), (⟨"TradeRings$Trading", "forget", "()V"⟩, 9), (⟨"TradeRings$Trading", "point", "(LTradeRings$Market;I)V"⟩, 9), (⟨"TradeRings$Trading", "closeRings", "(LTradeRings$Market;I)I"⟩, 9), (⟨"TradeRings$Trading", "ringThrough", "(I)I"⟩, 9), (⟨"TradeRings$Trading", "addRing", "(LTradeRings$Market;I)V"⟩, 9), (⟨"TradeRings$Sharing", "noteLikings", "(LTradeRings$Market;)V"⟩, 6), (⟨"TradeRings$Sharing", "couldDoBetter", "(LTradeRings$Market;IZ)Z"⟩, 6), (⟨"TradeRings$Sharing", "lineUp", "(LTradeRings$Market;I)V"⟩, 6), (⟨"TradeRings$Sharing", "countWays", "(I[I)I"⟩, 6), (⟨"TradeRings$Sharing", "spread", "(II)V"⟩, 6), (⟨"TradeRings$Sharing", "bestThing", "(LTradeRings$Market;III)I"⟩, 6)]
theorem lw_r1 : ∀ q ∈ lw_privs_1, lw_okq q := List.forall_mem_cons.mpr ⟨lw_p0, List.forall_mem_cons.mpr ⟨lw_p1, List.forall_mem_cons.mpr ⟨lw_p2, List.forall_mem_cons.mpr ⟨lw_p3, List.forall_mem_cons.mpr ⟨lw_p4, List.forall_mem_cons.mpr ⟨lw_p5, List.forall_mem_cons.mpr ⟨lw_p6, List.forall_mem_cons.mpr ⟨lw_p7, List.forall_mem_cons.mpr ⟨lw_p8, List.forall_mem_cons.mpr ⟨lw_p9, List.forall_mem_cons.mpr ⟨lw_p10, List.forall_mem_cons.mpr ⟨lw_p11, List.forall_mem_cons.mpr ⟨lw_p12, List.forall_mem_cons.mpr ⟨lw_p13, List.forall_mem_cons.mpr ⟨lw_p14, List.forall_mem_cons.mpr ⟨lw_p15, fun _ h => absurd h List.not_mem_nil⟩⟩⟩⟩⟩⟩⟩⟩⟩⟩⟩⟩⟩⟩⟩⟩
theorem lw_p16 : lw_okq (⟨"TradeRings$Sharing", "sumWith", "(LTradeRings$Market;III)I"⟩, 6) := ⟨⟨by decide +kernel, by decide +kernel⟩, List.mem_of_getElem? (i := 138) (by decide +kernel), List.mem_of_getElem? (i := 418) (by decide +kernel), List.mem_of_getElem? (i := 419) (by decide +kernel)⟩
theorem lw_p17 : lw_okq (⟨"java/lang/Throwable", "fillInStackTrace", "(I)Ljava/lang/Throwable;"⟩, 6) := ⟨⟨by decide +kernel, by decide +kernel⟩, List.mem_of_getElem? (i := 478) (by decide +kernel), List.mem_of_getElem? (i := 476) (by decide +kernel), List.mem_of_getElem? (i := 477) (by decide +kernel)⟩
theorem lw_p18 : lw_okq (⟨"TradeRings", "needTrader", "(I)V"⟩, 11) := ⟨⟨by decide +kernel, by decide +kernel⟩, List.mem_of_getElem? (i := 21) (by decide +kernel), List.mem_of_getElem? (i := 593) (by decide +kernel), List.mem_of_getElem? (i := 594) (by decide +kernel)⟩
theorem lw_p19 : lw_okq (⟨"TradeRings", "needThing", "(I)V"⟩, 11) := ⟨⟨by decide +kernel, by decide +kernel⟩, List.mem_of_getElem? (i := 21) (by decide +kernel), List.mem_of_getElem? (i := 627) (by decide +kernel), List.mem_of_getElem? (i := 628) (by decide +kernel)⟩
theorem lw_p20 : lw_okq (⟨"TradeRings$Search", "meet", "(LTradeRings$Market;I)V"⟩, 3) := ⟨⟨by decide +kernel, by decide +kernel⟩, List.mem_of_getElem? (i := 163) (by decide +kernel), List.mem_of_getElem? (i := 775) (by decide +kernel), List.mem_of_getElem? (i := 776) (by decide +kernel)⟩
theorem lw_p21 : lw_okq (⟨"TradeRings$Search", "exchangeAll", "(LTradeRings$Market;III)Z"⟩, 3) := ⟨⟨by decide +kernel, by decide +kernel⟩, List.mem_of_getElem? (i := 163) (by decide +kernel), List.mem_of_getElem? (i := 791) (by decide +kernel), List.mem_of_getElem? (i := 792) (by decide +kernel)⟩
theorem lw_p22 : lw_okq (⟨"TradeRings", "needSlot", "(I)V"⟩, 11) := ⟨⟨by decide +kernel, by decide +kernel⟩, List.mem_of_getElem? (i := 21) (by decide +kernel), List.mem_of_getElem? (i := 867) (by decide +kernel), List.mem_of_getElem? (i := 868) (by decide +kernel)⟩
theorem lw_p23 : lw_okq (⟨"TradeRingsModel", "fails", "(I)I"⟩, 27) := ⟨⟨by decide +kernel, by decide +kernel⟩, List.mem_of_getElem? (i := 880) (by decide +kernel), List.mem_of_getElem? (i := 980) (by decide +kernel), List.mem_of_getElem? (i := 981) (by decide +kernel)⟩
theorem lw_p24 : lw_okq (⟨"TradeRingsModel", "readMarket", "()Z"⟩, 27) := ⟨⟨by decide +kernel, by decide +kernel⟩, List.mem_of_getElem? (i := 880) (by decide +kernel), List.mem_of_getElem? (i := 992) (by decide +kernel), List.mem_of_getElem? (i := 993) (by decide +kernel)⟩
theorem lw_p25 : lw_okq (⟨"TradeRingsModel", "sign", "(I)Z"⟩, 27) := ⟨⟨by decide +kernel, by decide +kernel⟩, List.mem_of_getElem? (i := 880) (by decide +kernel), List.mem_of_getElem? (i := 996) (by decide +kernel), List.mem_of_getElem? (i := 997) (by decide +kernel)⟩
theorem lw_p26 : lw_okq (⟨"TradeRingsModel", "digitTo", "(II)Z"⟩, 27) := ⟨⟨by decide +kernel, by decide +kernel⟩, List.mem_of_getElem? (i := 880) (by decide +kernel), List.mem_of_getElem? (i := 1000) (by decide +kernel), List.mem_of_getElem? (i := 1001) (by decide +kernel)⟩
theorem lw_p27 : lw_okq (⟨"TradeRingsModel", "readHolders", "(I)Z"⟩, 27) := ⟨⟨by decide +kernel, by decide +kernel⟩, List.mem_of_getElem? (i := 880) (by decide +kernel), List.mem_of_getElem? (i := 1004) (by decide +kernel), List.mem_of_getElem? (i := 1005) (by decide +kernel)⟩
theorem lw_p28 : lw_okq (⟨"TradeRingsModel", "present", "()I"⟩, 27) := ⟨⟨by decide +kernel, by decide +kernel⟩, List.mem_of_getElem? (i := 880) (by decide +kernel), List.mem_of_getElem? (i := 1015) (by decide +kernel), List.mem_of_getElem? (i := 1016) (by decide +kernel)⟩
theorem lw_p29 : lw_okq (⟨"TradeRingsModel", "findTrading", "()V"⟩, 27) := ⟨⟨by decide +kernel, by decide +kernel⟩, List.mem_of_getElem? (i := 880) (by decide +kernel), List.mem_of_getElem? (i := 1026) (by decide +kernel), List.mem_of_getElem? (i := 1027) (by decide +kernel)⟩
theorem lw_p30 : lw_okq (⟨"TradeRingsModel", "isPresent", "(I)Z"⟩, 27) := ⟨⟨by decide +kernel, by decide +kernel⟩, List.mem_of_getElem? (i := 880) (by decide +kernel), List.mem_of_getElem? (i := 1030) (by decide +kernel), List.mem_of_getElem? (i := 1031) (by decide +kernel)⟩
theorem lw_p31 : lw_okq (⟨"TradeRingsModel", "pointsAt", "(II)I"⟩, 27) := ⟨⟨by decide +kernel, by decide +kernel⟩, List.mem_of_getElem? (i := 880) (by decide +kernel), List.mem_of_getElem? (i := 1034) (by decide +kernel), List.mem_of_getElem? (i := 1035) (by decide +kernel)⟩
def lw_privs_2 : List (MethodName × Nat) := [(⟨"TradeRings$Sharing", "sumWith", "(LTradeRings$Market;III)I"⟩, 6), (⟨"java/lang/Throwable", "fillInStackTrace", "(I)Ljava/lang/Throwable;"⟩, 6), (⟨"TradeRings", "needTrader", "(I)V"⟩, 11), (⟨"TradeRings", "needThing", "(I)V"⟩, 11), (⟨"TradeRings$Search", "meet", "(LTradeRings$Market;I)V"⟩, 3), (⟨"TradeRings$Search", "exchangeAll", "(LTradeRings$Market;III)Z"⟩, 3), (⟨"TradeRings", "needSlot", "(I)V"⟩, 11), (⟨"TradeRingsModel", "fails", "(I)I"⟩, 27), (⟨"TradeRingsModel", "readMarket", "()Z"⟩, 27), (⟨"TradeRingsModel", "sign", "(I)Z"⟩, 27), (⟨"TradeRingsModel", "digitTo", "(II)Z"⟩, 27), (⟨"TradeRingsModel", "readHolders", "(I)Z"⟩, 27), (⟨"TradeRingsModel", "present", "()I"⟩, 27), (⟨"TradeRingsModel", "findTrading", "()V"⟩, 27), (⟨"TradeRingsModel", "isPresent", "(I)Z"⟩, 27), (⟨"TradeRingsModel", "pointsAt", "(II)I"⟩, 27)]
theorem lw_r2 : ∀ q ∈ lw_privs_2, lw_okq q := List.forall_mem_cons.mpr ⟨lw_p16, List.forall_mem_cons.mpr ⟨lw_p17, List.forall_mem_cons.mpr ⟨lw_p18, List.forall_mem_cons.mpr ⟨lw_p19, List.forall_mem_cons.mpr ⟨lw_p20, List.forall_mem_cons.mpr ⟨lw_p21, List.forall_mem_cons.mpr ⟨lw_p22, List.forall_mem_cons.mpr ⟨lw_p23, List.forall_mem_cons.mpr ⟨lw_p24, List.forall_mem_cons.mpr ⟨lw_p25, List.forall_mem_cons.mpr ⟨lw_p26, List.forall_mem_cons.mpr ⟨lw_p27, List.forall_mem_cons.mpr ⟨lw_p28, List.forall_mem_cons.mpr ⟨lw_p29, List.forall_mem_cons.mpr ⟨lw_p30, List.forall_mem_cons.mpr ⟨lw_p31, fun _ h => absurd h List.not_mem_nil⟩⟩⟩⟩⟩⟩⟩⟩⟩⟩⟩⟩⟩⟩⟩⟩
theorem lw_p32 : lw_okq (⟨"TradeRingsModel", "held", "(I)I"⟩, 27) := ⟨⟨by decide +kernel, by decide +kernel⟩, List.mem_of_getElem? (i := 880) (by decide +kernel), List.mem_of_getElem? (i := 1038) (by decide +kernel), List.mem_of_getElem? (i := 1039) (by decide +kernel)⟩
theorem lw_p33 : lw_okq (⟨"TradeRingsModel", "rankOf", "(II)I"⟩, 27) := ⟨⟨by decide +kernel, by decide +kernel⟩, List.mem_of_getElem? (i := 880) (by decide +kernel), List.mem_of_getElem? (i := 1042) (by decide +kernel), List.mem_of_getElem? (i := 1043) (by decide +kernel)⟩
theorem lw_p34 : lw_okq (⟨"TradeRingsModel", "ringWith", "(I)I"⟩, 27) := ⟨⟨by decide +kernel, by decide +kernel⟩, List.mem_of_getElem? (i := 880) (by decide +kernel), List.mem_of_getElem? (i := 1046) (by decide +kernel), List.mem_of_getElem? (i := 1047) (by decide +kernel)⟩
theorem lw_p35 : lw_okq (⟨"TradeRingsModel", "finish", "(I)V"⟩, 27) := ⟨⟨by decide +kernel, by decide +kernel⟩, List.mem_of_getElem? (i := 880) (by decide +kernel), List.mem_of_getElem? (i := 1050) (by decide +kernel), List.mem_of_getElem? (i := 1051) (by decide +kernel)⟩
theorem lw_p36 : lw_okq (⟨"TradeRingsModel", "envies", "(II)Z"⟩, 27) := ⟨⟨by decide +kernel, by decide +kernel⟩, List.mem_of_getElem? (i := 880) (by decide +kernel), List.mem_of_getElem? (i := 1054) (by decide +kernel), List.mem_of_getElem? (i := 1055) (by decide +kernel)⟩
theorem lw_p37 : lw_okq (⟨"TradeRingsModel", "allRanks", "()I"⟩, 27) := ⟨⟨by decide +kernel, by decide +kernel⟩, List.mem_of_getElem? (i := 880) (by decide +kernel), List.mem_of_getElem? (i := 1058) (by decide +kernel), List.mem_of_getElem? (i := 1059) (by decide +kernel)⟩
theorem lw_p38 : lw_okq (⟨"TradeRingsModel", "isOne", "(I)Z"⟩, 27) := ⟨⟨by decide +kernel, by decide +kernel⟩, List.mem_of_getElem? (i := 880) (by decide +kernel), List.mem_of_getElem? (i := 1066) (by decide +kernel), List.mem_of_getElem? (i := 1067) (by decide +kernel)⟩
theorem lw_p39 : lw_okq (⟨"TradeRingsModel", "against", "(II)I"⟩, 27) := ⟨⟨by decide +kernel, by decide +kernel⟩, List.mem_of_getElem? (i := 880) (by decide +kernel), List.mem_of_getElem? (i := 1087) (by decide +kernel), List.mem_of_getElem? (i := 1088) (by decide +kernel)⟩
theorem lw_p40 : lw_okq (⟨"TradeRingsModel", "remember", "()V"⟩, 27) := ⟨⟨by decide +kernel, by decide +kernel⟩, List.mem_of_getElem? (i := 880) (by decide +kernel), List.mem_of_getElem? (i := 1095) (by decide +kernel), List.mem_of_getElem? (i := 1096) (by decide +kernel)⟩
theorem lw_p41 : lw_okq (⟨"TradeRingsModel", "ranks", "(III)I"⟩, 27) := ⟨⟨by decide +kernel, by decide +kernel⟩, List.mem_of_getElem? (i := 880) (by decide +kernel), List.mem_of_getElem? (i := 1104) (by decide +kernel), List.mem_of_getElem? (i := 1105) (by decide +kernel)⟩
theorem lw_p42 : lw_okq (⟨"TradeRingsModel", "exchanges", "(II)I"⟩, 27) := ⟨⟨by decide +kernel, by decide +kernel⟩, List.mem_of_getElem? (i := 880) (by decide +kernel), List.mem_of_getElem? (i := 1112) (by decide +kernel), List.mem_of_getElem? (i := 1113) (by decide +kernel)⟩
theorem lw_p43 : lw_okq (⟨"TradeRingsModel", "takes", "(I)I"⟩, 27) := ⟨⟨by decide +kernel, by decide +kernel⟩, List.mem_of_getElem? (i := 880) (by decide +kernel), List.mem_of_getElem? (i := 1120) (by decide +kernel), List.mem_of_getElem? (i := 1121) (by decide +kernel)⟩
theorem lw_p44 : lw_okq (⟨"TradeRingsModel", "trades", "()I"⟩, 27) := ⟨⟨by decide +kernel, by decide +kernel⟩, List.mem_of_getElem? (i := 880) (by decide +kernel), List.mem_of_getElem? (i := 1128) (by decide +kernel), List.mem_of_getElem? (i := 1129) (by decide +kernel)⟩
theorem lw_p45 : lw_okq (⟨"TradeRingsModel", "home", "()I"⟩, 27) := ⟨⟨by decide +kernel, by decide +kernel⟩, List.mem_of_getElem? (i := 880) (by decide +kernel), List.mem_of_getElem? (i := 1140) (by decide +kernel), List.mem_of_getElem? (i := 1141) (by decide +kernel)⟩
theorem lw_p46 : lw_okq (⟨"TradeRingsModel", "couldDo", "(IZ)Z"⟩, 27) := ⟨⟨by decide +kernel, by decide +kernel⟩, List.mem_of_getElem? (i := 880) (by decide +kernel), List.mem_of_getElem? (i := 1152) (by decide +kernel), List.mem_of_getElem? (i := 1153) (by decide +kernel)⟩
theorem lw_p47 : lw_okq (⟨"TradeRingsModel", "waysOf", "(III)I"⟩, 27) := ⟨⟨by decide +kernel, by decide +kernel⟩, List.mem_of_getElem? (i := 880) (by decide +kernel), List.mem_of_getElem? (i := 1156) (by decide +kernel), List.mem_of_getElem? (i := 1157) (by decide +kernel)⟩
def lw_privs_3 : List (MethodName × Nat) := [(⟨"TradeRingsModel", "held", "(I)I"⟩, 27), (⟨"TradeRingsModel", "rankOf", "(II)I"⟩, 27), (⟨"TradeRingsModel", "ringWith", "(I)I"⟩, 27), (⟨"TradeRingsModel", "finish", "(I)V"⟩, 27), (⟨"TradeRingsModel", "envies", "(II)Z"⟩, 27), (⟨"TradeRingsModel", "allRanks", "()I"⟩, 27), (⟨"TradeRingsModel", "isOne", "(I)Z"⟩, 27), (⟨"TradeRingsModel", "against", "(II)I"⟩, 27), (⟨"TradeRingsModel", "remember", "()V"⟩, 27), (⟨"TradeRingsModel", "ranks", "(III)I"⟩, 27), (⟨"TradeRingsModel", "exchanges", "(II)I"⟩, 27), (⟨"TradeRingsModel", "takes", "(I)I"⟩, 27), (⟨"TradeRingsModel", "trades", "()I"⟩, 27), (⟨"TradeRingsModel", "home", "()I"⟩, 27), (⟨"TradeRingsModel", "couldDo", "(IZ)Z"⟩, 27), (⟨"TradeRingsModel", "waysOf", "(III)I"⟩, 27)]
theorem lw_r3 : ∀ q ∈ lw_privs_3, lw_okq q := List.forall_mem_cons.mpr ⟨lw_p32, List.forall_mem_cons.mpr ⟨lw_p33, List.forall_mem_cons.mpr ⟨lw_p34, List.forall_mem_cons.mpr ⟨lw_p35, List.forall_mem_cons.mpr ⟨lw_p36, List.forall_mem_cons.mpr ⟨lw_p37, List.forall_mem_cons.mpr ⟨lw_p38, List.forall_mem_cons.mpr ⟨lw_p39, List.forall_mem_cons.mpr ⟨lw_p40, List.forall_mem_cons.mpr ⟨lw_p41, List.forall_mem_cons.mpr ⟨lw_p42, List.forall_mem_cons.mpr ⟨lw_p43, List.forall_mem_cons.mpr ⟨lw_p44, List.forall_mem_cons.mpr ⟨lw_p45, List.forall_mem_cons.mpr ⟨lw_p46, List.forall_mem_cons.mpr ⟨lw_p47, fun _ h => absurd h List.not_mem_nil⟩⟩⟩⟩⟩⟩⟩⟩⟩⟩⟩⟩⟩⟩⟩⟩
theorem lw_p48 : lw_okq (⟨"TradeRingsModel", "spread", "(IIII)V"⟩, 27) := ⟨⟨by decide +kernel, by decide +kernel⟩, List.mem_of_getElem? (i := 880) (by decide +kernel), List.mem_of_getElem? (i := 1160) (by decide +kernel), List.mem_of_getElem? (i := 1161) (by decide +kernel)⟩
theorem lw_p49 : lw_okq (⟨"TradeRingsModel", "groupMany", "(Z)I"⟩, 27) := ⟨⟨by decide +kernel, by decide +kernel⟩, List.mem_of_getElem? (i := 880) (by decide +kernel), List.mem_of_getElem? (i := 1168) (by decide +kernel), List.mem_of_getElem? (i := 1169) (by decide +kernel)⟩
theorem lw_p50 : lw_okq (⟨"TradeRingsModel", "findLeast", "()I"⟩, 27) := ⟨⟨by decide +kernel, by decide +kernel⟩, List.mem_of_getElem? (i := 880) (by decide +kernel), List.mem_of_getElem? (i := 1176) (by decide +kernel), List.mem_of_getElem? (i := 1177) (by decide +kernel)⟩
theorem lw_p51 : lw_okq (⟨"TradeRingsModel", "heldThings", "()I"⟩, 27) := ⟨⟨by decide +kernel, by decide +kernel⟩, List.mem_of_getElem? (i := 880) (by decide +kernel), List.mem_of_getElem? (i := 1180) (by decide +kernel), List.mem_of_getElem? (i := 1181) (by decide +kernel)⟩
theorem lw_p52 : lw_okq (⟨"TradeRingsModel", "presentOnes", "()I"⟩, 27) := ⟨⟨by decide +kernel, by decide +kernel⟩, List.mem_of_getElem? (i := 880) (by decide +kernel), List.mem_of_getElem? (i := 1192) (by decide +kernel), List.mem_of_getElem? (i := 1193) (by decide +kernel)⟩
theorem lw_p53 : lw_okq (⟨"TradeRingsModel", "keep", "()V"⟩, 27) := ⟨⟨by decide +kernel, by decide +kernel⟩, List.mem_of_getElem? (i := 880) (by decide +kernel), List.mem_of_getElem? (i := 1204) (by decide +kernel), List.mem_of_getElem? (i := 1205) (by decide +kernel)⟩
theorem lw_p54 : lw_okq (⟨"TradeRingsModel", "exchangesTo", "(II)I"⟩, 27) := ⟨⟨by decide +kernel, by decide +kernel⟩, List.mem_of_getElem? (i := 880) (by decide +kernel), List.mem_of_getElem? (i := 1208) (by decide +kernel), List.mem_of_getElem? (i := 1209) (by decide +kernel)⟩
theorem lw_p55 : lw_okq (⟨"TradeRingsModel", "coded", "()I"⟩, 27) := ⟨⟨by decide +kernel, by decide +kernel⟩, List.mem_of_getElem? (i := 880) (by decide +kernel), List.mem_of_getElem? (i := 1212) (by decide +kernel), List.mem_of_getElem? (i := 1213) (by decide +kernel)⟩
theorem lw_p56 : lw_okq (⟨"TradeRingsModel", "numberOf", "(I)I"⟩, 27) := ⟨⟨by decide +kernel, by decide +kernel⟩, List.mem_of_getElem? (i := 880) (by decide +kernel), List.mem_of_getElem? (i := 1216) (by decide +kernel), List.mem_of_getElem? (i := 1217) (by decide +kernel)⟩
theorem lw_p57 : lw_okq (⟨"TradeRingsModel", "uncodes", "(I)V"⟩, 27) := ⟨⟨by decide +kernel, by decide +kernel⟩, List.mem_of_getElem? (i := 880) (by decide +kernel), List.mem_of_getElem? (i := 1220) (by decide +kernel), List.mem_of_getElem? (i := 1221) (by decide +kernel)⟩
theorem lw_p58 : lw_okq (⟨"TradeRingsModel", "bringBack", "()V"⟩, 27) := ⟨⟨by decide +kernel, by decide +kernel⟩, List.mem_of_getElem? (i := 880) (by decide +kernel), List.mem_of_getElem? (i := 1224) (by decide +kernel), List.mem_of_getElem? (i := 1225) (by decide +kernel)⟩
theorem lw_p59 : lw_okq (⟨"TradeRingsModel", "succeeds", "(I)Z"⟩, 27) := ⟨⟨by decide +kernel, by decide +kernel⟩, List.mem_of_getElem? (i := 880) (by decide +kernel), List.mem_of_getElem? (i := 1234) (by decide +kernel), List.mem_of_getElem? (i := 1235) (by decide +kernel)⟩
theorem lw_p60 : lw_okq (⟨"TradeRingsModel", "acts", "(IIII)Z"⟩, 27) := ⟨⟨by decide +kernel, by decide +kernel⟩, List.mem_of_getElem? (i := 880) (by decide +kernel), List.mem_of_getElem? (i := 1239) (by decide +kernel), List.mem_of_getElem? (i := 1240) (by decide +kernel)⟩
def lw_privs_4 : List (MethodName × Nat) := [(⟨"TradeRingsModel", "spread", "(IIII)V"⟩, 27), (⟨"TradeRingsModel", "groupMany", "(Z)I"⟩, 27), (⟨"TradeRingsModel", "findLeast", "()I"⟩, 27), (⟨"TradeRingsModel", "heldThings", "()I"⟩, 27), (⟨"TradeRingsModel", "presentOnes", "()I"⟩, 27), (⟨"TradeRingsModel", "keep", "()V"⟩, 27), (⟨"TradeRingsModel", "exchangesTo", "(II)I"⟩, 27), (⟨"TradeRingsModel", "coded", "()I"⟩, 27), (⟨"TradeRingsModel", "numberOf", "(I)I"⟩, 27), (⟨"TradeRingsModel", "uncodes", "(I)V"⟩, 27), (⟨"TradeRingsModel", "bringBack", "()V"⟩, 27), (⟨"TradeRingsModel", "succeeds", "(I)Z"⟩, 27), (⟨"TradeRingsModel", "acts", "(IIII)Z"⟩, 27)]
theorem lw_r4 : ∀ q ∈ lw_privs_4, lw_okq q := List.forall_mem_cons.mpr ⟨lw_p48, List.forall_mem_cons.mpr ⟨lw_p49, List.forall_mem_cons.mpr ⟨lw_p50, List.forall_mem_cons.mpr ⟨lw_p51, List.forall_mem_cons.mpr ⟨lw_p52, List.forall_mem_cons.mpr ⟨lw_p53, List.forall_mem_cons.mpr ⟨lw_p54, List.forall_mem_cons.mpr ⟨lw_p55, List.forall_mem_cons.mpr ⟨lw_p56, List.forall_mem_cons.mpr ⟨lw_p57, List.forall_mem_cons.mpr ⟨lw_p58, List.forall_mem_cons.mpr ⟨lw_p59, List.forall_mem_cons.mpr ⟨lw_p60, fun _ h => absurd h List.not_mem_nil⟩⟩⟩⟩⟩⟩⟩⟩⟩⟩⟩⟩⟩
def lw_privs : List (MethodName × Nat) := lw_privs_1 ++ (lw_privs_2 ++ (lw_privs_3 ++ (lw_privs_4)))
def lw_tbl : List Cond := k2_sels lw_privs ++ tables_1
theorem lw_privs_ok : ∀ q ∈ lw_privs, lw_okq q := by
  show ∀ q ∈ lw_privs_1 ++ (lw_privs_2 ++ (lw_privs_3 ++ (lw_privs_4))), lw_okq q
  exact List.forall_mem_append.mpr ⟨lw_r1, List.forall_mem_append.mpr ⟨lw_r2, List.forall_mem_append.mpr ⟨lw_r3, lw_r4⟩⟩⟩
def RX0 : String := "TradeRings$History"
def TX0 : u_T := fun k => match k with
  | 0 => ("TradeRings$History", "states", "[LTradeRings$Market;", true)
  | 1 => ("TradeRings$History", "size", "I", false)
  | _ => ("TradeRings$History", "next", "I", false)
def tyX0 : Nat → FieldType := fun k => match k with
  | 0 => .array (.object "TradeRings$Market")
  | 1 => .int
  | _ => .int
theorem nmX0 : ∀ a, a < 3 → ∀ b, b < 3 → a ≠ b → (TX0 a).2.1 ≠ (TX0 b).2.1 := by decide +kernel
theorem tyX0_ok : ∀ k, k < 3 → parseFieldDescriptor (TX0 k).2.2.1 = some (tyX0 k) := by decide +kernel
abbrev cX0_init : ByteArray := prog_2_method_1_code
def yX0_init : MethodName := ⟨RX0, "<init>", "()V"⟩
abbrev cX0_forgetAll : ByteArray := prog_2_method_2_code
def yX0_forgetAll : MethodName := ⟨RX0, "forgetAll", "()V"⟩
abbrev cX0_remember : ByteArray := prog_2_method_3_code
def yX0_remember : MethodName := ⟨RX0, "remember", "(LTradeRings$Market;)V"⟩
abbrev cX0_takeBack : ByteArray := prog_2_method_4_code
def yX0_takeBack : MethodName := ⟨RX0, "takeBack", "(LTradeRings$Market;)V"⟩
def RX1 : String := "TradeRings$Market"
def TX1 : u_T := fun k => match k with
  | 0 => ("TradeRings$Market", "count", "I", false)
  | 1 => ("TradeRings$Market", "left", "I", false)
  | 2 => ("TradeRings$Market", "ranks", "[I", true)
  | _ => ("TradeRings$Market", "holds", "[I", true)
def tyX1 : Nat → FieldType := fun k => match k with
  | 0 => .int
  | 1 => .int
  | 2 => .array .int
  | _ => .array .int
theorem nmX1 : ∀ a, a < 4 → ∀ b, b < 4 → a ≠ b → (TX1 a).2.1 ≠ (TX1 b).2.1 := by decide +kernel
theorem tyX1_ok : ∀ k, k < 4 → parseFieldDescriptor (TX1 k).2.2.1 = some (tyX1 k) := by decide +kernel
abbrev cX1_init : ByteArray := prog_3_method_1_code
def yX1_init : MethodName := ⟨RX1, "<init>", "()V"⟩
abbrev cX1_become : ByteArray := prog_3_method_2_code
def yX1_become : MethodName := ⟨RX1, "become", "(LTradeRings$Market;)V"⟩
abbrev cX1_has : ByteArray := prog_3_method_3_code
def yX1_has : MethodName := ⟨RX1, "has", "(I)Z"⟩
abbrev cX1_everybody : ByteArray := prog_3_method_4_code
def yX1_everybody : MethodName := ⟨RX1, "everybody", "()I"⟩
abbrev cX1_present : ByteArray := prog_3_method_5_code
def yX1_present : MethodName := ⟨RX1, "present", "()I"⟩
abbrev cX1_isPresent : ByteArray := prog_3_method_6_code
def yX1_isPresent : MethodName := ⟨RX1, "isPresent", "(I)Z"⟩
abbrev cX1_presentCount : ByteArray := prog_3_method_7_code
def yX1_presentCount : MethodName := ⟨RX1, "presentCount", "()I"⟩
abbrev cX1_rankBy : ByteArray := prog_3_method_8_code
def yX1_rankBy : MethodName := ⟨RX1, "rankBy", "(II)I"⟩
abbrev cX1_rankOfHeld : ByteArray := prog_3_method_9_code
def yX1_rankOfHeld : MethodName := ⟨RX1, "rankOfHeld", "(I)I"⟩
abbrev cX1_putRank : ByteArray := prog_3_method_10_code
def yX1_putRank : MethodName := ⟨RX1, "putRank", "(III)V"⟩
abbrev cX1_lossBy : ByteArray := prog_3_method_11_code
def yX1_lossBy : MethodName := ⟨RX1, "lossBy", "(II)I"⟩
abbrev cX1_holderOf : ByteArray := prog_3_method_12_code
def yX1_holderOf : MethodName := ⟨RX1, "holderOf", "(I)I"⟩
abbrev cX1_thingsOf : ByteArray := prog_3_method_13_code
def yX1_thingsOf : MethodName := ⟨RX1, "thingsOf", "(I)I"⟩
abbrev cX1_ownersWithTheirThing : ByteArray := prog_3_method_14_code
def yX1_ownersWithTheirThing : MethodName := ⟨RX1, "ownersWithTheirThing", "()I"⟩
abbrev cX1_sumOfRanks : ByteArray := prog_3_method_15_code
def yX1_sumOfRanks : MethodName := ⟨RX1, "sumOfRanks", "()I"⟩
abbrev cX1_envies : ByteArray := prog_3_method_16_code
def yX1_envies : MethodName := ⟨RX1, "envies", "()I"⟩
abbrev cX1_reasonAgainst : ByteArray := prog_3_method_17_code
def yX1_reasonAgainst : MethodName := ⟨RX1, "reasonAgainst", "(II)I"⟩
abbrev cX1_swap : ByteArray := prog_3_method_18_code
def yX1_swap : MethodName := ⟨RX1, "swap", "(II)V"⟩
abbrev cX1_take : ByteArray := prog_3_method_19_code
def yX1_take : MethodName := ⟨RX1, "take", "(LTradeRings$Trading;I)I"⟩
abbrev cX1_sendAway : ByteArray := prog_3_method_20_code
def yX1_sendAway : MethodName := ⟨RX1, "sendAway", "(I)V"⟩
abbrev cX1_sendHome : ByteArray := prog_3_method_21_code
def yX1_sendHome : MethodName := ⟨RX1, "sendHome", "()I"⟩
abbrev cX1_begin : ByteArray := prog_3_method_22_code
def yX1_begin : MethodName := ⟨RX1, "begin", "(I)V"⟩
abbrev cX1_addOne : ByteArray := prog_3_method_23_code
def yX1_addOne : MethodName := ⟨RX1, "addOne", "()I"⟩
def RX2 : String := "TradeRings$Script"
def TX2 : u_T := fun k => match k with
  | 0 => ("TradeRings$Script", "commands", "[I", true)
  | _ => ("TradeRings$Script", "length", "I", false)
def tyX2 : Nat → FieldType := fun k => match k with
  | 0 => .array .int
  | _ => .int
theorem nmX2 : ∀ a, a < 2 → ∀ b, b < 2 → a ≠ b → (TX2 a).2.1 ≠ (TX2 b).2.1 := by decide +kernel
theorem tyX2_ok : ∀ k, k < 2 → parseFieldDescriptor (TX2 k).2.2.1 = some (tyX2 k) := by decide +kernel
abbrev cX2_init : ByteArray := prog_4_method_1_code
def yX2_init : MethodName := ⟨RX2, "<init>", "()V"⟩
abbrev cX2_takes : ByteArray := prog_4_method_2_code
def yX2_takes : MethodName := ⟨RX2, "takes", "(IJ)Z"⟩
abbrev cX2_succeeds : ByteArray := prog_4_method_3_code
def yX2_succeeds : MethodName := ⟨RX2, "succeeds", "(ILTradeRings$Market;LTradeRings$Trading;LTradeRings$Sharing;)Z"⟩
abbrev cX2_exchanges : ByteArray := prog_4_method_4_code
def yX2_exchanges : MethodName := ⟨RX2, "exchanges", "(LTradeRings$Market;II)Z"⟩
abbrev cX2_doesRing : ByteArray := prog_4_method_5_code
def yX2_doesRing : MethodName := ⟨RX2, "doesRing", "(LTradeRings$Market;LTradeRings$Trading;I)Z"⟩
abbrev cX2_trades : ByteArray := prog_4_method_6_code
def yX2_trades : MethodName := ⟨RX2, "trades", "(LTradeRings$Market;LTradeRings$Trading;)Z"⟩
abbrev cX2_leaves : ByteArray := prog_4_method_7_code
def yX2_leaves : MethodName := ⟨RX2, "leaves", "(LTradeRings$Market;I)Z"⟩
abbrev cX2_ranks : ByteArray := prog_4_method_8_code
def yX2_ranks : MethodName := ⟨RX2, "ranks", "(LTradeRings$Market;III)Z"⟩
abbrev cX2_goesHome : ByteArray := prog_4_method_9_code
def yX2_goesHome : MethodName := ⟨RX2, "goesHome", "(LTradeRings$Market;)Z"⟩
def RX3 : String := "TradeRings$Search"
def TX3 : u_T := fun k => match k with
  | 0 => ("TradeRings$Search", "queue", "[I", true)
  | 1 => ("TradeRings$Search", "tail", "I", false)
  | _ => ("TradeRings$Search", "met", "[J", true)
def tyX3 : Nat → FieldType := fun k => match k with
  | 0 => .array .int
  | 1 => .int
  | _ => .array .long
theorem nmX3 : ∀ a, a < 3 → ∀ b, b < 3 → a ≠ b → (TX3 a).2.1 ≠ (TX3 b).2.1 := by decide +kernel
theorem tyX3_ok : ∀ k, k < 3 → parseFieldDescriptor (TX3 k).2.2.1 = some (tyX3 k) := by decide +kernel
abbrev cX3_init : ByteArray := prog_5_method_1_code
def yX3_init : MethodName := ⟨RX3, "<init>", "()V"⟩
abbrev cX3_fewestExchanges : ByteArray := prog_5_method_2_code
def yX3_fewestExchanges : MethodName := ⟨RX3, "fewestExchanges", "(LTradeRings$Market;II)I"⟩
abbrev cX3_exchangeAll : ByteArray := prog_5_method_3_code
def yX3_exchangeAll : MethodName := ⟨RX3, "exchangeAll", "(LTradeRings$Market;III)Z"⟩
abbrev cX3_meet : ByteArray := prog_5_method_4_code
def yX3_meet : MethodName := ⟨RX3, "meet", "(LTradeRings$Market;I)V"⟩
abbrev cX3_numberOf : ByteArray := prog_5_method_5_code
def yX3_numberOf : MethodName := ⟨RX3, "numberOf", "(LTradeRings$Market;)I"⟩
abbrev cX3_pack : ByteArray := prog_5_method_6_code
def yX3_pack : MethodName := ⟨RX3, "pack", "(LTradeRings$Market;)I"⟩
abbrev cX3_unpack : ByteArray := prog_5_method_7_code
def yX3_unpack : MethodName := ⟨RX3, "unpack", "(ILTradeRings$Market;)V"⟩
def RX4 : String := "TradeRings$Sharing"
def TX4 : u_T := fun k => match k with
  | 0 => ("TradeRings$Sharing", "better", "[I", true)
  | 1 => ("TradeRings$Sharing", "alike", "[I", true)
  | 2 => ("TradeRings$Sharing", "notLess", "[I", true)
  | 3 => ("TradeRings$Sharing", "line", "[I", true)
  | 4 => ("TradeRings$Sharing", "inLine", "I", false)
  | _ => ("TradeRings$Sharing", "table", "[I", true)
def tyX4 : Nat → FieldType := fun k => match k with
  | 0 => .array .int
  | 1 => .array .int
  | 2 => .array .int
  | 3 => .array .int
  | 4 => .int
  | _ => .array .int
theorem nmX4 : ∀ a, a < 6 → ∀ b, b < 6 → a ≠ b → (TX4 a).2.1 ≠ (TX4 b).2.1 := by decide +kernel
theorem tyX4_ok : ∀ k, k < 6 → parseFieldDescriptor (TX4 k).2.2.1 = some (tyX4 k) := by decide +kernel
abbrev cX4_init : ByteArray := prog_6_method_1_code
def yX4_init : MethodName := ⟨RX4, "<init>", "()V"⟩
abbrev cX4_smallestGroup : ByteArray := prog_6_method_2_code
def yX4_smallestGroup : MethodName := ⟨RX4, "smallestGroup", "(LTradeRings$Market;Z)I"⟩
abbrev cX4_countGroups : ByteArray := prog_6_method_3_code
def yX4_countGroups : MethodName := ⟨RX4, "countGroups", "(LTradeRings$Market;Z)I"⟩
abbrev cX4_couldDoBetter : ByteArray := prog_6_method_4_code
def yX4_couldDoBetter : MethodName := ⟨RX4, "couldDoBetter", "(LTradeRings$Market;IZ)Z"⟩
abbrev cX4_countBetterWays : ByteArray := prog_6_method_5_code
def yX4_countBetterWays : MethodName := ⟨RX4, "countBetterWays", "(LTradeRings$Market;)I"⟩
abbrev cX4_noteLikings : ByteArray := prog_6_method_6_code
def yX4_noteLikings : MethodName := ⟨RX4, "noteLikings", "(LTradeRings$Market;)V"⟩
abbrev cX4_lineUp : ByteArray := prog_6_method_7_code
def yX4_lineUp : MethodName := ⟨RX4, "lineUp", "(LTradeRings$Market;I)V"⟩
abbrev cX4_countWays : ByteArray := prog_6_method_8_code
def yX4_countWays : MethodName := ⟨RX4, "countWays", "(I[I)I"⟩
abbrev cX4_spread : ByteArray := prog_6_method_9_code
def yX4_spread : MethodName := ⟨RX4, "spread", "(II)V"⟩
abbrev cX4_leastSum : ByteArray := prog_6_method_10_code
def yX4_leastSum : MethodName := ⟨RX4, "leastSum", "(LTradeRings$Market;)I"⟩
abbrev cX4_thingAtLeast : ByteArray := prog_6_method_11_code
def yX4_thingAtLeast : MethodName := ⟨RX4, "thingAtLeast", "(LTradeRings$Market;I)I"⟩
abbrev cX4_bestThing : ByteArray := prog_6_method_12_code
def yX4_bestThing : MethodName := ⟨RX4, "bestThing", "(LTradeRings$Market;III)I"⟩
abbrev cX4_sumWith : ByteArray := prog_6_method_13_code
def yX4_sumWith : MethodName := ⟨RX4, "sumWith", "(LTradeRings$Market;III)I"⟩
def RX5 : String := "TradeRings$Text"
def TX5 : u_T := fun k => match k with
  | 0 => ("TradeRings$Text", "characters", "[I", true)
  | _ => ("TradeRings$Text", "length", "I", false)
def tyX5 : Nat → FieldType := fun k => match k with
  | 0 => .array .int
  | _ => .int
theorem nmX5 : ∀ a, a < 2 → ∀ b, b < 2 → a ≠ b → (TX5 a).2.1 ≠ (TX5 b).2.1 := by decide +kernel
theorem tyX5_ok : ∀ k, k < 2 → parseFieldDescriptor (TX5 k).2.2.1 = some (tyX5 k) := by decide +kernel
abbrev cX5_init : ByteArray := prog_7_method_1_code
def yX5_init : MethodName := ⟨RX5, "<init>", "()V"⟩
abbrev cX5_isFull : ByteArray := prog_7_method_2_code
def yX5_isFull : MethodName := ⟨RX5, "isFull", "()Z"⟩
abbrev cX5_add : ByteArray := prog_7_method_3_code
def yX5_add : MethodName := ⟨RX5, "add", "(I)V"⟩
abbrev cX5_at : ByteArray := prog_7_method_4_code
def yX5_at : MethodName := ⟨RX5, "at", "(I)I"⟩
abbrev cX5_digitAt : ByteArray := prog_7_method_5_code
def yX5_digitAt : MethodName := ⟨RX5, "digitAt", "(III)I"⟩
abbrev cX5_readMarket : ByteArray := prog_7_method_6_code
def yX5_readMarket : MethodName := ⟨RX5, "readMarket", "(LTradeRings$Market;)I"⟩
abbrev cX5_readRanks : ByteArray := prog_7_method_7_code
def yX5_readRanks : MethodName := ⟨RX5, "readRanks", "(LTradeRings$Market;I)I"⟩
abbrev cX5_readHoldings : ByteArray := prog_7_method_8_code
def yX5_readHoldings : MethodName := ⟨RX5, "readHoldings", "(LTradeRings$Market;I)I"⟩
def RX6 : String := "TradeRings$Trading"
def TX6 : u_T := fun k => match k with
  | 0 => ("TradeRings$Trading", "rings", "I", false)
  | 1 => ("TradeRings$Trading", "rounds", "I", false)
  | 2 => ("TradeRings$Trading", "gets", "[I", true)
  | 3 => ("TradeRings$Trading", "roundOf", "[I", true)
  | 4 => ("TradeRings$Trading", "ringOf", "[I", true)
  | 5 => ("TradeRings$Trading", "firstChoice", "[I", true)
  | 6 => ("TradeRings$Trading", "tradersOf", "[I", true)
  | 7 => ("TradeRings$Trading", "roundOfRing", "[I", true)
  | _ => ("TradeRings$Trading", "pointsAt", "[I", true)
def tyX6 : Nat → FieldType := fun k => match k with
  | 0 => .int
  | 1 => .int
  | 2 => .array .int
  | 3 => .array .int
  | 4 => .array .int
  | 5 => .array .int
  | 6 => .array .int
  | 7 => .array .int
  | _ => .array .int
theorem nmX6 : ∀ a, a < 9 → ∀ b, b < 9 → a ≠ b → (TX6 a).2.1 ≠ (TX6 b).2.1 := by decide +kernel
theorem tyX6_ok : ∀ k, k < 9 → parseFieldDescriptor (TX6 k).2.2.1 = some (tyX6 k) := by decide +kernel
abbrev cX6_init : ByteArray := prog_8_method_1_code
def yX6_init : MethodName := ⟨RX6, "<init>", "()V"⟩
abbrev cX6_find : ByteArray := prog_8_method_2_code
def yX6_find : MethodName := ⟨RX6, "find", "(LTradeRings$Market;I)V"⟩
abbrev cX6_hasRing : ByteArray := prog_8_method_3_code
def yX6_hasRing : MethodName := ⟨RX6, "hasRing", "(I)Z"⟩
abbrev cX6_movers : ByteArray := prog_8_method_4_code
def yX6_movers : MethodName := ⟨RX6, "movers", "(LTradeRings$Market;)I"⟩
abbrev cX6_gainOf : ByteArray := prog_8_method_5_code
def yX6_gainOf : MethodName := ⟨RX6, "gainOf", "(LTradeRings$Market;I)I"⟩
abbrev cX6_forget : ByteArray := prog_8_method_6_code
def yX6_forget : MethodName := ⟨RX6, "forget", "()V"⟩
abbrev cX6_point : ByteArray := prog_8_method_7_code
def yX6_point : MethodName := ⟨RX6, "point", "(LTradeRings$Market;I)V"⟩
abbrev cX6_choice : ByteArray := prog_8_method_8_code
def yX6_choice : MethodName := ⟨RX6, "choice", "(LTradeRings$Market;II)I"⟩
abbrev cX6_closeRings : ByteArray := prog_8_method_9_code
def yX6_closeRings : MethodName := ⟨RX6, "closeRings", "(LTradeRings$Market;I)I"⟩
abbrev cX6_ringThrough : ByteArray := prog_8_method_10_code
def yX6_ringThrough : MethodName := ⟨RX6, "ringThrough", "(I)I"⟩
abbrev cX6_addRing : ByteArray := prog_8_method_11_code
def yX6_addRing : MethodName := ⟨RX6, "addRing", "(LTradeRings$Market;I)V"⟩
def RX7 : String := "TradeRings"
def TX7 : u_T := fun k => match k with
  | 0 => ("TradeRings", "text", "LTradeRings$Text;", true)
  | 1 => ("TradeRings", "market", "LTradeRings$Market;", true)
  | 2 => ("TradeRings", "history", "LTradeRings$History;", true)
  | 3 => ("TradeRings", "slots", "[LTradeRings$Market;", true)
  | 4 => ("TradeRings", "isSaved", "[Z", true)
  | 5 => ("TradeRings", "copy", "LTradeRings$Market;", true)
  | 6 => ("TradeRings", "trading", "LTradeRings$Trading;", true)
  | 7 => ("TradeRings", "tradingWithout", "LTradeRings$Trading;", true)
  | 8 => ("TradeRings", "sharing", "LTradeRings$Sharing;", true)
  | 9 => ("TradeRings", "search", "LTradeRings$Search;", true)
  | _ => ("TradeRings", "commands", "LTradeRings$Script;", true)
def tyX7 : Nat → FieldType := fun k => match k with
  | 0 => .object "TradeRings$Text"
  | 1 => .object "TradeRings$Market"
  | 2 => .object "TradeRings$History"
  | 3 => .array (.object "TradeRings$Market")
  | 4 => .array .boolean
  | 5 => .object "TradeRings$Market"
  | 6 => .object "TradeRings$Trading"
  | 7 => .object "TradeRings$Trading"
  | 8 => .object "TradeRings$Sharing"
  | 9 => .object "TradeRings$Search"
  | _ => .object "TradeRings$Script"
theorem nmX7 : ∀ a, a < 11 → ∀ b, b < 11 → a ≠ b → (TX7 a).2.1 ≠ (TX7 b).2.1 := by decide +kernel
theorem tyX7_ok : ∀ k, k < 11 → parseFieldDescriptor (TX7 k).2.2.1 = some (tyX7 k) := by decide +kernel
abbrev cX7_init : ByteArray := prog_1_method_1_code
def yX7_init : MethodName := ⟨RX7, "<init>", "()V"⟩
abbrev cX7_append : ByteArray := prog_1_method_2_code
def yX7_append : MethodName := ⟨RX7, "append", "(I)I"⟩
abbrev cX7_clearText : ByteArray := prog_1_method_3_code
def yX7_clearText : MethodName := ⟨RX7, "clearText", "()I"⟩
abbrev cX7_errorPosition : ByteArray := prog_1_method_4_code
def yX7_errorPosition : MethodName := ⟨RX7, "errorPosition", "()I"⟩
abbrev cX7_load : ByteArray := prog_1_method_5_code
def yX7_load : MethodName := ⟨RX7, "load", "()I"⟩
abbrev cX7_about : ByteArray := prog_1_method_6_code
def yX7_about : MethodName := ⟨RX7, "about", "(I)I"⟩
abbrev cX7_trader : ByteArray := prog_1_method_7_code
def yX7_trader : MethodName := ⟨RX7, "trader", "(II)I"⟩
abbrev cX7_rank : ByteArray := prog_1_method_8_code
def yX7_rank : MethodName := ⟨RX7, "rank", "(II)I"⟩
abbrev cX7_holder : ByteArray := prog_1_method_9_code
def yX7_holder : MethodName := ⟨RX7, "holder", "(I)I"⟩
abbrev cX7_ring : ByteArray := prog_1_method_10_code
def yX7_ring : MethodName := ⟨RX7, "ring", "(II)I"⟩
abbrev cX7_whyNot : ByteArray := prog_1_method_11_code
def yX7_whyNot : MethodName := ⟨RX7, "whyNot", "(II)I"⟩
abbrev cX7_addTrader : ByteArray := prog_1_method_12_code
def yX7_addTrader : MethodName := ⟨RX7, "addTrader", "()I"⟩
abbrev cX7_setRank : ByteArray := prog_1_method_13_code
def yX7_setRank : MethodName := ⟨RX7, "setRank", "(III)I"⟩
abbrev cX7_exchange : ByteArray := prog_1_method_14_code
def yX7_exchange : MethodName := ⟨RX7, "exchange", "(II)I"⟩
abbrev cX7_doRing : ByteArray := prog_1_method_15_code
def yX7_doRing : MethodName := ⟨RX7, "doRing", "(I)I"⟩
abbrev cX7_trade : ByteArray := prog_1_method_16_code
def yX7_trade : MethodName := ⟨RX7, "trade", "()I"⟩
abbrev cX7_leave : ByteArray := prog_1_method_17_code
def yX7_leave : MethodName := ⟨RX7, "leave", "(I)I"⟩
abbrev cX7_goHome : ByteArray := prog_1_method_18_code
def yX7_goHome : MethodName := ⟨RX7, "goHome", "()I"⟩
abbrev cX7_undo : ByteArray := prog_1_method_19_code
def yX7_undo : MethodName := ⟨RX7, "undo", "()I"⟩
abbrev cX7_group : ByteArray := prog_1_method_20_code
def yX7_group : MethodName := ⟨RX7, "group", "(Z)I"⟩
abbrev cX7_groups : ByteArray := prog_1_method_21_code
def yX7_groups : MethodName := ⟨RX7, "groups", "(Z)I"⟩
abbrev cX7_least : ByteArray := prog_1_method_22_code
def yX7_least : MethodName := ⟨RX7, "least", "()I"⟩
abbrev cX7_leastOf : ByteArray := prog_1_method_23_code
def yX7_leastOf : MethodName := ⟨RX7, "leastOf", "(I)I"⟩
abbrev cX7_betterWays : ByteArray := prog_1_method_24_code
def yX7_betterWays : MethodName := ⟨RX7, "betterWays", "()I"⟩
abbrev cX7_harms : ByteArray := prog_1_method_25_code
def yX7_harms : MethodName := ⟨RX7, "harms", "(I)I"⟩
abbrev cX7_fewest : ByteArray := prog_1_method_26_code
def yX7_fewest : MethodName := ⟨RX7, "fewest", "(II)I"⟩
abbrev cX7_runScript : ByteArray := prog_1_method_27_code
def yX7_runScript : MethodName := ⟨RX7, "runScript", "(IJ)I"⟩
abbrev cX7_simulate : ByteArray := prog_1_method_28_code
def yX7_simulate : MethodName := ⟨RX7, "simulate", "(JI)I"⟩
abbrev cX7_save : ByteArray := prog_1_method_29_code
def yX7_save : MethodName := ⟨RX7, "save", "(I)I"⟩
abbrev cX7_restore : ByteArray := prog_1_method_30_code
def yX7_restore : MethodName := ⟨RX7, "restore", "(I)I"⟩
abbrev cX7_presentTrading : ByteArray := prog_1_method_31_code
def yX7_presentTrading : MethodName := ⟨RX7, "presentTrading", "()LTradeRings$Trading;"⟩
abbrev cX7_needTrader : ByteArray := prog_1_method_32_code
def yX7_needTrader : MethodName := ⟨RX7, "needTrader", "(I)V"⟩
abbrev cX7_needThing : ByteArray := prog_1_method_33_code
def yX7_needThing : MethodName := ⟨RX7, "needThing", "(I)V"⟩
abbrev cX7_needSlot : ByteArray := prog_1_method_34_code
def yX7_needSlot : MethodName := ⟨RX7, "needSlot", "(I)V"⟩
abbrev cX7_needRing : ByteArray := prog_1_method_35_code
def yX7_needRing : MethodName := ⟨RX7, "needRing", "(LTradeRings$Trading;I)V"⟩
abbrev cX7_meet : ByteArray := prog_1_method_36_code
def yX7_meet : MethodName := ⟨RX7, "meet", "(LTradeRings$Market;I)Z"⟩
abbrev cX7_bit : ByteArray := prog_1_method_37_code
def yX7_bit : MethodName := ⟨RX7, "bit", "(I)I"⟩
abbrev cX7_contains : ByteArray := prog_1_method_38_code
def yX7_contains : MethodName := ⟨RX7, "contains", "(II)Z"⟩
def RX8 : String := "TradeRingsModel"
def TX8 : u_T := fun k => match k with
  | 0 => ("TradeRingsModel", "q", "[I", true)
  | 1 => ("TradeRingsModel", "spare", "[I", true)
  | 2 => ("TradeRingsModel", "remembered", "[I", true)
  | 3 => ("TradeRingsModel", "states", "I", false)
  | 4 => ("TradeRingsModel", "slots", "[I", true)
  | 5 => ("TradeRingsModel", "isSaved", "[Z", true)
  | 6 => ("TradeRingsModel", "text", "[I", true)
  | 7 => ("TradeRingsModel", "length", "I", false)
  | 8 => ("TradeRingsModel", "thrown", "I", false)
  | 9 => ("TradeRingsModel", "gets", "[I", true)
  | 10 => ("TradeRingsModel", "rounds", "[I", true)
  | 11 => ("TradeRingsModel", "ringOf", "[I", true)
  | 12 => ("TradeRingsModel", "first", "[I", true)
  | 13 => ("TradeRingsModel", "to", "[I", true)
  | 14 => ("TradeRingsModel", "rings", "[I", true)
  | 15 => ("TradeRingsModel", "ringRounds", "[I", true)
  | 16 => ("TradeRingsModel", "ringMany", "I", false)
  | 17 => ("TradeRingsModel", "roundMany", "I", false)
  | 18 => ("TradeRingsModel", "place", "I", false)
  | 19 => ("TradeRingsModel", "digit", "I", false)
  | 20 => ("TradeRingsModel", "read", "[I", true)
  | 21 => ("TradeRingsModel", "ways", "[I", true)
  | 22 => ("TradeRingsModel", "sums", "[I", true)
  | 23 => ("TradeRingsModel", "order", "[I", true)
  | 24 => ("TradeRingsModel", "before", "[I", true)
  | 25 => ("TradeRingsModel", "queue", "[I", true)
  | _ => ("TradeRingsModel", "isMet", "[Z", true)
def tyX8 : Nat → FieldType := fun k => match k with
  | 0 => .array .int
  | 1 => .array .int
  | 2 => .array .int
  | 3 => .int
  | 4 => .array .int
  | 5 => .array .boolean
  | 6 => .array .int
  | 7 => .int
  | 8 => .int
  | 9 => .array .int
  | 10 => .array .int
  | 11 => .array .int
  | 12 => .array .int
  | 13 => .array .int
  | 14 => .array .int
  | 15 => .array .int
  | 16 => .int
  | 17 => .int
  | 18 => .int
  | 19 => .int
  | 20 => .array .int
  | 21 => .array .int
  | 22 => .array .int
  | 23 => .array .int
  | 24 => .array .int
  | 25 => .array .int
  | _ => .array .boolean
theorem nmX8 : ∀ a, a < 27 → ∀ b, b < 27 → a ≠ b → (TX8 a).2.1 ≠ (TX8 b).2.1 := by decide +kernel
theorem tyX8_ok : ∀ k, k < 27 → parseFieldDescriptor (TX8 k).2.2.1 = some (tyX8 k) := by decide +kernel
abbrev cX8_init : ByteArray := prog_10_method_1_code
def yX8_init : MethodName := ⟨RX8, "<init>", "()V"⟩
abbrev cX8_thrown : ByteArray := prog_10_method_2_code
def yX8_thrown : MethodName := ⟨RX8, "thrown", "()I"⟩
abbrev cX8_in : ByteArray := prog_10_method_3_code
def yX8_in : MethodName := ⟨RX8, "in", "(JJJ)Z"⟩
abbrev cX8_has : ByteArray := prog_10_method_4_code
def yX8_has : MethodName := ⟨RX8, "has", "(II)Z"⟩
abbrev cX8_ones : ByteArray := prog_10_method_5_code
def yX8_ones : MethodName := ⟨RX8, "ones", "(I)I"⟩
abbrev cX8_fails : ByteArray := prog_10_method_6_code
def yX8_fails : MethodName := ⟨RX8, "fails", "(I)I"⟩
abbrev cX8_keep : ByteArray := prog_10_method_7_code
def yX8_keep : MethodName := ⟨RX8, "keep", "()V"⟩
abbrev cX8_bringBack : ByteArray := prog_10_method_8_code
def yX8_bringBack : MethodName := ⟨RX8, "bringBack", "()V"⟩
abbrev cX8_remember : ByteArray := prog_10_method_9_code
def yX8_remember : MethodName := ⟨RX8, "remember", "()V"⟩
abbrev cX8_isOne : ByteArray := prog_10_method_10_code
def yX8_isOne : MethodName := ⟨RX8, "isOne", "(I)Z"⟩
abbrev cX8_isPresent : ByteArray := prog_10_method_11_code
def yX8_isPresent : MethodName := ⟨RX8, "isPresent", "(I)Z"⟩
abbrev cX8_rankOf : ByteArray := prog_10_method_12_code
def yX8_rankOf : MethodName := ⟨RX8, "rankOf", "(II)I"⟩
abbrev cX8_held : ByteArray := prog_10_method_13_code
def yX8_held : MethodName := ⟨RX8, "held", "(I)I"⟩
abbrev cX8_present : ByteArray := prog_10_method_14_code
def yX8_present : MethodName := ⟨RX8, "present", "()I"⟩
abbrev cX8_allRanks : ByteArray := prog_10_method_15_code
def yX8_allRanks : MethodName := ⟨RX8, "allRanks", "()I"⟩
abbrev cX8_pointsAt : ByteArray := prog_10_method_16_code
def yX8_pointsAt : MethodName := ⟨RX8, "pointsAt", "(II)I"⟩
abbrev cX8_ringWith : ByteArray := prog_10_method_17_code
def yX8_ringWith : MethodName := ⟨RX8, "ringWith", "(I)I"⟩
abbrev cX8_findTrading : ByteArray := prog_10_method_18_code
def yX8_findTrading : MethodName := ⟨RX8, "findTrading", "()V"⟩
abbrev cX8_finish : ByteArray := prog_10_method_19_code
def yX8_finish : MethodName := ⟨RX8, "finish", "(I)V"⟩
abbrev cX8_append : ByteArray := prog_10_method_20_code
def yX8_append : MethodName := ⟨RX8, "append", "(I)I"⟩
abbrev cX8_clearText : ByteArray := prog_10_method_21_code
def yX8_clearText : MethodName := ⟨RX8, "clearText", "()I"⟩
abbrev cX8_sign : ByteArray := prog_10_method_22_code
def yX8_sign : MethodName := ⟨RX8, "sign", "(I)Z"⟩
abbrev cX8_digitTo : ByteArray := prog_10_method_23_code
def yX8_digitTo : MethodName := ⟨RX8, "digitTo", "(II)Z"⟩
abbrev cX8_readHolders : ByteArray := prog_10_method_24_code
def yX8_readHolders : MethodName := ⟨RX8, "readHolders", "(I)Z"⟩
abbrev cX8_readMarket : ByteArray := prog_10_method_25_code
def yX8_readMarket : MethodName := ⟨RX8, "readMarket", "()Z"⟩
abbrev cX8_errorPosition : ByteArray := prog_10_method_26_code
def yX8_errorPosition : MethodName := ⟨RX8, "errorPosition", "()I"⟩
abbrev cX8_load : ByteArray := prog_10_method_27_code
def yX8_load : MethodName := ⟨RX8, "load", "()I"⟩
abbrev cX8_envies : ByteArray := prog_10_method_28_code
def yX8_envies : MethodName := ⟨RX8, "envies", "(II)Z"⟩
abbrev cX8_about : ByteArray := prog_10_method_29_code
def yX8_about : MethodName := ⟨RX8, "about", "(I)I"⟩
abbrev cX8_trader : ByteArray := prog_10_method_30_code
def yX8_trader : MethodName := ⟨RX8, "trader", "(II)I"⟩
abbrev cX8_rank : ByteArray := prog_10_method_31_code
def yX8_rank : MethodName := ⟨RX8, "rank", "(II)I"⟩
abbrev cX8_holder : ByteArray := prog_10_method_32_code
def yX8_holder : MethodName := ⟨RX8, "holder", "(I)I"⟩
abbrev cX8_ring : ByteArray := prog_10_method_33_code
def yX8_ring : MethodName := ⟨RX8, "ring", "(II)I"⟩
abbrev cX8_against : ByteArray := prog_10_method_34_code
def yX8_against : MethodName := ⟨RX8, "against", "(II)I"⟩
abbrev cX8_whyNot : ByteArray := prog_10_method_35_code
def yX8_whyNot : MethodName := ⟨RX8, "whyNot", "(II)I"⟩
abbrev cX8_addTrader : ByteArray := prog_10_method_36_code
def yX8_addTrader : MethodName := ⟨RX8, "addTrader", "()I"⟩
abbrev cX8_ranks : ByteArray := prog_10_method_37_code
def yX8_ranks : MethodName := ⟨RX8, "ranks", "(III)I"⟩
abbrev cX8_setRank : ByteArray := prog_10_method_38_code
def yX8_setRank : MethodName := ⟨RX8, "setRank", "(III)I"⟩
abbrev cX8_exchanges : ByteArray := prog_10_method_39_code
def yX8_exchanges : MethodName := ⟨RX8, "exchanges", "(II)I"⟩
abbrev cX8_exchange : ByteArray := prog_10_method_40_code
def yX8_exchange : MethodName := ⟨RX8, "exchange", "(II)I"⟩
abbrev cX8_takes : ByteArray := prog_10_method_41_code
def yX8_takes : MethodName := ⟨RX8, "takes", "(I)I"⟩
abbrev cX8_doRing : ByteArray := prog_10_method_42_code
def yX8_doRing : MethodName := ⟨RX8, "doRing", "(I)I"⟩
abbrev cX8_trades : ByteArray := prog_10_method_43_code
def yX8_trades : MethodName := ⟨RX8, "trades", "()I"⟩
abbrev cX8_trade : ByteArray := prog_10_method_44_code
def yX8_trade : MethodName := ⟨RX8, "trade", "()I"⟩
abbrev cX8_leave : ByteArray := prog_10_method_45_code
def yX8_leave : MethodName := ⟨RX8, "leave", "(I)I"⟩
abbrev cX8_home : ByteArray := prog_10_method_46_code
def yX8_home : MethodName := ⟨RX8, "home", "()I"⟩
abbrev cX8_goHome : ByteArray := prog_10_method_47_code
def yX8_goHome : MethodName := ⟨RX8, "goHome", "()I"⟩
abbrev cX8_undo : ByteArray := prog_10_method_48_code
def yX8_undo : MethodName := ⟨RX8, "undo", "()I"⟩
abbrev cX8_waysOf : ByteArray := prog_10_method_49_code
def yX8_waysOf : MethodName := ⟨RX8, "waysOf", "(III)I"⟩
abbrev cX8_spread : ByteArray := prog_10_method_50_code
def yX8_spread : MethodName := ⟨RX8, "spread", "(IIII)V"⟩
abbrev cX8_couldDo : ByteArray := prog_10_method_51_code
def yX8_couldDo : MethodName := ⟨RX8, "couldDo", "(IZ)Z"⟩
abbrev cX8_group : ByteArray := prog_10_method_52_code
def yX8_group : MethodName := ⟨RX8, "group", "(Z)I"⟩
abbrev cX8_groupMany : ByteArray := prog_10_method_53_code
def yX8_groupMany : MethodName := ⟨RX8, "groupMany", "(Z)I"⟩
abbrev cX8_groups : ByteArray := prog_10_method_54_code
def yX8_groups : MethodName := ⟨RX8, "groups", "(Z)I"⟩
abbrev cX8_presentOnes : ByteArray := prog_10_method_55_code
def yX8_presentOnes : MethodName := ⟨RX8, "presentOnes", "()I"⟩
abbrev cX8_heldThings : ByteArray := prog_10_method_56_code
def yX8_heldThings : MethodName := ⟨RX8, "heldThings", "()I"⟩
abbrev cX8_findLeast : ByteArray := prog_10_method_57_code
def yX8_findLeast : MethodName := ⟨RX8, "findLeast", "()I"⟩
abbrev cX8_least : ByteArray := prog_10_method_58_code
def yX8_least : MethodName := ⟨RX8, "least", "()I"⟩
abbrev cX8_leastOf : ByteArray := prog_10_method_59_code
def yX8_leastOf : MethodName := ⟨RX8, "leastOf", "(I)I"⟩
abbrev cX8_betterWays : ByteArray := prog_10_method_60_code
def yX8_betterWays : MethodName := ⟨RX8, "betterWays", "()I"⟩
abbrev cX8_harms : ByteArray := prog_10_method_61_code
def yX8_harms : MethodName := ⟨RX8, "harms", "(I)I"⟩
abbrev cX8_coded : ByteArray := prog_10_method_62_code
def yX8_coded : MethodName := ⟨RX8, "coded", "()I"⟩
abbrev cX8_uncodes : ByteArray := prog_10_method_63_code
def yX8_uncodes : MethodName := ⟨RX8, "uncodes", "(I)V"⟩
abbrev cX8_numberOf : ByteArray := prog_10_method_64_code
def yX8_numberOf : MethodName := ⟨RX8, "numberOf", "(I)I"⟩
abbrev cX8_exchangesTo : ByteArray := prog_10_method_65_code
def yX8_exchangesTo : MethodName := ⟨RX8, "exchangesTo", "(II)I"⟩
abbrev cX8_fewest : ByteArray := prog_10_method_66_code
def yX8_fewest : MethodName := ⟨RX8, "fewest", "(II)I"⟩
abbrev cX8_acts : ByteArray := prog_10_method_67_code
def yX8_acts : MethodName := ⟨RX8, "acts", "(IIII)Z"⟩
abbrev cX8_succeeds : ByteArray := prog_10_method_68_code
def yX8_succeeds : MethodName := ⟨RX8, "succeeds", "(I)Z"⟩
abbrev cX8_runScript : ByteArray := prog_10_method_69_code
def yX8_runScript : MethodName := ⟨RX8, "runScript", "(IJ)I"⟩
abbrev cX8_simulate : ByteArray := prog_10_method_70_code
def yX8_simulate : MethodName := ⟨RX8, "simulate", "(JI)I"⟩
abbrev cX8_save : ByteArray := prog_10_method_71_code
def yX8_save : MethodName := ⟨RX8, "save", "(I)I"⟩
abbrev cX8_restore : ByteArray := prog_10_method_72_code
def yX8_restore : MethodName := ⟨RX8, "restore", "(I)I"⟩
def RJx145de : String := "java/io/Serializable"
def TJx145de : u_T := fun k => match k with
  | _ => ("", "", "", false)
def tyJx145de : Nat → FieldType := fun k => match k with
  | _ => .int
theorem nmJx145de : ∀ a, a < 0 → ∀ b, b < 0 → a ≠ b → (TJx145de a).2.1 ≠ (TJx145de b).2.1 := by decide +kernel
theorem tyJx145de_ok : ∀ k, k < 0 → parseFieldDescriptor (TJx145de k).2.2.1 = some (tyJx145de k) := by decide +kernel
def RJ6 : String := "java/lang/Integer"
def TJ6 : u_T := fun k => match k with
  | _ => ("", "", "", false)
def tyJ6 : Nat → FieldType := fun k => match k with
  | _ => .int
theorem nmJ6 : ∀ a, a < 0 → ∀ b, b < 0 → a ≠ b → (TJ6 a).2.1 ≠ (TJ6 b).2.1 := by decide +kernel
theorem tyJ6_ok : ∀ k, k < 0 → parseFieldDescriptor (TJ6 k).2.2.1 = some (tyJ6 k) := by decide +kernel
abbrev cJ6_bitCount_0f7a4 : ByteArray := prog_15_method_49_code
def yJ6_bitCount_0f7a4 : MethodName := ⟨RJ6, "bitCount", "(I)I"⟩
def RJ9 : String := "java/lang/Math"
def TJ9 : u_T := fun k => match k with
  | _ => ("", "", "", false)
def tyJ9 : Nat → FieldType := fun k => match k with
  | _ => .int
theorem nmJ9 : ∀ a, a < 0 → ∀ b, b < 0 → a ≠ b → (TJ9 a).2.1 ≠ (TJ9 b).2.1 := by decide +kernel
theorem tyJ9_ok : ∀ k, k < 0 → parseFieldDescriptor (TJ9 k).2.2.1 = some (tyJ9 k) := by decide +kernel
abbrev cJ9_min_7cf53 : ByteArray := prog_16_method_69_code
def yJ9_min_7cf53 : MethodName := ⟨RJ9, "min", "(II)I"⟩
def RJ0 : String := "java/lang/String"
def TJ0 : u_T := fun k => match k with
  | _ => ("", "", "", false)
def tyJ0 : Nat → FieldType := fun k => match k with
  | _ => .int
theorem nmJ0 : ∀ a, a < 0 → ∀ b, b < 0 → a ≠ b → (TJ0 a).2.1 ≠ (TJ0 b).2.1 := by decide +kernel
theorem tyJ0_ok : ∀ k, k < 0 → parseFieldDescriptor (TJ0 k).2.2.1 = some (tyJ0 k) := by decide +kernel
def RJ10 : String := "java/lang/System"
def TJ10 : u_T := fun k => match k with
  | _ => ("", "", "", false)
def tyJ10 : Nat → FieldType := fun k => match k with
  | _ => .int
theorem nmJ10 : ∀ a, a < 0 → ∀ b, b < 0 → a ≠ b → (TJ10 a).2.1 ≠ (TJ10 b).2.1 := by decide +kernel
theorem tyJ10_ok : ∀ k, k < 0 → parseFieldDescriptor (TJ10 k).2.2.1 = some (tyJ10 k) := by decide +kernel
def RJ7 : String := "java/util/Arrays"
def TJ7 : u_T := fun k => match k with
  | _ => ("", "", "", false)
def tyJ7 : Nat → FieldType := fun k => match k with
  | _ => .int
theorem nmJ7 : ∀ a, a < 0 → ∀ b, b < 0 → a ≠ b → (TJ7 a).2.1 ≠ (TJ7 b).2.1 := by decide +kernel
theorem tyJ7_ok : ∀ k, k < 0 → parseFieldDescriptor (TJ7 k).2.2.1 = some (tyJ7 k) := by decide +kernel
abbrev cJ7_fill_d0a16 : ByteArray := prog_21_method_101_code
def yJ7_fill_d0a16 : MethodName := ⟨RJ7, "fill", "([JJ)V"⟩
def RL : String := "TradeRingsLaw"
abbrev cL_append : ByteArray := method_3_code
def yL_append : MethodName := ⟨RL, "append", "(LTradeRings;I[J)I"⟩
abbrev cL_load : ByteArray := method_4_code
def yL_load : MethodName := ⟨RL, "load", "(LTradeRings;[J)I"⟩
abbrev cL_about : ByteArray := method_5_code
def yL_about : MethodName := ⟨RL, "about", "(LTradeRings;I[J)I"⟩
abbrev cL_trader : ByteArray := method_6_code
def yL_trader : MethodName := ⟨RL, "trader", "(LTradeRings;II[J)I"⟩
abbrev cL_rank : ByteArray := method_7_code
def yL_rank : MethodName := ⟨RL, "rank", "(LTradeRings;II[J)I"⟩
abbrev cL_holder : ByteArray := method_8_code
def yL_holder : MethodName := ⟨RL, "holder", "(LTradeRings;I[J)I"⟩
abbrev cL_ring : ByteArray := method_9_code
def yL_ring : MethodName := ⟨RL, "ring", "(LTradeRings;II[J)I"⟩
abbrev cL_whyNot : ByteArray := method_10_code
def yL_whyNot : MethodName := ⟨RL, "whyNot", "(LTradeRings;II[J)I"⟩
abbrev cL_addTrader : ByteArray := method_11_code
def yL_addTrader : MethodName := ⟨RL, "addTrader", "(LTradeRings;[J)I"⟩
abbrev cL_setRank : ByteArray := method_12_code
def yL_setRank : MethodName := ⟨RL, "setRank", "(LTradeRings;III[J)I"⟩
abbrev cL_exchange : ByteArray := method_13_code
def yL_exchange : MethodName := ⟨RL, "exchange", "(LTradeRings;II[J)I"⟩
abbrev cL_doRing : ByteArray := method_14_code
def yL_doRing : MethodName := ⟨RL, "doRing", "(LTradeRings;I[J)I"⟩
abbrev cL_leave : ByteArray := method_15_code
def yL_leave : MethodName := ⟨RL, "leave", "(LTradeRings;I[J)I"⟩
abbrev cL_undo : ByteArray := method_16_code
def yL_undo : MethodName := ⟨RL, "undo", "(LTradeRings;[J)I"⟩
abbrev cL_leastOf : ByteArray := method_17_code
def yL_leastOf : MethodName := ⟨RL, "leastOf", "(LTradeRings;I[J)I"⟩
abbrev cL_harms : ByteArray := method_18_code
def yL_harms : MethodName := ⟨RL, "harms", "(LTradeRings;I[J)I"⟩
abbrev cL_fewest : ByteArray := method_19_code
def yL_fewest : MethodName := ⟨RL, "fewest", "(LTradeRings;II[J)I"⟩
abbrev cL_runScript : ByteArray := method_20_code
def yL_runScript : MethodName := ⟨RL, "runScript", "(LTradeRings;IJ[J)I"⟩
abbrev cL_simulate : ByteArray := method_21_code
def yL_simulate : MethodName := ⟨RL, "simulate", "(LTradeRings;JI[J)I"⟩
abbrev cL_save : ByteArray := method_22_code
def yL_save : MethodName := ⟨RL, "save", "(LTradeRings;I[J)I"⟩
abbrev cL_restore : ByteArray := method_23_code
def yL_restore : MethodName := ⟨RL, "restore", "(LTradeRings;I[J)I"⟩
abbrev cL_law : ByteArray := code
def yL_law : MethodName := ⟨RL, "law", "([I)Z"⟩
abbrev vwCl : List vw_C := [(RX0, TX0, 3), (RX1, TX1, 4), (RX2, TX2, 2), (RX3, TX3, 3), (RX4, TX4, 6), (RX5, TX5, 2), (RX6, TX6, 9), (RX7, TX7, 11), (RX8, TX8, 27)]
end
section
/-! ===== BEGIN words of one list among another's, by their places ===== -/
theorem goodIn_r {big : List Cond} (ws : List Cond) (ps : List Nat) (hp : ws = ps.filterMap (fun i => big[i]?)) (h : ws.all goodWord = true) : GoodIn big ws := by
  intro w hw
  have h1 := List.all_eq_true.mp h w hw
  rw [hp] at hw
  obtain ⟨i, -, hi⟩ := List.mem_filterMap.mp hw
  have hm : w ∈ big := by first | exact List.mem_of_getElem? hi | exact List.getElem?_mem hi
  exact ⟨hm, good_of_word h1⟩
theorem goodIn_app {big a b : List Cond} (ha : GoodIn big a) (hb : GoodIn big b) : GoodIn big (a ++ b) := fun w h => (List.mem_append.mp h).elim (ha w) (hb w)
theorem goodIn_ca {big a b : List Cond} {c : Cond} (ha : GoodIn big (c :: a)) (hb : GoodIn big b) : GoodIn big (c :: (a ++ b)) := fun w h => (List.mem_cons.mp h).elim (fun e => ha w (List.mem_cons.mpr (Or.inl e))) (fun h => (List.mem_append.mp h).elim (fun h => ha w (List.mem_cons.mpr (Or.inr h))) (hb w))
theorem goodIn_sub {big ws : List Cond} (hm : ∀ w ∈ ws, w ∈ big) (h : ws.all goodWord = true) : GoodIn big ws := fun w hw => ⟨hm w hw, good_of_word (List.all_eq_true.mp h w hw)⟩
/-! ===== END ===== -/
/-! ===== BEGIN exceptions that leave a method, and their catching by the caller (launches without stack traces) ===== -/
section VXA
/-! The laws vx_back, vx_callV, vx_callS, vx_callSW, vx_throw0, vx_throwS follow proofs of the library, with one case more: JvmDerived/Free/Laws.lean (Back.of_free), Shelf42/LK1.lean (callV, callS), Shelf/KitTraced.lean (throwNew0V, throwNewS). -/
/-- where a method has thrown q: the class by its name, the cell, what was written, the world -/
def vx_T (XC : String → State → State → Prop) (st : State) (q : Addr) (t : State) (mc ms : Nat) (free : Addr → Prop) : Prop :=
  ∃ (E : String) (ce : Cell) (L : List Loc), XC E st t ∧ t.heap[q]? = some ce ∧ ce.vm = .none ∧ st.vm.findClass E = some ce.cls ∧ st.WarmedH t.vm ∧ st.sameButNew ({ t with vm := st.vm } : State) L mc ms ∧ ∀ z ∈ L, free z.base
def vx_Q (Qc : Array Value → State → Outcome → State → Prop) (XC : String → State → State → Prop) (mc ms : Nat) (free : Addr → Prop) : Array Value → State → Outcome → State → Prop := fun a st o t =>
  (Qc a st o t ∧ ∃ L, FrameEnd st o t L mc ms ∧ ∀ q ∈ L, free q.base) ∨ ∃ q, o = .threw q ∧ vx_T XC st q t mc ms free
/-- a callee that returns or throws -/
def vx_Met (l : Launch) (y : MethodName) (ws : List Cond) (rm : Room) (Pc : Array Value → State → Prop) (Qc : Array Value → State → Outcome → State → Prop) (XC : String → State → State → Prop) (mc ms : Nat) (free : Addr → Prop) : Prop :=
  MetFree l y (headSpec ws rm) Pc (fun _ _ _ _ _ => True) (vx_Q Qc XC mc ms free)
def vx_Post (XC : String → State → State → Prop) (mc ms : Nat) (free : Addr → Prop) : Pt → Array Value → Addr → Pt → Prop := fun A a q B =>
  ∃ (g : JFrame) (mk : MethodId) (t : State) (L : List Loc) (E : String) (ce : Cell), B.U.heap = t.heap ∧ B.U.vm = t.vm ∧ XC E (A.U.calling g mk a) t ∧ t.heap[q]? = some ce ∧ ce.vm = .none ∧ A.U.vm.findClass E = some ce.cls ∧ B.locs = A.locs ++ L ∧ (∀ z ∈ L, free z.base) ∧ B.cells = A.cells + mc ∧ B.slots = A.slots + ms
def vx_Back (l : Launch) (R : Room) (p : Program) (e : Env) (below : List Frame) (s : State) (sargs : Array Value) (y : MethodName) (len W9 : Nat)
    (Pre : Pt → Array Value → Prop) (Post : Pt → Array Value → Option Value → Pt → Prop) (PostX : Pt → Array Value → Addr → Pt → Prop) : Prop :=
  ∀ (m : MethodId) (meth : Method) (c : Code) (A : Pt) (g : JFrame) (ig : Instr) (mk : MethodId) (a : Array Value),
    Stand p l e R s m sargs below meth c A.U A.locs A.cells A.slots → g.method = m → g.locals.size = c.maxLocals → decode c.code g.pc = .ok (ig, len) →
    2 * g.monitorRoom + (g.stack.map fun v => v.category).sum ≤ W9 → A.U.methodNamed? y = some mk → Pre A a →
    (∃ (v : Option Value) (B : Pt), Stand p l e R s m sargs below meth c B.U B.locs B.cells B.slots ∧ Post A a v B ∧
      Steps p.tables e below (doInvoke e (A.U.setTop g) [] mk a).1 (B.U.setTop { g with pc := g.pc + len, stack := v.toList ++ g.stack })) ∨
    (∃ (q : Addr) (B : Pt), Stand p l e R s m sargs below meth c B.U B.locs B.cells B.slots ∧ PostX A a q B ∧
      Steps p.tables e below (doInvoke e (A.U.setTop g) [] mk a).1 ((B.U.setTop g).pushFrame (.throwing q)))
section Payer
variable {l : Launch} {R : Room} {p : Program} {e : Env} {below : List Frame} {s : State} {sargs : Array Value} {y : MethodName} {len W9 : Nat}
theorem vx_back {ws : List Cond} {rm : Room} {Pc : Array Value → State → Prop} {Qc : Array Value → State → Outcome → State → Prop} {XC : String → State → State → Prop} {mc ms : Nat} {free : Addr → Prop} {bytes : ByteArray} {maxL : Nat} {ret : Option FieldType}
    (hM : vx_Met l y ws rm Pc Qc XC mc ms free) (hblind : FrameBlind Pc) (hrc : rm.cells = mc) (hrs : rm.slots = ms)
    (hframes : rm.frames + 1 ≤ R.frames) (hlocals : W9 + (maxL + 11) + rm.locals ≤ R.locals)
    (hws : ∀ w ∈ ws, ∀ a' U, s.WarmedH U.vm → w.before a' U = true) (hcode : Cond.code y bytes maxL ret ∈ ws) (hinit : ∀ a' U, s.WarmedH U.vm → (Cond.initialized y.cls).before a' U = true) :
    vx_Back l R p e below s sargs y len W9 (PreOf R mc ms Pc) (PostOf Qc mc ms free) (vx_Post XC mc ms free) := by
  intro m meth c A g ig mk a X hg hsize hdg hW hn hp
  have h1 : (headSpec ws rm).pre.before a A.U = true := atoms_intro fun w hw => hws w hw _ _ X.warmed
  have h2 : (Cond.code y bytes maxL ret).before a A.U = true := hws _ hcode _ _ X.warmed
  have h3 : (Cond.initialized y.cls).before a A.U = true := hinit _ _ X.warmed
  have h4 : A.cells + (headSpec ws rm).room.cells ≤ R.cells := by rw [show (headSpec ws rm).room.cells = mc from hrc]; exact hp.1
  have h5 : A.slots + (headSpec ws rm).room.slots ≤ R.slots := by rw [show (headSpec ws rm).room.slots = ms from hrs]; exact hp.2.1
  have hPc : Pc a (A.U.calling g mk a) := hblind _ _ _ _ hp.2.2
  obtain ⟨U, Ls, c0, s0⟩ := A
  dsimp only [Pt.U, Pt.locs, Pt.cells, Pt.slots] at h1 h2 h3 h4 h5 X hn hPc ⊢
  obtain ⟨methY, cY, hmY, hcY, -, hlY, -, -, -, -⟩ := Cond.code_spec hn h2
  obtain ⟨kY, hkY, -⟩ := className_of_methodNamed hn
  have hinitY : kY.init = .initialized := Cond.initialized_spec (findClass_of_methodNamed hn) hkY h3
  have h : At U g.method c below := by rw [hg]; exact X.here
  have hlocals9 : W9 + (maxL + 11) + (headSpec ws rm).room.locals ≤ R.locals := hlocals
  have happ : (headSpec ws rm).appliesLoose y e.platform (U.calling g mk a) = true :=
    Spec.appliesLoose_calling (g := g) h hdg hn hkY hinitY
      (X.room_calling (g := g) (R' := (headSpec ws rm).room) hsize hmY hcY hframes (by rw [hlY]; omega) h4 h5) h1
  obtain ⟨mid, hmid⟩ := h.above
  have hfr : (U.setTop g).frames = (.java g :: mid) ++ below := by rw [State.frames_setTop' g h.top, hmid]; rfl
  obtain ⟨o, s₂, hsteps, -, hend, hq⟩ := Steps.callFree hM p X.admits X.cas X.clock (acts := []) hfr happ hPc trivial
  have hq' : vx_Q Qc XC mc ms free a (U.calling g mk a) o s₂ := hq
  rw [State.frames_setTop' g h.top] at hend
  obtain ⟨g₀, hg0⟩ := Option.isSome_iff_exists.mp h.top
  obtain ⟨r, hr⟩ := State.topJava?_eq_some.mp hg0
  have hr' : (({ U with heap := s₂.heap, slotsUsed := s₂.slotsUsed } : State).setVm s₂.vm).frames = .java g₀ :: r := hr
  rcases hq' with ⟨hqc, L, hfe, hL⟩ | ⟨q, rfl, E, ce, L, hx, hce, hcv, hcl, hW₂, hsm, hL⟩
  · obtain ⟨⟨v, rfl⟩, hW₂, e2, q2, q3, q4, q5, q6⟩ := id hfe
    have e3 : s₂ = ({ (U.calling g mk a).setFrames s₂.frames with heap := s₂.heap, slotsUsed := s₂.slotsUsed } : State).setVm s₂.vm := by
      have : s₂ = ({ s₂ with vm := (U.calling g mk a).vm } : State).setVm s₂.vm := rfl
      rw [e2] at this
      exact this
    obtain ⟨c₂, i₂, len₂, hc₂, hd₂, hf₂⟩ := hend
    have hW' : U.WarmedH s₂.vm := hW₂
    have hcc : c₂ = c := by
      have h1 : s₂.code? g.method = U.code? g.method := by
        rw [State.code?_eq, State.code?_eq, hW'.alike.method?]
      exact Option.some.inj (hc₂.symm.trans (h1.trans h.code))
    subst hcc
    have hlen : len₂ = len := by rw [hdg] at hd₂; cases hd₂; rfl
    subst hlen
    have hs₂ : s₂ = (({ U with heap := s₂.heap, slotsUsed := s₂.slotsUsed } : State).setVm s₂.vm).setTop { g with pc := g.pc + len₂, stack := v.toList ++ g.stack } := by
      refine e3.trans ?_
      rw [hf₂, State.calling_eq h.top, State.setFrames_setFrames, State.setTop_of_frames _ hr', hr]
      rfl
    have hsame : U.sameButNew ({ U with heap := s₂.heap, slotsUsed := s₂.slotsUsed } : State) L mc ms := by
      refine ⟨?_, q2, q3, q4, q5, q6⟩
      obtain ⟨t, ht, -⟩ := State.frames_cons hr
      show ({ U with heap := s₂.heap, slotsUsed := s₂.slotsUsed } : State) = { U.setFrames U.frames with heap := s₂.heap, slotsUsed := s₂.slotsUsed }
      rw [State.setFrames_self ht]
    subst hg
    refine Or.inl ⟨v, ⟨(({ U with heap := s₂.heap, slotsUsed := s₂.slotsUsed } : State).setVm s₂.vm), Ls ++ L, c0 + mc, s0 + ms⟩,
      ⟨X.admits, X.cas, X.clock, X.frames, X.room, X.hears, X.method, X.code, (X.here.setHeapUsed s₂.heap s₂.slotsUsed).setVm hW'.alike, X.tail, State.WarmedH.trans X.warmed hW', X.limits, X.bytes, X.same.trans (hsame.setVm s.vm)⟩,
      ⟨g, mk, s₂, L, rfl, rfl, hqc, rfl, hL, rfl, rfl⟩, ?_⟩
    show Steps p.tables e below _ ((({ U with heap := s₂.heap, slotsUsed := s₂.slotsUsed } : State).setVm s₂.vm).setTop { g with pc := g.pc + len₂, stack := v.toList ++ g.stack })
    rw [← hs₂]
    exact hsteps
  · obtain ⟨e2, q2, q3, q4, q5, q6⟩ := id hsm
    have e3 : s₂ = ({ (U.calling g mk a).setFrames s₂.frames with heap := s₂.heap, slotsUsed := s₂.slotsUsed } : State).setVm s₂.vm := by
      have : s₂ = ({ s₂ with vm := (U.calling g mk a).vm } : State).setVm s₂.vm := rfl
      rw [e2] at this
      exact this
    have hf₂ : s₂.frames = .throwing q :: .java g :: U.frames.tail := hend
    have hW' : U.WarmedH s₂.vm := hW₂
    have hs₂ : s₂ = ((({ U with heap := s₂.heap, slotsUsed := s₂.slotsUsed } : State).setVm s₂.vm).setTop g).pushFrame (.throwing q) := by
      refine e3.trans ?_
      rw [hf₂, State.calling_eq h.top, State.setFrames_setFrames, State.pushFrame, State.frames_setTop _ hr', State.setTop_of_frames _ hr', State.setFrames_setFrames, hr]
      rfl
    have hsame : U.sameButNew ({ U with heap := s₂.heap, slotsUsed := s₂.slotsUsed } : State) L mc ms := by
      refine ⟨?_, q2, q3, q4, q5, q6⟩
      obtain ⟨t, ht, -⟩ := State.frames_cons hr
      show ({ U with heap := s₂.heap, slotsUsed := s₂.slotsUsed } : State) = { U.setFrames U.frames with heap := s₂.heap, slotsUsed := s₂.slotsUsed }
      rw [State.setFrames_self ht]
    subst hg
    refine Or.inr ⟨q, ⟨(({ U with heap := s₂.heap, slotsUsed := s₂.slotsUsed } : State).setVm s₂.vm), Ls ++ L, c0 + mc, s0 + ms⟩,
      ⟨X.admits, X.cas, X.clock, X.frames, X.room, X.hears, X.method, X.code, (X.here.setHeapUsed s₂.heap s₂.slotsUsed).setVm hW'.alike, X.tail, State.WarmedH.trans X.warmed hW', X.limits, X.bytes, X.same.trans (hsame.setVm s.vm)⟩,
      ⟨g, mk, s₂, L, E, ce, rfl, rfl, hx, hce, hcv, hcl, rfl, hL, rfl, rfl⟩, ?_⟩
    show Steps p.tables e below _ (((({ U with heap := s₂.heap, slotsUsed := s₂.slotsUsed } : State).setVm s₂.vm).setTop g).pushFrame (.throwing q))
    rw [← hs₂]
    exact hsteps
end Payer
section Calls
variable {p : Program} {l : Launch} {e : Env} {R : Room} {s : State} {m : MethodId} {args : Array Value} {below : List Frame} {meth : Method} {c : Code} {T : State} {locs : List Loc} {cells slots : Nat}
theorem vx_callV (X : Stand p l e R s m args below meth c T locs cells slots) (hexec : p.tables.exec = Jvm.exec) {own C : String} {index : Nat} {y : MethodName} {bytes : ByteArray} {maxL : Nat} {ret : Option FieldType}
    (hown : s.vm.findClass own = some m.cls) (hlink : (Cond.methodLink own index y).before args s = true) (hinst : (Cond.instanceMethod y).before args s = true) (hsel : (Cond.selects C y y).before args s = true)
    (hcode : (Cond.code y bytes maxL ret).before args s = true) (hy : y.cls ≠ "java/lang/invoke/MethodHandle" ∧ y.cls ≠ "java/lang/invoke/VarHandle")
    {W9 : Nat} {Pre : Pt → Array Value → Prop} {Post : Pt → Array Value → Option Value → Pt → Prop} {PostX : Pt → Array Value → Addr → Pt → Prop} (hK : vx_Back l R p e below s args y 3 W9 Pre Post PostX)
    {b : Addr} {cellB : Cell} (hcell : T.heap[b]? = some cellB) (hobj : cellB.vm.isStatics = false) (hcls : s.vm.findClass C = some cellB.cls)
    {g : JFrame} (hg : g.method = m) (hsize : g.locals.size = c.maxLocals) {argsL rest : List Value} (hlen : ∀ sig, parseMethodDescriptor y.desc = some sig → argsL.length = sig.parameters.length)
    (hstack : g.stack = argsL.reverse ++ .ref b :: rest) (hW : 2 * g.monitorRoom + (rest.map fun v => v.category).sum ≤ W9) (hdg : decode c.code g.pc = .ok (.invokevirtual index, 3))
    (hpre : ∀ vm₁, s.WarmedH vm₁ → Pre ⟨T.setVm vm₁, locs, cells, slots⟩ (Value.ref b :: argsL).toArray) :
    (∃ (v : Option Value) (vm₁ : Vm) (B : Pt), s.WarmedH vm₁ ∧ Stand p l e R s m args below meth c B.U B.locs B.cells B.slots ∧ Post ⟨T.setVm vm₁, locs, cells, slots⟩ (Value.ref b :: argsL).toArray v B ∧
      ∀ target, Steps p.tables e below (B.U.setTop { g with pc := g.pc + 3, stack := v.toList ++ rest }) target → Steps p.tables e below (T.setTop g) target) ∨
    (∃ (q : Addr) (vm₁ : Vm) (B : Pt), s.WarmedH vm₁ ∧ Stand p l e R s m args below meth c B.U B.locs B.cells B.slots ∧ PostX ⟨T.setVm vm₁, locs, cells, slots⟩ (Value.ref b :: argsL).toArray q B ∧
      Steps p.tables e below (T.setTop g) ((B.U.setTop { g with stack := rest }).pushFrame (.throwing q))) := by
  obtain ⟨mk, methM, hnamed, hmethM, hstM, habM⟩ := Cond.instanceMethod_spec hinst
  obtain ⟨methM', cM, hmethM', -, -, -, -, -, -, hsigM⟩ := Cond.code_spec hnamed hcode
  cases hmethM.symm.trans hmethM'
  obtain ⟨c2, r2, m2, q1, q2, q3, q4, kP, hkP, hkPi⟩ := Cond.selects_spec hsel
  cases hcls.symm.trans q1
  cases (State.methodFound?_of_named hnamed hy).symm.trans q2
  cases hnamed.symm.trans q3
  have hselP : selectMethod e.platform s.vm cellB.cls mk = .method mk := by rw [Launch.admits_selectMethod X.admits]; exact q4
  obtain ⟨vm₁, X₁, hstep₁⟩ := X.invokevirtual hexec hown hlink hnamed hmethM hstM hkP hkPi hy (a := b) (cell := cellB) hcell
    (fun z h => by rw [h] at hobj; cases hobj) hselP hmethM habM hkP hkPi (g := g) hg (argsL := argsL) (rest := rest) (hlen _ hsigM) hstack hdg
  rcases hK m meth c ⟨T.setVm vm₁, locs, cells, slots⟩ { g with stack := rest } (.invokevirtual index) mk (Value.ref b :: argsL).toArray X₁ hg hsize hdg hW (X₁.named hnamed) (hpre vm₁ X₁.warmed) with ⟨v, B, X', hpost, hsteps⟩ | ⟨q, B, X', hpost, hsteps⟩
  · exact Or.inl ⟨v, vm₁, B, X₁.warmed, X', hpost, fun target h => hstep₁ _ fun acts => by rw [doInvoke_state]; exact hsteps.trans h⟩
  · exact Or.inr ⟨q, vm₁, B, X₁.warmed, X', hpost, hstep₁ _ fun acts => by rw [doInvoke_state]; exact hsteps⟩
theorem vx_callS (X : Stand p l e R s m args below meth c T locs cells slots) (hexec : p.tables.exec = Jvm.exec) {own : String} {index : Nat} {y : MethodName} {bytes : ByteArray} {maxL : Nat} {ret : Option FieldType}
    (hown : s.vm.findClass own = some m.cls) (hlink : (Cond.methodLink own index y).before args s = true) (hstat : (Cond.static y).before args s = true) (hinit : (Cond.initialized y.cls).before args s = true)
    (hcode : (Cond.code y bytes maxL ret).before args s = true) (hy : y.cls ≠ "java/lang/invoke/MethodHandle" ∧ y.cls ≠ "java/lang/invoke/VarHandle")
    {W9 : Nat} {Pre : Pt → Array Value → Prop} {Post : Pt → Array Value → Option Value → Pt → Prop} {PostX : Pt → Array Value → Addr → Pt → Prop} (hK : vx_Back l R p e below s args y 3 W9 Pre Post PostX)
    {g : JFrame} (hg : g.method = m) (hsize : g.locals.size = c.maxLocals) {argsL rest : List Value} (hlen : ∀ sig, parseMethodDescriptor y.desc = some sig → argsL.length = sig.parameters.length)
    (hstack : g.stack = argsL.reverse ++ rest) (hW : 2 * g.monitorRoom + (rest.map fun v => v.category).sum ≤ W9) (hdg : decode c.code g.pc = .ok (.invokestatic index, 3))
    (hpre : ∀ vm₁, s.WarmedH vm₁ → Pre ⟨T.setVm vm₁, locs, cells, slots⟩ argsL.toArray) :
    (∃ (v : Option Value) (vm₁ : Vm) (B : Pt), s.WarmedH vm₁ ∧ Stand p l e R s m args below meth c B.U B.locs B.cells B.slots ∧ Post ⟨T.setVm vm₁, locs, cells, slots⟩ argsL.toArray v B ∧
      ∀ target, Steps p.tables e below (B.U.setTop { g with pc := g.pc + 3, stack := v.toList ++ rest }) target → Steps p.tables e below (T.setTop g) target) ∨
    (∃ (q : Addr) (vm₁ : Vm) (B : Pt), s.WarmedH vm₁ ∧ Stand p l e R s m args below meth c B.U B.locs B.cells B.slots ∧ PostX ⟨T.setVm vm₁, locs, cells, slots⟩ argsL.toArray q B ∧
      Steps p.tables e below (T.setTop g) ((B.U.setTop { g with stack := rest }).pushFrame (.throwing q))) := by
  obtain ⟨mk, hnamed⟩ := Cond.code_named hcode
  obtain ⟨methM, cM, hmethM, -, -, -, -, -, -, hsigM⟩ := Cond.code_spec hnamed hcode
  have hstatic : methM.isStatic = true := Cond.static_spec hnamed hmethM hstat
  obtain ⟨kP, hkP, -⟩ := className_of_methodNamed hnamed
  have hinitP : kP.init = .initialized := Cond.initialized_spec (findClass_of_methodNamed hnamed) hkP hinit
  obtain ⟨vm₁, X₁, hstep₁⟩ := X.invokestatic hexec hown hlink hnamed hmethM hstatic hkP hinitP hy (g := g) hg (argsL := argsL) (rest := rest) (hlen _ hsigM) hstack hdg
  rcases hK m meth c ⟨T.setVm vm₁, locs, cells, slots⟩ { g with stack := rest } (.invokestatic index) mk argsL.toArray X₁ hg hsize hdg hW (X₁.named hnamed) (hpre vm₁ X₁.warmed) with ⟨v, B, X', hpost, hsteps⟩ | ⟨q, B, X', hpost, hsteps⟩
  · exact Or.inl ⟨v, vm₁, B, X₁.warmed, X', hpost, fun target h => hstep₁ _ fun acts => by rw [doInvoke_state]; exact hsteps.trans h⟩
  · exact Or.inr ⟨q, vm₁, B, X₁.warmed, X', hpost, hstep₁ _ fun acts => by rw [doInvoke_state]; exact hsteps⟩
end Calls
theorem vx_cls {s : State} {T : State} {vm₁ : Vm} {E : String} {k : ClassId} (hW : s.WarmedH vm₁) (h : (T.setVm vm₁).vm.findClass E = some k) : s.vm.findClass E = some k := by
  have h1 : vm₁.findClass E = some k := h
  rw [hW.alike.findClass] at h1
  exact h1
/-- the method's frame g, with q thrown over it -/
def vx_W (p : Program) (l : Launch) (e : Env) (R : Room) (s : State) (m : MethodId) (args : Array Value) (below : List Frame) (meth : Method) (c : Code) (H : Heap) (locs : List Loc) (cells slots : Nat) (Q : State → Prop) (g : JFrame) (q : Addr) : Prop :=
  ∀ T : State, T.heap = H → Stand p l e R s m args below meth c T locs cells slots → ∃ t, Steps p.tables e below ((T.setTop g).pushFrame (.throwing q)) t ∧ Q t
def vx_Run (p : Program) (l : Launch) (e : Env) (R : Room) (s : State) (m : MethodId) (args : Array Value) (below : List Frame) (meth : Method) (c : Code) (H : Heap) (locs : List Loc) (cells slots mc ms : Nat) (g : JFrame) (rest : List Value) (Qa : State → Outcome → State → Prop) (XC : String → State → State → Prop) (free : Addr → Prop) : Prop :=
  ∀ T : State, T.heap = H → Stand p l e R s m args below meth c T locs cells slots →
    (∃ (v : Option Value) (st₀ t T' : State) (L : List Loc), st₀.heap = H ∧ Stand p l e R s m args below meth c T' (locs ++ L) (cells + mc) (slots + ms) ∧ (∀ q ∈ L, free q.base) ∧ T'.heap = t.heap ∧ T'.vm = t.vm ∧ Qa st₀ (.returned v) t ∧
      Goes p e below T g T' { g with pc := g.pc + 3, stack := v.toList ++ rest }) ∨
    (∃ (q : Addr) (st₀ t T' : State) (L : List Loc) (E : String) (ce : Cell), st₀.heap = H ∧ Stand p l e R s m args below meth c T' (locs ++ L) (cells + mc) (slots + ms) ∧ (∀ z ∈ L, free z.base) ∧ T'.heap = t.heap ∧ T'.vm = t.vm ∧ XC E st₀ t ∧ t.heap[q]? = some ce ∧ ce.vm = .none ∧ s.vm.findClass E = some ce.cls ∧
      Steps p.tables e below (T.setTop g) ((T'.setTop { g with stack := rest }).pushFrame (.throwing q)))
def vx_X {S : Type} (px : S → Prop) (B : String → S → State → Prop) (A : Nat → Prop) : String → State → State → Prop := fun E st t => ∃ u : S, px u ∧ B E u t ∧ va_F A st t
section Runs
variable {p : Program} {l : Launch} {e : Env} {R : Room} {s : State} {m : MethodId} {args : Array Value} {below : List Frame} {meth : Method} {c : Code} {H : Heap} {locs : List Loc} {cells slots : Nat}
variable {y : MethodName} {bytes cc : ByteArray} {maxL nL mc ms n index : Nat} {ret : Option FieldType} {ws : List Cond} {rm : Room} {Pc : Array Value → State → Prop} {Qc : Array Value → State → Outcome → State → Prop} {XC : String → State → State → Prop} {free : Addr → Prop} {Ts : List Cond} {own C : String} {b : Addr} {As rest : List Value} {g : JFrame}
theorem vx_callBack (cb : CallB R s args own index y bytes maxL ret ws rm mc ms n) (hM : vx_Met l y ws rm Pc Qc XC mc ms free) (hbl : FrameBlind Pc) : vx_Back l R p e below s args y 3 8 (PreOf R mc ms Pc) (PostOf Qc mc ms free) (vx_Post XC mc ms free) := by
  obtain ⟨hrc, hrs, hfr, hlo, hws, hcw, -, hini, -⟩ := cb
  exact vx_back (bytes := bytes) (maxL := maxL) (ret := ret) hM hbl hrc hrs hfr hlo hws hcw (fun a' U hW => word_at hW (Or.inl (by first | rfl | simp [Cond.onTables, Cond.keeps, Cond.steady])) hini)
theorem vx_runV (S : CallFix p m c cc nL s args Ts own) (hM : vx_Met l y ws rm Pc Qc XC mc ms free) (cw : CallW R s args own C index y bytes maxL ret ws rm mc ms n) (hp : PreV s H C b Pc As)
    (hg : g.method = m) (hn : As.length = n) (hsize : g.locals.size = nL) (hstack : g.stack = As.reverse ++ .ref b :: rest) (hW : 2 * g.monitorRoom + (rest.map fun v => v.category).sum ≤ 8) (hdg : decode cc g.pc = .ok (.invokevirtual index, 3)) (hf : cells + mc ≤ R.cells ∧ slots + ms ≤ R.slots) :
    vx_Run p l e R s m args below meth c H locs cells slots mc ms g rest (Qc (Value.ref b :: As).toArray) XC free := by
  have hK : vx_Back l R p e below s args y 3 8 (PreOf R mc ms Pc) (PostOf Qc mc ms free) (vx_Post XC mc ms free) := vx_callBack cw.1 hM hp.1
  obtain ⟨⟨-, -, -, -, -, -, hcode, -, hy, hlen, hl⟩, hin, hse⟩ := cw
  obtain ⟨hx, hb, hml, ho, -⟩ := S
  obtain ⟨-, ⟨cellB, hcB, hoB, hclB⟩, hPc⟩ := hp
  intro T hT X
  rcases vx_callV X hx (C := C) (bytes := bytes) (maxL := maxL) (ret := ret) ho hl hin hse hcode hy hK (by rw [hT]; exact hcB) hoB hclB hg (hsize.trans hml.symm) (argsL := As) (rest := rest) (fun sig h => hn.trans (hlen sig h)) hstack hW (by rw [hb]; exact hdg)
    (fun vm₁ hW₁ => ⟨hf.1, hf.2, hPc (T.setVm vm₁) hT hW₁⟩) with ⟨v, vm₁, ⟨U', l2, c2, s2⟩, hW₁, X', ⟨g', mk, t, L, e1, e2, hq, h1, hL, h2, h3⟩, st⟩ | ⟨q, vm₁, ⟨U', l2, c2, s2⟩, hW₁, X', ⟨g', mk, t, L, E, ce, e1, e2, hq, hce, hcv, hcl, h1, hL, h2, h3⟩, st⟩
  · dsimp only [Pt.U, Pt.locs, Pt.cells, Pt.slots] at X' e1 e2 h1 h2 h3 st
    subst h1; subst h2; subst h3
    exact Or.inl ⟨v, (T.setVm vm₁).calling g' mk (Value.ref b :: As).toArray, t, U', L, hT, X', hL, e1, e2, hq, st⟩
  · dsimp only [Pt.U, Pt.locs, Pt.cells, Pt.slots] at X' e1 e2 h1 h2 h3 st hcl
    subst h1; subst h2; subst h3
    exact Or.inr ⟨q, (T.setVm vm₁).calling g' mk (Value.ref b :: As).toArray, t, U', L, E, ce, hT, X', hL, e1, e2, hq, hce, hcv, vx_cls hW₁ hcl, st⟩
theorem vx_runS (S : CallFix p m c cc nL s args Ts own) (hM : vx_Met l y ws rm Pc Qc XC mc ms free) (cw : CallB R s args own index y bytes maxL ret ws rm mc ms n ∧ (Cond.static y).before args s = true) (hp : PreS s H Pc As)
    (hg : g.method = m) (hn : As.length = n) (hsize : g.locals.size = nL) (hstack : g.stack = As.reverse ++ rest) (hW : 2 * g.monitorRoom + (rest.map fun v => v.category).sum ≤ 8) (hdg : decode cc g.pc = .ok (.invokestatic index, 3)) (hf : cells + mc ≤ R.cells ∧ slots + ms ≤ R.slots) :
    vx_Run p l e R s m args below meth c H locs cells slots mc ms g rest (Qc As.toArray) XC free := by
  have hK : vx_Back l R p e below s args y 3 8 (PreOf R mc ms Pc) (PostOf Qc mc ms free) (vx_Post XC mc ms free) := vx_callBack cw.1 hM hp.1
  obtain ⟨⟨-, -, -, -, -, -, hcode, hini, hy, hlen, hl⟩, hstt⟩ := cw
  obtain ⟨hx, hb, hml, ho, -⟩ := S
  intro T hT X
  rcases vx_callS X hx (bytes := bytes) (maxL := maxL) (ret := ret) ho hl hstt hini hcode hy hK hg (hsize.trans hml.symm) (argsL := As) (rest := rest) (fun sig h => hn.trans (hlen sig h)) hstack hW (by rw [hb]; exact hdg)
    (fun vm₁ hW₁ => ⟨hf.1, hf.2, hp.2 (T.setVm vm₁) hT hW₁⟩) with ⟨v, vm₁, ⟨U', l2, c2, s2⟩, hW₁, X', ⟨g', mk, t, L, e1, e2, hq, h1, hL, h2, h3⟩, st⟩ | ⟨q, vm₁, ⟨U', l2, c2, s2⟩, hW₁, X', ⟨g', mk, t, L, E, ce, e1, e2, hq, hce, hcv, hcl, h1, hL, h2, h3⟩, st⟩
  · dsimp only [Pt.U, Pt.locs, Pt.cells, Pt.slots] at X' e1 e2 h1 h2 h3 st
    subst h1; subst h2; subst h3
    exact Or.inl ⟨v, (T.setVm vm₁).calling g' mk As.toArray, t, U', L, hT, X', hL, e1, e2, hq, st⟩
  · dsimp only [Pt.U, Pt.locs, Pt.cells, Pt.slots] at X' e1 e2 h1 h2 h3 st hcl
    subst h1; subst h2; subst h3
    exact Or.inr ⟨q, (T.setVm vm₁).calling g' mk As.toArray, t, U', L, E, ce, hT, X', hL, e1, e2, hq, hce, hcv, vx_cls hW₁ hcl, st⟩
end Runs
section Rows
variable {p : Program} {l : Launch} {e : Env} {R : Room} {s : State} {m : MethodId} {args : Array Value} {below : List Frame} {meth : Method} {c : Code} {H : Heap} {locs : List Loc} {cells slots : Nat} {Q : State → Prop}
variable {mc ms : Nat} {free : Addr → Prop} {A0 A1 : Nat → Prop} {H0 : Heap} {a : Array Value} {pc : Nat} {ls : Array Slot} {st0 rest : List Value}
theorem vx_keep {st₀ t T' : State} {L : List Loc} (h0 : st₀.heap = H) (e1 : T'.heap = t.heap) (hS : va_S A0 H0 H locs) (hA : ∀ q, q < H.size → A1 q → A0 q) (hf : ∀ q, free q → A0 q) (hL : ∀ q ∈ L, free q.base) (hF : va_F A1 st₀ t) :
    H.size ≤ T'.heap.size ∧ (∀ q : Nat, q < H.size → ¬ A1 q → T'.heap[q]? = H[q]?) ∧ va_S A0 H0 T'.heap (locs ++ L) := by
  obtain ⟨hz, hk⟩ := hF
  rw [h0] at hz hk
  exact ⟨by rw [e1]; exact hz, fun q h1 h2 => by rw [e1]; exact hk q h1 h2,
    ⟨Nat.le_trans hS.1 (by rw [e1]; exact hz), fun q h1 h2 => by rw [e1, hk q (Nat.lt_of_lt_of_le h1 hS.1) (fun z => h2 (hA q (Nat.lt_of_lt_of_le h1 hS.1) z))]; exact hS.2.1 q h1 h2, fun q hq => by
      rcases List.mem_append.mp hq with h | h
      · exact hS.2.2 q h
      · exact hf _ (hL q h)⟩⟩
theorem vx_calli {S SX : Type} {post : Int32 → S → Prop} {px : SX → Prop} {B : S → State → Prop} {BX : String → SX → State → Prop} {AX : Nat → Prop} (hr : vx_Run p l e R s m args below meth c H locs cells slots mc ms (F0 m pc ls st0) rest (va_Qi post B A1 a) (vx_X px BX AX) free) (hS : va_S A0 H0 H locs) (hA : ∀ q, q < H.size → A1 q → A0 q) (hf : ∀ q, free q → A0 q) (hAX : ∀ q, q < H.size → AX q → A0 q)
    (kx : ∀ (E : String) (ce : Cell) (q9 : Addr) (u : SX) (t : State) (H1 : Heap) (locs1 : List Loc), t.heap = H1 → s.vm.Alike t.vm → px u → BX E u t → H.size ≤ H1.size → (∀ q : Nat, q < H.size → ¬ AX q → H1[q]? = H[q]?) → va_S A0 H0 H1 locs1 → H1[q9]? = some ce → ce.vm = .none → s.vm.findClass E = some ce.cls → vx_W p l e R s m args below meth c H1 locs1 (cells + mc) (slots + ms) Q (F0 m pc ls rest) q9)
    (kk : ∀ (r : Int32) (u : S) (t : State) (H1 : Heap) (locs1 : List Loc), t.heap = H1 → s.vm.Alike t.vm → post r u → B u t → H.size ≤ H1.size → (∀ q : Nat, q < H.size → ¬ A1 q → H1[q]? = H[q]?) → va_S A0 H0 H1 locs1 → W p l e R s m args below meth c H1 locs1 (cells + mc) (slots + ms) Q (F0 m (pc + 3) ls (.int r :: rest))) : W p l e R s m args below meth c H locs cells slots Q (F0 m pc ls st0) := by
  intro T hT X
  rcases hr T hT X with ⟨v, st₀, t, T', L, h0, X', hL, e1, e2, ⟨⟨r, u, hv, hp, hb⟩, hF⟩, st⟩ | ⟨q, st₀, t, T', L, E, ce, h0, X', hL, e1, e2, ⟨u, hp, hb, hF⟩, hce, hcv, hcl, st⟩
  · cases hv
    obtain ⟨k1, k2, k3⟩ := vx_keep h0 e1 hS hA hf hL hF
    obtain ⟨t2, a1, b1⟩ := kk r u t T'.heap (locs ++ L) e1.symm (by rw [← e2]; exact X'.warmed.alike) hp hb k1 k2 k3 T' rfl X'
    exact ⟨t2, st t2 a1, b1⟩
  · obtain ⟨k1, k2, k3⟩ := vx_keep h0 e1 hS hAX hf hL hF
    obtain ⟨t2, a1, b1⟩ := kx E ce q u t T'.heap (locs ++ L) e1.symm (by rw [← e2]; exact X'.warmed.alike) hp hb k1 k2 k3 (by rw [e1]; exact hce) hcv hcl T' rfl X'
    exact ⟨t2, st.trans a1, b1⟩
theorem vx_calll {S SX : Type} {post : Int64 → S → Prop} {px : SX → Prop} {B : S → State → Prop} {BX : String → SX → State → Prop} {AX : Nat → Prop} (hr : vx_Run p l e R s m args below meth c H locs cells slots mc ms (F0 m pc ls st0) rest (va_Ql post B A1 a) (vx_X px BX AX) free) (hS : va_S A0 H0 H locs) (hA : ∀ q, q < H.size → A1 q → A0 q) (hf : ∀ q, free q → A0 q) (hAX : ∀ q, q < H.size → AX q → A0 q)
    (kx : ∀ (E : String) (ce : Cell) (q9 : Addr) (u : SX) (t : State) (H1 : Heap) (locs1 : List Loc), t.heap = H1 → s.vm.Alike t.vm → px u → BX E u t → H.size ≤ H1.size → (∀ q : Nat, q < H.size → ¬ AX q → H1[q]? = H[q]?) → va_S A0 H0 H1 locs1 → H1[q9]? = some ce → ce.vm = .none → s.vm.findClass E = some ce.cls → vx_W p l e R s m args below meth c H1 locs1 (cells + mc) (slots + ms) Q (F0 m pc ls rest) q9)
    (kk : ∀ (r : Int64) (u : S) (t : State) (H1 : Heap) (locs1 : List Loc), t.heap = H1 → s.vm.Alike t.vm → post r u → B u t → H.size ≤ H1.size → (∀ q : Nat, q < H.size → ¬ A1 q → H1[q]? = H[q]?) → va_S A0 H0 H1 locs1 → W p l e R s m args below meth c H1 locs1 (cells + mc) (slots + ms) Q (F0 m (pc + 3) ls (.long r :: rest))) : W p l e R s m args below meth c H locs cells slots Q (F0 m pc ls st0) := by
  intro T hT X
  rcases hr T hT X with ⟨v, st₀, t, T', L, h0, X', hL, e1, e2, ⟨⟨r, u, hv, hp, hb⟩, hF⟩, st⟩ | ⟨q, st₀, t, T', L, E, ce, h0, X', hL, e1, e2, ⟨u, hp, hb, hF⟩, hce, hcv, hcl, st⟩
  · cases hv
    obtain ⟨k1, k2, k3⟩ := vx_keep h0 e1 hS hA hf hL hF
    obtain ⟨t2, a1, b1⟩ := kk r u t T'.heap (locs ++ L) e1.symm (by rw [← e2]; exact X'.warmed.alike) hp hb k1 k2 k3 T' rfl X'
    exact ⟨t2, st t2 a1, b1⟩
  · obtain ⟨k1, k2, k3⟩ := vx_keep h0 e1 hS hAX hf hL hF
    obtain ⟨t2, a1, b1⟩ := kx E ce q u t T'.heap (locs ++ L) e1.symm (by rw [← e2]; exact X'.warmed.alike) hp hb k1 k2 k3 (by rw [e1]; exact hce) hcv hcl T' rfl X'
    exact ⟨t2, st.trans a1, b1⟩
theorem vx_callf {S SX : Type} {post : UInt32 → S → Prop} {px : SX → Prop} {B : S → State → Prop} {BX : String → SX → State → Prop} {AX : Nat → Prop} (hr : vx_Run p l e R s m args below meth c H locs cells slots mc ms (F0 m pc ls st0) rest (va_Qf post B A1 a) (vx_X px BX AX) free) (hS : va_S A0 H0 H locs) (hA : ∀ q, q < H.size → A1 q → A0 q) (hf : ∀ q, free q → A0 q) (hAX : ∀ q, q < H.size → AX q → A0 q)
    (kx : ∀ (E : String) (ce : Cell) (q9 : Addr) (u : SX) (t : State) (H1 : Heap) (locs1 : List Loc), t.heap = H1 → s.vm.Alike t.vm → px u → BX E u t → H.size ≤ H1.size → (∀ q : Nat, q < H.size → ¬ AX q → H1[q]? = H[q]?) → va_S A0 H0 H1 locs1 → H1[q9]? = some ce → ce.vm = .none → s.vm.findClass E = some ce.cls → vx_W p l e R s m args below meth c H1 locs1 (cells + mc) (slots + ms) Q (F0 m pc ls rest) q9)
    (kk : ∀ (r : UInt32) (u : S) (t : State) (H1 : Heap) (locs1 : List Loc), t.heap = H1 → s.vm.Alike t.vm → post r u → B u t → H.size ≤ H1.size → (∀ q : Nat, q < H.size → ¬ A1 q → H1[q]? = H[q]?) → va_S A0 H0 H1 locs1 → W p l e R s m args below meth c H1 locs1 (cells + mc) (slots + ms) Q (F0 m (pc + 3) ls (.float r :: rest))) : W p l e R s m args below meth c H locs cells slots Q (F0 m pc ls st0) := by
  intro T hT X
  rcases hr T hT X with ⟨v, st₀, t, T', L, h0, X', hL, e1, e2, ⟨⟨r, u, hv, hp, hb⟩, hF⟩, st⟩ | ⟨q, st₀, t, T', L, E, ce, h0, X', hL, e1, e2, ⟨u, hp, hb, hF⟩, hce, hcv, hcl, st⟩
  · cases hv
    obtain ⟨k1, k2, k3⟩ := vx_keep h0 e1 hS hA hf hL hF
    obtain ⟨t2, a1, b1⟩ := kk r u t T'.heap (locs ++ L) e1.symm (by rw [← e2]; exact X'.warmed.alike) hp hb k1 k2 k3 T' rfl X'
    exact ⟨t2, st t2 a1, b1⟩
  · obtain ⟨k1, k2, k3⟩ := vx_keep h0 e1 hS hAX hf hL hF
    obtain ⟨t2, a1, b1⟩ := kx E ce q u t T'.heap (locs ++ L) e1.symm (by rw [← e2]; exact X'.warmed.alike) hp hb k1 k2 k3 (by rw [e1]; exact hce) hcv hcl T' rfl X'
    exact ⟨t2, st.trans a1, b1⟩
theorem vx_calld {S SX : Type} {post : UInt64 → S → Prop} {px : SX → Prop} {B : S → State → Prop} {BX : String → SX → State → Prop} {AX : Nat → Prop} (hr : vx_Run p l e R s m args below meth c H locs cells slots mc ms (F0 m pc ls st0) rest (va_Qd post B A1 a) (vx_X px BX AX) free) (hS : va_S A0 H0 H locs) (hA : ∀ q, q < H.size → A1 q → A0 q) (hf : ∀ q, free q → A0 q) (hAX : ∀ q, q < H.size → AX q → A0 q)
    (kx : ∀ (E : String) (ce : Cell) (q9 : Addr) (u : SX) (t : State) (H1 : Heap) (locs1 : List Loc), t.heap = H1 → s.vm.Alike t.vm → px u → BX E u t → H.size ≤ H1.size → (∀ q : Nat, q < H.size → ¬ AX q → H1[q]? = H[q]?) → va_S A0 H0 H1 locs1 → H1[q9]? = some ce → ce.vm = .none → s.vm.findClass E = some ce.cls → vx_W p l e R s m args below meth c H1 locs1 (cells + mc) (slots + ms) Q (F0 m pc ls rest) q9)
    (kk : ∀ (r : UInt64) (u : S) (t : State) (H1 : Heap) (locs1 : List Loc), t.heap = H1 → s.vm.Alike t.vm → post r u → B u t → H.size ≤ H1.size → (∀ q : Nat, q < H.size → ¬ A1 q → H1[q]? = H[q]?) → va_S A0 H0 H1 locs1 → W p l e R s m args below meth c H1 locs1 (cells + mc) (slots + ms) Q (F0 m (pc + 3) ls (.double r :: rest))) : W p l e R s m args below meth c H locs cells slots Q (F0 m pc ls st0) := by
  intro T hT X
  rcases hr T hT X with ⟨v, st₀, t, T', L, h0, X', hL, e1, e2, ⟨⟨r, u, hv, hp, hb⟩, hF⟩, st⟩ | ⟨q, st₀, t, T', L, E, ce, h0, X', hL, e1, e2, ⟨u, hp, hb, hF⟩, hce, hcv, hcl, st⟩
  · cases hv
    obtain ⟨k1, k2, k3⟩ := vx_keep h0 e1 hS hA hf hL hF
    obtain ⟨t2, a1, b1⟩ := kk r u t T'.heap (locs ++ L) e1.symm (by rw [← e2]; exact X'.warmed.alike) hp hb k1 k2 k3 T' rfl X'
    exact ⟨t2, st t2 a1, b1⟩
  · obtain ⟨k1, k2, k3⟩ := vx_keep h0 e1 hS hAX hf hL hF
    obtain ⟨t2, a1, b1⟩ := kx E ce q u t T'.heap (locs ++ L) e1.symm (by rw [← e2]; exact X'.warmed.alike) hp hb k1 k2 k3 (by rw [e1]; exact hce) hcv hcl T' rfl X'
    exact ⟨t2, st.trans a1, b1⟩
theorem vx_callv {S SX : Type} {post : S → Prop} {px : SX → Prop} {B : S → State → Prop} {BX : String → SX → State → Prop} {AX : Nat → Prop} (hr : vx_Run p l e R s m args below meth c H locs cells slots mc ms (F0 m pc ls st0) rest (va_Qv post B A1 a) (vx_X px BX AX) free) (hS : va_S A0 H0 H locs) (hA : ∀ q, q < H.size → A1 q → A0 q) (hf : ∀ q, free q → A0 q) (hAX : ∀ q, q < H.size → AX q → A0 q)
    (kx : ∀ (E : String) (ce : Cell) (q9 : Addr) (u : SX) (t : State) (H1 : Heap) (locs1 : List Loc), t.heap = H1 → s.vm.Alike t.vm → px u → BX E u t → H.size ≤ H1.size → (∀ q : Nat, q < H.size → ¬ AX q → H1[q]? = H[q]?) → va_S A0 H0 H1 locs1 → H1[q9]? = some ce → ce.vm = .none → s.vm.findClass E = some ce.cls → vx_W p l e R s m args below meth c H1 locs1 (cells + mc) (slots + ms) Q (F0 m pc ls rest) q9)
    (kk : ∀ (u : S) (t : State) (H1 : Heap) (locs1 : List Loc), t.heap = H1 → s.vm.Alike t.vm → post u → B u t → H.size ≤ H1.size → (∀ q : Nat, q < H.size → ¬ A1 q → H1[q]? = H[q]?) → va_S A0 H0 H1 locs1 → W p l e R s m args below meth c H1 locs1 (cells + mc) (slots + ms) Q (F0 m (pc + 3) ls (rest))) : W p l e R s m args below meth c H locs cells slots Q (F0 m pc ls st0) := by
  intro T hT X
  rcases hr T hT X with ⟨v, st₀, t, T', L, h0, X', hL, e1, e2, ⟨⟨u, hv, hp, hb⟩, hF⟩, st⟩ | ⟨q, st₀, t, T', L, E, ce, h0, X', hL, e1, e2, ⟨u, hp, hb, hF⟩, hce, hcv, hcl, st⟩
  · cases hv
    obtain ⟨k1, k2, k3⟩ := vx_keep h0 e1 hS hA hf hL hF
    obtain ⟨t2, a1, b1⟩ := kk u t T'.heap (locs ++ L) e1.symm (by rw [← e2]; exact X'.warmed.alike) hp hb k1 k2 k3 T' rfl X'
    exact ⟨t2, st t2 a1, b1⟩
  · obtain ⟨k1, k2, k3⟩ := vx_keep h0 e1 hS hAX hf hL hF
    obtain ⟨t2, a1, b1⟩ := kx E ce q u t T'.heap (locs ++ L) e1.symm (by rw [← e2]; exact X'.warmed.alike) hp hb k1 k2 k3 (by rw [e1]; exact hce) hcv hcl T' rfl X'
    exact ⟨t2, st.trans a1, b1⟩
/-- caught by the row x of this method's table; the rows ahead don't take it -/
theorem vx_catch {own name : String} {E : String} {ce : Cell} {q : Addr} (hown : s.vm.findClass own = some m.cls) (pre : List ExceptionTableEntry) (x : ExceptionTableEntry) (suf : List ExceptionTableEntry) (hsplit : c.exceptionTable.toList = pre ++ x :: suf)
    (hpass : ∀ z ∈ pre, covers z pc = false ∨ (z.catchType ≠ 0 ∧ ∃ nm : String, (Cond.classLink own z.catchType nm).before args s = true ∧ va_Nc E nm s)) (hx : covers x pc = true) (h0 : x.catchType ≠ 0)
    (hlink : (Cond.classLink own x.catchType name).before args s = true) (hcast : (Cond.castable E name).before args s = true) (hcell : H[q]? = some ce) (hv : ce.vm = .none) (hcl : s.vm.findClass E = some ce.cls)
    (kk : W p l e R s m args below meth c H locs cells slots Q (F0 m x.handlerPc ls [.ref q])) : vx_W p l e R s m args below meth c H locs cells slots Q (F0 m pc ls rest) q := by
  intro T hT X
  have hpl : e.platform.magicAccessors = ({} : Platform).magicAccessors := by rw [X.admits.platform]
  obtain ⟨c3, c4, hc3, hc4, hasg⟩ := Cond.castable_spec hcast
  cases Option.some.inj (hc3.symm.trans hcl)
  obtain ⟨c5, hc5, hcl5⟩ := Cond.classLink_spec hown hlink e.platform hpl
  cases Option.some.inj (hc4.symm.trans hc5)
  obtain ⟨vm', X', st⟩ := X.thenCaughtThrough q (g := F0 m pc ls rest) rfl (Steps.refl _) (by rw [hT]; exact hcell) (by rw [hv]; rfl) (by obtain ⟨k9, h9, -⟩ := Vm.findClass_spec hcl; exact ⟨k9, h9⟩) pre x suf hsplit
    (fun z hz => by
      rcases hpass z hz with h | ⟨hz0, nm, hl1, hn1⟩
      · exact Or.inl h
      · obtain ⟨c6, hc6, hcl6⟩ := Cond.classLink_spec hown hl1 e.platform hpl
        obtain ⟨a8, b8, h1, h2, h3⟩ := hn1
        cases Option.some.inj (h1.symm.trans hcl)
        cases Option.some.inj (h2.symm.trans hc6)
        exact Or.inr ⟨hz0, _, hcl6, h3⟩) hx (Or.inr ⟨h0, c4, hcl5, hasg⟩)
  obtain ⟨t, a1, b1⟩ := kk (T.setVm vm') hT X'
  exact ⟨t, st.trans a1, b1⟩
end Rows
section Ends
variable {p : Program} {l : Launch} {e : Env} {R : Room} {s : State} {m : MethodId} {args : Array Value} {below : List Frame} {meth : Method} {c : Code} {H : Heap} {locs : List Loc} {cells slots : Nat} {Q : State → Prop}
variable {mc ms : Nat} {free : Addr → Prop} {A0 A1 : Nat → Prop} {H0 : Heap} {a : Array Value} {ls : Array Slot} {st0 rest : List Value}
variable {Qc : Array Value → State → Outcome → State → Prop} {XC : String → State → State → Prop}
/-- what a body that may throw owes at its end -/
def vx_MQ (below : List Frame) (Qc : Array Value → State → Outcome → State → Prop) (XC : String → State → State → Prop) (a : Array Value) (s : State) (mc ms : Nat) (free : Addr → Prop) : State → Prop := fun t =>
  ∃ o, t.status = .running ∧ Ended t below o ∧ vx_Q Qc XC mc ms free a s o t
theorem vx_ret {g : JFrame} {mc ms : Nat} (k : W p l e R s m args below meth c H locs cells slots (MQ below Qc args s mc ms free) g) : W p l e R s m args below meth c H locs cells slots (vx_MQ below Qc XC args s mc ms free) g := by
  intro T hT X
  obtain ⟨t, a1, o, b1, b2, b3, b4⟩ := k T hT X
  exact ⟨t, a1, o, b1, b2, Or.inl ⟨b3, b4⟩⟩
/-- not caught here: it goes on to the caller -/
theorem vx_widen {g : JFrame} {q : Addr} {k n : Nat} (h1 : cells ≤ k) (h2 : slots ≤ n) (kk : vx_W p l e R s m args below meth c H locs k n Q g q) : vx_W p l e R s m args below meth c H locs cells slots Q g q := fun T hT X => kk T hT (stand_widen X h1 h2)
theorem vx_out {pc : Nat} {E : String} {ce : Cell} {q : Addr} {mc ms : Nat} (hout : ∀ x ∈ c.exceptionTable.toList, covers x pc = false) (hlocks : meth.locks = false) (hcell : H[q]? = some ce) (hv : ce.vm = .none) (hcl : s.vm.findClass E = some ce.cls)
    (hx : ∀ t : State, t.heap = H → s.vm.Alike t.vm → XC E s t) (hf : ∀ z ∈ locs, free z.base) (hc : cells ≤ mc) (hs : slots ≤ ms) :
    vx_W p l e R s m args below meth c H locs cells slots (vx_MQ below Qc XC args s mc ms free) (F0 m pc ls rest) q := by
  intro T hT X
  obtain ⟨st1, hrun, hend, hW, hsm⟩ := X.leaveThrown q (g := F0 m pc ls rest) rfl rfl rfl hout hlocks
  have hcell9 : (T.setFrames (.throwing q :: below)).heap[q]? = some ce := by
    show T.heap[q]? = some ce
    rw [hT]; exact hcell
  exact ⟨_, st1, .threw q, hrun, hend, Or.inr ⟨q, rfl, E, ce, locs, hx _ hT hW.alike, hcell9, hv, hcl, hW, hsm.mono hc hs, hf⟩⟩
theorem vx_frame {U : State} {k n : Nat} (h : s.sameButNew ({ U with vm := s.vm } : State) locs k n) : s.heap.size ≤ U.heap.size ∧ ∀ q : Nat, q < s.heap.size → (∀ z ∈ locs, z.base ≠ q) → U.heap[q]? = s.heap[q]? := by
  obtain ⟨-, h2, -, -, -, h6⟩ := h
  refine ⟨h2, fun q hq hz => ?_⟩
  obtain ⟨c9, e1, e2, e3, e4⟩ := h6 q _ (Array.getElem?_eq_getElem hq)
  have hs : c9.slots = (s.heap[q]).slots := Array.ext_getElem? fun i => e4 i fun hm => hz _ hm rfl
  have h9 : c9 = s.heap[q] := by
    rw [hs] at e2
    exact e2
  have e5 : U.heap[q]? = some c9 := e1
  rw [e5, h9, Array.getElem?_eq_getElem hq]
/-- the words of a throw but the four that speak of the heap -/
def vx_no (w : Cond) : Bool := decide (w ≠ .isRef (.static Bundle.tN "UNASSIGNED_STACK" Bundle.steD)) && decide (w ≠ .isRef (.static Bundle.tN "SUPPRESSED_SENTINEL" Bundle.listD)) && decide (w ≠ .laysStatic Bundle.tN "UNASSIGNED_STACK" Bundle.steD) && decide (w ≠ .laysStatic Bundle.tN "SUPPRESSED_SENTINEL" Bundle.listD)
def vx_at0 (own : String) (ic : Nat) (X : String) (names : List String) : List Cond := (Bundle.ownAtoms0 own ic X names).filter vx_no
def vx_atS (own : String) (ic : Nat) (X : String) (names : List String) : List Cond := (Bundle.ownAtoms own ic X names).filter vx_no
/-- a word that the tables alone decide, or a good one -/
def vx_ot (w : Cond) : Bool := w.onTables || goodWord w
theorem vx_ot_at {args a' : Array Value} {s U : State} {w : Cond} (hW : s.WarmedH U.vm) (hvm : s.vm = U.vm) (hg : vx_ot w = true) (h : w.before args s = true) : w.before a' U = true := by
  simp only [vx_ot, Bool.or_eq_true] at hg
  rcases hg with hg | hg
  · exact va_tabs hg hvm h
  · exact word_at hW (good_of_word hg) h
/-- a list's words: the good ones out of the method's own list, the others by premises of their own -/
theorem vx_hat {args : Array Value} {s : State} {L B : List Cond} (h1 : ∀ w ∈ L.filter goodWord, w.before args s = true) (h2 : ∀ w ∈ L.filter (fun w => !goodWord w), w ∈ B) (h3 : ∀ w ∈ B, w.before args s = true) : ∀ w ∈ L, w.before args s = true := by
  intro w hw
  by_cases g : goodWord w = true
  · exact h1 w (List.mem_filter.mpr ⟨hw, g⟩)
  · refine h3 w (h2 w (List.mem_filter.mpr ⟨hw, ?_⟩))
    show (!goodWord w) = true
    cases hgw : goodWord w
    · rfl
    · exact absurd hgw g
theorem vx_c {args : Array Value} {s : State} {w : Cond} {B : List Cond} (h : w.before args s = true) (t : ∀ w ∈ B, w.before args s = true) : ∀ w' ∈ w :: B, w'.before args s = true := fun w' h' => (List.mem_cons.mp h').elim (fun e => by rw [e]; exact h) (t w')
theorem vx_n {args : Array Value} {s : State} : ∀ w ∈ ([] : List Cond), w.before args s = true := fun _ h => nomatch h
theorem vx_own {args : Array Value} {s : State} {L : List Cond} (h1 : ∀ w ∈ L.filter vx_no, w.before args s = true)
    (hU : (Cond.isRef (.static Bundle.tN "UNASSIGNED_STACK" Bundle.steD)).before args s = true) (hN : (Cond.isRef (.static Bundle.tN "SUPPRESSED_SENTINEL" Bundle.listD)).before args s = true)
    (lU : (Cond.laysStatic Bundle.tN "UNASSIGNED_STACK" Bundle.steD).before args s = true) (lN : (Cond.laysStatic Bundle.tN "SUPPRESSED_SENTINEL" Bundle.listD).before args s = true) : ∀ w ∈ L, w.before args s = true := by
  intro w hw
  by_cases e1 : w = .isRef (.static Bundle.tN "UNASSIGNED_STACK" Bundle.steD)
  · rw [e1]; exact hU
  · by_cases e2 : w = .isRef (.static Bundle.tN "SUPPRESSED_SENTINEL" Bundle.listD)
    · rw [e2]; exact hN
    · by_cases e3 : w = .laysStatic Bundle.tN "UNASSIGNED_STACK" Bundle.steD
      · rw [e3]; exact lU
      · by_cases e4 : w = .laysStatic Bundle.tN "SUPPRESSED_SENTINEL" Bundle.listD
        · rw [e4]; exact lN
        · exact h1 w (List.mem_filter.mpr ⟨hw, by unfold vx_no; rw [decide_eq_true e1, decide_eq_true e2, decide_eq_true e3, decide_eq_true e4]; rfl⟩)
/-- where a static field lies, its class's statics cell in H -/
def vx_L (C n d : String) (A : Nat → Prop) (U : State) (H : Heap) : Prop := ∃ (c : ClassId) (k : Class) (i : Nat) (f : Field) (a : Nat) (cell : Cell), U.vm.findClass C = some c ∧ U.fieldFound? C n d = some (c, k, i, f) ∧ f.isStatic = true ∧ k.statics = some a ∧ H[a]? = some cell ∧ cell.vm.isStatics = true ∧ cell.cls = c ∧ f.slot < cell.slots.size ∧ k.staticTypes[f.slot]? = some f.type ∧ ¬ A a
theorem vx_L.moved {C n d : String} {A : Nat → Prop} {u U : State} {H : Heap} (hvm : u.vm.Alike U.vm) (h : vx_L C n d A u H) : vx_L C n d A U H := by
  obtain ⟨c, k, i, f, a, cell, h1, h2, h3, h4, h5, h6, h7, h8, h9, h10⟩ := h
  obtain ⟨k', hi', he⟩ := State.fieldFound?_setVm hvm h2
  exact ⟨c, k', i, f, a, cell, by rw [hvm.findClass]; exact h1, hi', h3, by rw [he]; exact h4, h5, h6, h7, h8, by rw [he]; exact h9, h10⟩
theorem vx_L.kept {C n d : String} {A : Nat → Prop} {U : State} {H H1 : Heap} (h : vx_L C n d A U H) (hq : ∀ a : Nat, a < H.size → ¬ A a → H1[a]? = H[a]?) : vx_L C n d A U H1 := by
  obtain ⟨c, k, i, f, a, cell, h1, h2, h3, h4, h5, h6, h7, h8, h9, h10⟩ := h
  exact ⟨c, k, i, f, a, cell, h1, h2, h3, h4, by rw [hq a (Array.getElem?_eq_some_iff.mp h5).1 h10]; exact h5, h6, h7, h8, h9, h10⟩
theorem vx_L.narrow {C n d : String} {A B : Nat → Prop} {U : State} {H : Heap} (h : vx_L C n d A U H) (hAB : ∀ q, B q → A q) : vx_L C n d B U H := by
  obtain ⟨c, k, i, f, a, cell, h1, h2, h3, h4, h5, h6, h7, h8, h9, h10⟩ := h
  exact ⟨c, k, i, f, a, cell, h1, h2, h3, h4, h5, h6, h7, h8, h9, fun z => h10 (hAB _ z)⟩
theorem vx_L.word {C n d : String} {A : Nat → Prop} {s : State} {args : Array Value} (h : vx_L C n d A s s.heap) : (Cond.laysStatic C n d).before args s = true := by
  obtain ⟨c, k, i, f, a, cell, h1, h2, h3, h4, h5, h6, h7, h8, h9, -⟩ := h
  show (Cond.laysStatic C n d).holds args s none s [] = true
  exact Cond.laysStatic_of h1 h2 h3 h4 h5 h6 h7 h8 h9
/-- .. and what it holds: null or some reference -/
def vx_Zq (C n d : String) (A : Nat → Prop) (U : State) (H : Heap) : Prop := va_Zq C n d A U H ∧ vx_L C n d A U H
theorem vx_Zq.moved {C n d : String} {A : Nat → Prop} {u U : State} {H : Heap} (hvm : u.vm.Alike U.vm) (h : vx_Zq C n d A u H) : vx_Zq C n d A U H := ⟨va_Zq.moved hvm h.1, vx_L.moved hvm h.2⟩
theorem vx_Zq.kept {C n d : String} {A : Nat → Prop} {U : State} {H H1 : Heap} (h : vx_Zq C n d A U H) (hq : ∀ a : Nat, a < H.size → ¬ A a → H1[a]? = H[a]?) : vx_Zq C n d A U H1 := ⟨va_Zq.kept h.1 hq, vx_L.kept h.2 hq⟩
theorem vx_Zq.narrow {C n d : String} {A B : Nat → Prop} {U : State} {H : Heap} (h : vx_Zq C n d A U H) (hAB : ∀ q, B q → A q) : vx_Zq C n d B U H := ⟨va_Zq.narrow h.1 hAB, vx_L.narrow h.2 hAB⟩
theorem vx_Zqof {args : Array Value} {s : State} {C n d : String} {A : Nat → Prop} (hl : (Cond.laysStatic C n d).before args s = true) (hini : (Cond.initialized C).before args s = true) (h : (Cond.isRef (.static C n d)).before args s = true) (hA : ∀ a : Nat, a < s.heap.size → ¬ A a) : vx_Zq C n d A s s.heap := by
  refine ⟨va_Zqof hl hini h hA, ?_⟩
  obtain ⟨c, k, i, f, a, cell, h1, h2, h3, h4, h5, h6, h7, h8, h9⟩ := Cond.laysStatic_spec hl
  exact ⟨c, k, i, f, a, cell, h1, h2, h3, h4, h5, h6, h7, h8, h9, hA a (Array.getElem?_eq_some_iff.mp h5).1⟩
theorem vx_isRef {C n d : String} {v : Value} {A : Nat → Prop} {s : State} {args : Array Value} (h : va_Z C n d v A s s.heap) (hv : v.isRef = true) : (Cond.isRef (.static C n d)).before args s = true := by
  obtain ⟨cf, kf, fi, f, a, cell, h1, h2, h3, h4, h5, h6, h7, -⟩ := h
  have he : (Term.static C n d).eval args s none [] s = some v := by
    simp [Term.eval, State.fieldNamed?, h1, h2, h4, h5, h6, h7]
  simp only [Cond.before, Cond.holds, Cond.value, he]
  cases v <;> simp_all [Value.isRef]
theorem vx_isRefq {C n d : String} {A : Nat → Prop} {s : State} {args : Array Value} (h : va_Zq C n d A s s.heap) : (Cond.isRef (.static C n d)).before args s = true := by
  rcases h with h | ⟨t, h⟩
  · exact vx_isRef h rfl
  · exact vx_isRef h rfl
/-- the same frame, seen from here: as if the method were called anew in this heap -/
theorem vx_rebase {T : State} (X : Stand p l e R s m args below meth c T locs cells slots) {R' : Room} (hf : R'.frames ≤ R.frames) (hl : R'.locals ≤ R.locals) (hc : cells + R'.cells ≤ R.cells) (hs : slots + R'.slots ≤ R.slots) :
    Stand p l e R' ((T.setVm s.vm).setFrames (.invoking m args :: below)) m args below meth c T [] 0 0 := by
  have htop : (T.setVm s.vm).topJava?.isSome := X.here.top
  have hF : ((T.setVm s.vm).setFrames (.invoking m args :: below)).frames = .invoking m args :: below := State.frames_setFrames _ (State.cur_lt_of_top htop)
  obtain ⟨g₀, hg0⟩ := Option.isSome_iff_exists.mp htop
  obtain ⟨r, hr⟩ := State.topJava?_eq_some.mp hg0
  have hl9 : e.platform.stackLimits (T.setVm s.vm).me = e.platform.stackLimits s.me := X.limits
  have hb9 : (T.setVm s.vm).me.stackBytes = s.me.stackBytes := X.bytes
  refine ⟨X.admits, X.cas, X.clock, hF, ?_, X.hears, X.method, X.code, X.here, X.tail, X.warmed, ?_, ?_, ?_⟩
  · have h := X.room
    have hU : ((T.setVm s.vm).setFrames (.invoking m args :: below)).localsInUse = s.localsInUse := by
      rw [State.localsInUse_invoking hF (meth := meth) (c := c) X.method X.code, State.localsInUse_invoking X.frames X.method X.code]
    simp only [State.hasRoom, Bool.and_eq_true, decide_eq_true_eq] at h ⊢
    obtain ⟨⟨⟨⟨h1, h2, h3, h4, h5, h6⟩, h7⟩, h8⟩, h9⟩ := h
    rw [X.frames, List.length_cons] at h2 h3
    have q1 := X.heapSize
    have q2 := X.used
    simp only [hF, hU, List.length_cons, State.stackLimits_setFrames, State.stackBytes_setFrames, hl9, hb9]
    refine ⟨⟨⟨⟨by omega, by omega, by omega, by omega, by omega, h6⟩, ?_⟩, ?_⟩, X.book⟩
    · show T.heap.size + R'.cells ≤ e.platform.maxCells
      omega
    · show T.slotsUsed + R'.slots ≤ e.platform.maxSlots
      omega
  · rw [State.stackLimits_setFrames]; rfl
  · rw [State.stackBytes_setFrames]; rfl
  · refine ⟨?_, Nat.le_refl _, Nat.le_refl _, ?_, ?_, fun a c9 h9 => ⟨c9, h9, rfl, rfl, fun _ _ => rfl⟩⟩
    · obtain ⟨t, ht, -⟩ := State.frames_cons hr
      show T.setVm s.vm = { ((T.setVm s.vm).setFrames (.invoking m args :: below)).setFrames (T.setVm s.vm).frames with heap := T.heap, slotsUsed := T.slotsUsed }
      rw [State.setFrames_setFrames, State.setFrames_self ht]
      rfl
    · show T.slotsUsed = T.slotsUsed + ((T.heap.toList.drop T.heap.size).map (·.slots.size)).sum
      rw [List.drop_eq_nil_of_le (Nat.le_of_eq Array.length_toList)]
      rfl
    · show ((T.heap.toList.drop T.heap.size).map (·.slots.size)).sum ≤ 0
      rw [List.drop_eq_nil_of_le (Nat.le_of_eq Array.length_toList)]
      exact Nat.le_refl _
/-- 'throw new E()': new; dup; invokespecial; athrow -/
theorem vx_throw0 {cc : ByteArray} {pc : Nat} (hexec : p.tables.exec = Jvm.exec) (hb : c.code = cc) (hl : l.stackTraces = false) {own cls : String} {names : List String} {ik ic mc ms : Nat} {A : Nat → Prop}
    (hown : s.vm.findClass own = some m.cls) (hcls : Bundle.fit cls = true) (hnames : ∀ n ∈ names, Bundle.fit n = true)
    (hk : (Cond.classLink own ik cls).before args s = true) (hini : (Cond.initialized cls).before args s = true) (hat : ∀ w ∈ vx_at0 own ic cls names, w.before args s = true)
    (hgood : ∀ w ∈ Cond.classLink own ik cls :: Cond.initialized cls :: vx_at0 own ic cls names, vx_ot w = true)
    (hU : vx_Zq Bundle.tN "UNASSIGNED_STACK" Bundle.steD A s s.heap) (hN : vx_Zq Bundle.tN "SUPPRESSED_SENTINEL" Bundle.listD A s s.heap) (hS : va_S A s.heap H locs) (hsize : ls.size = c.maxLocals)
    (d0 : decode cc pc = .ok (.new ik, 3)) (d3 : decode cc (pc + 3) = .ok (.dup, 1)) (d4 : decode cc (pc + 4) = .ok (.invokespecial ic, 3)) (d7 : decode cc (pc + 7) = .ok (.athrow, 1))
    (hout : ∀ x ∈ c.exceptionTable.toList, covers x (pc + 7) = false)
    (hRframes : names.length + 3 < R.frames) (hRlocals : (rest.map fun v => v.category).sum + (13 * (names.length + 1) + 42) ≤ R.locals) (hRcells : cells + 1 ≤ R.cells) (hRslots : slots + 6 ≤ R.slots) (hlocks : meth.locks = false)
    (hx : ∀ t : State, s.vm.Alike t.vm → H.size ≤ t.heap.size → (∀ q : Nat, q < H.size → t.heap[q]? = H[q]?) → XC cls s t)
    (hf : ∀ z ∈ locs, free z.base) (hc : cells + 1 ≤ mc) (hs : slots + 6 ≤ ms) :
    W p l e R s m args below meth c H locs cells slots (vx_MQ below Qc XC args s mc ms free) (F0 m pc ls rest) := by
  intro T hT X
  have htr : e.platform.stackTraces = false := (show e.platform.stackTraces = l.stackTraces by rw [X.admits.platform]).trans hl
  have Y := vx_rebase X (R' := { frames := R.frames, locals := R.locals, cells := 1, slots := 6 }) (Nat.le_refl _) (Nat.le_refl _) hRcells hRslots
  obtain ⟨s', hA⟩ : ∃ z, z = (T.setVm s.vm).setFrames (.invoking m args :: below) := ⟨_, rfl⟩
  rw [← hA] at Y
  have hvm : s'.vm = s.vm := by rw [hA]; rfl
  have hhp : s'.heap = H := by rw [hA]; exact hT
  have hW0 : s.WarmedH s'.vm := by rw [hvm]; exact State.WarmedH.refl s
  have hat' : ∀ w ∈ vx_at0 own ic cls names, w.before args s' = true := fun w hw => vx_ot_at hW0 hvm.symm (hgood w (List.mem_cons_of_mem _ (List.mem_cons_of_mem _ hw))) (hat w hw)
  have hk' : (Cond.classLink own ik cls).before args s' = true := vx_ot_at hW0 hvm.symm (hgood _ List.mem_cons_self) hk
  have hini' : (Cond.initialized cls).before args s' = true := vx_ot_at hW0 hvm.symm (hgood _ (List.mem_cons_of_mem _ List.mem_cons_self)) hini
  have hU' : vx_Zq Bundle.tN "UNASSIGNED_STACK" Bundle.steD A s' s'.heap := by rw [hhp]; exact vx_Zq.moved hW0.alike (hU.kept hS.2.1)
  have hN' : vx_Zq Bundle.tN "SUPPRESSED_SENTINEL" Bundle.listD A s' s'.heap := by rw [hhp]; exact vx_Zq.moved hW0.alike (hN.kept hS.2.1)
  have h : ∀ w ∈ Bundle.ownAtoms0 own ic cls names, w.before args s' = true := vx_own hat' (vx_isRefq hU'.1) (vx_isRefq hN'.1) hU'.2.word hN'.2.word
  have hown' : s'.vm.findClass own = some m.cls := by rw [hvm]; exact hown
  have hins : (Cond.instantiable cls 6).before args s' = true := h _ (by simp [Bundle.ownAtoms0])
  obtain ⟨vm₁, cX, kX, hfX, hkX, -, -, X₁, st1⟩ := Y.newCold hexec (own := own) (C := cls) (index := ik) (n := 6) hown' hk' hins hini'
    (g := F0 m pc ls rest) rfl (by rw [hb]; exact d0) (Nat.le_refl _) (Nat.le_refl _)
  generalize hT1 : (T.setVm vm₁).pushCell { cls := cX, slots := kX.instanceTypes.map defaultValue, vm := .none } = T1 at X₁ st1
  have hcat : (Value.ref T.heap.size).category = 1 := rfl
  have hcellA : T1.heap[T.heap.size]? = some (freshCell cX kX) := by rw [← hT1]; exact State.heap_pushCell_size _ _
  have d3' : decode c.code (pc + 3) = .ok (.dup, 1) := by rw [hb]; exact d3
  obtain ⟨U, hsteps, hrun, hend, hW, hsame, ce, hce, hO⟩ := X₁.ctorThrow0 hexec htr (own := own) (cls := cls) (names := names) (ic := ic) hown' hcls hnames h (fun x hx => nomatch hx) hfX hkX hcellA (by rw [hhp, hT]; exact Nat.le_refl _)
    (g := { method := m, pc := pc + 4, locals := ls, stack := .ref T.heap.size :: .ref T.heap.size :: rest, locked := none }) rfl hsize rfl rfl (rest := rest) rfl
    (by rw [hb]; exact d4) (by rw [hb]; exact d7) hout hRframes (by simp only [List.map_cons, List.sum_cons, hcat]; omega) hlocks
  obtain ⟨f1, f2⟩ := vx_frame hsame
  rw [hhp] at f1 f2
  have hWs : s.WarmedH U.vm := State.WarmedH.trans hW0 hW
  have hcl : s.vm.findClass cls = some ce.cls := by
    have h9 := hO.cls
    rw [hvm] at h9
    exact h9
  have hall : s.sameButNew ({ U with vm := s.vm } : State) locs mc ms := by
    subst hA
    obtain ⟨e1, e2⟩ := hsame
    rw [State.setFrames_setFrames] at e1
    have h2 : (T.setVm s.vm).sameButNew ({ U with vm := s.vm } : State) [] (0 + 1) (0 + 6) := ⟨e1, e2⟩
    have h3 := X.same.trans h2
    rw [List.append_nil] at h3
    exact h3.mono hc hs
  refine ⟨U, ?_, .threw T.heap.size, hrun, hend, Or.inr ⟨T.heap.size, rfl, cls, ce, locs, hx U hWs.alike f1 (fun q hq => f2 q hq (fun z hz => nomatch hz)), hce, hO.vm, hcl, hWs, hall, hf⟩⟩
  refine st1 _ ?_
  show Steps p.tables e below (T1.setTop { method := m, pc := pc + 3, locals := ls, stack := .ref T.heap.size :: rest, locked := none }) _
  jvm_step X₁.here [X₁.here.top, hexec, d3', Value.category]
  exact hsteps
/-- 'throw new E("text")': new; dup; ldc; invokespecial; athrow -/
theorem vx_throwS {cc : ByteArray} {pc : Nat} (hexec : p.tables.exec = Jvm.exec) (hb : c.code = cc) (hl : l.stackTraces = false) {own cls text : String} {names : List String} {ik is ic mc ms sa : Nat} {A : Nat → Prop}
    (hown : s.vm.findClass own = some m.cls) (hcls : Bundle.fit cls = true) (hnames : ∀ n ∈ names, Bundle.fit n = true)
    (hk : (Cond.classLink own ik cls).before args s = true) (hini : (Cond.initialized cls).before args s = true) (hstr : vk_R own is text sa s) (hat : ∀ w ∈ vx_atS own ic cls names, w.before args s = true)
    (hgood : ∀ w ∈ Cond.classLink own ik cls :: Cond.initialized cls :: vx_atS own ic cls names, vx_ot w = true)
    (hU : vx_Zq Bundle.tN "UNASSIGNED_STACK" Bundle.steD A s s.heap) (hN : vx_Zq Bundle.tN "SUPPRESSED_SENTINEL" Bundle.listD A s s.heap) (hS : va_S A s.heap H locs) (hsize : ls.size = c.maxLocals)
    (d0 : decode cc pc = .ok (.new ik, 3)) (d3 : decode cc (pc + 3) = .ok (.dup, 1)) (d4 : decode cc (pc + 4) = .ok (.ldc is, 2)) (d6 : decode cc (pc + 6) = .ok (.invokespecial ic, 3)) (d9 : decode cc (pc + 9) = .ok (.athrow, 1))
    (hout : ∀ x ∈ c.exceptionTable.toList, covers x (pc + 9) = false)
    (hRframes : names.length + 3 < R.frames) (hRlocals : (rest.map fun v => v.category).sum + (13 * (names.length + 1) + 43) ≤ R.locals) (hRcells : cells + 1 ≤ R.cells) (hRslots : slots + 6 ≤ R.slots) (hlocks : meth.locks = false)
    (hx : ∀ t : State, s.vm.Alike t.vm → H.size ≤ t.heap.size → (∀ q : Nat, q < H.size → t.heap[q]? = H[q]?) → XC cls s t)
    (hf : ∀ z ∈ locs, free z.base) (hc : cells + 1 ≤ mc) (hs : slots + 6 ≤ ms) :
    W p l e R s m args below meth c H locs cells slots (vx_MQ below Qc XC args s mc ms free) (F0 m pc ls rest) := by
  intro T hT X
  have htr : e.platform.stackTraces = false := (show e.platform.stackTraces = l.stackTraces by rw [X.admits.platform]).trans hl
  have Y := vx_rebase X (R' := { frames := R.frames, locals := R.locals, cells := 1, slots := 6 }) (Nat.le_refl _) (Nat.le_refl _) hRcells hRslots
  obtain ⟨s', hA⟩ : ∃ z, z = (T.setVm s.vm).setFrames (.invoking m args :: below) := ⟨_, rfl⟩
  rw [← hA] at Y
  have hvm : s'.vm = s.vm := by rw [hA]; rfl
  have hhp : s'.heap = H := by rw [hA]; exact hT
  have hW0 : s.WarmedH s'.vm := by rw [hvm]; exact State.WarmedH.refl s
  have hat' : ∀ w ∈ vx_atS own ic cls names, w.before args s' = true := fun w hw => vx_ot_at hW0 hvm.symm (hgood w (List.mem_cons_of_mem _ (List.mem_cons_of_mem _ hw))) (hat w hw)
  have hk' : (Cond.classLink own ik cls).before args s' = true := vx_ot_at hW0 hvm.symm (hgood _ List.mem_cons_self) hk
  have hini' : (Cond.initialized cls).before args s' = true := vx_ot_at hW0 hvm.symm (hgood _ (List.mem_cons_of_mem _ List.mem_cons_self)) hini
  have hU' : vx_Zq Bundle.tN "UNASSIGNED_STACK" Bundle.steD A s' s'.heap := by rw [hhp]; exact vx_Zq.moved hW0.alike (hU.kept hS.2.1)
  have hN' : vx_Zq Bundle.tN "SUPPRESSED_SENTINEL" Bundle.listD A s' s'.heap := by rw [hhp]; exact vx_Zq.moved hW0.alike (hN.kept hS.2.1)
  have h : ∀ w ∈ Bundle.ownAtoms own ic cls names, w.before args s' = true := vx_own hat' (vx_isRefq hU'.1) (vx_isRefq hN'.1) hU'.2.word hN'.2.word
  have hown' : s'.vm.findClass own = some m.cls := by rw [hvm]; exact hown
  have hins : (Cond.instantiable cls 6).before args s' = true := h _ (by simp [Bundle.ownAtoms])
  obtain ⟨vm₁, cX, kX, hfX, hkX, -, -, X₁, st1⟩ := Y.newCold hexec (own := own) (C := cls) (index := ik) (n := 6) hown' hk' hins hini'
    (g := F0 m pc ls rest) rfl (by rw [hb]; exact d0) (Nat.le_refl _) (Nat.le_refl _)
  generalize hT1 : (T.setVm vm₁).pushCell { cls := cX, slots := kX.instanceTypes.map defaultValue, vm := .none } = T1 at X₁ st1
  have hcat : (Value.ref T.heap.size).category = 1 := rfl
  have hcellA : T1.heap[T.heap.size]? = some (freshCell cX kX) := by rw [← hT1]; exact State.heap_pushCell_size _ _
  have d3' : decode c.code (pc + 3) = .ok (.dup, 1) := by rw [hb]; exact d3
  have d4' : decode c.code (pc + 4) = .ok (.ldc is, 2) := by rw [hb]; exact d4
  have hstr' : vk_R own is text sa s' := vk_R.warm hW0 hstr
  obtain ⟨U, hsteps, hrun, hend, hW, hsame, ce, hce, hO⟩ := X₁.ctorThrowS hexec htr (own := own) (cls := cls) (names := names) (ic := ic) hown' hcls hnames h (fun x hx => nomatch hx) hfX hkX hcellA (by rw [hhp, hT]; exact Nat.le_refl _) (msg := .ref sa) rfl
    (g := { method := m, pc := pc + 6, locals := ls, stack := .ref sa :: .ref T.heap.size :: .ref T.heap.size :: rest, locked := none }) rfl hsize rfl rfl (rest := rest) rfl
    (by rw [hb]; exact d6) (by rw [hb]; exact d9) hout hRframes (by simp only [List.map_cons, List.sum_cons, hcat]; omega) hlocks
  obtain ⟨f1, f2⟩ := vx_frame hsame
  rw [hhp] at f1 f2
  have hWs : s.WarmedH U.vm := State.WarmedH.trans hW0 hW
  have hcl : s.vm.findClass cls = some ce.cls := by
    have h9 := hO.cls
    rw [hvm] at h9
    exact h9
  have hall : s.sameButNew ({ U with vm := s.vm } : State) locs mc ms := by
    subst hA
    obtain ⟨e1, e2⟩ := hsame
    rw [State.setFrames_setFrames] at e1
    have h2 : (T.setVm s.vm).sameButNew ({ U with vm := s.vm } : State) [] (0 + 1) (0 + 6) := ⟨e1, e2⟩
    have h3 := X.same.trans h2
    rw [List.append_nil] at h3
    exact h3.mono hc hs
  refine ⟨U, ?_, .threw T.heap.size, hrun, hend, Or.inr ⟨T.heap.size, rfl, cls, ce, locs, hx U hWs.alike f1 (fun q hq => f2 q hq (fun z hz => nomatch hz)), hce, hO.vm, hcl, hWs, hall, hf⟩⟩
  refine st1 _ ?_
  show Steps p.tables e below (T1.setTop { method := m, pc := pc + 3, locals := ls, stack := .ref T.heap.size :: rest, locked := none }) _
  jvm_step X₁.here [X₁.here.top, hexec, d3', Value.category]
  exact X₁.ldcString hexec (own := own) (text := text) (index := is) (a := sa) hown' hstr'.1 hstr'.2
    (g := { method := m, pc := pc + 4, locals := ls, stack := .ref T.heap.size :: .ref T.heap.size :: rest, locked := none }) rfl d4' _ hsteps
/-- 'throw new E("text")', the text by a wide index -/
theorem vx_throwSW {cc : ByteArray} {pc : Nat} (hexec : p.tables.exec = Jvm.exec) (hb : c.code = cc) (hl : l.stackTraces = false) {own cls text : String} {names : List String} {ik is ic mc ms sa : Nat} {A : Nat → Prop}
    (hown : s.vm.findClass own = some m.cls) (hcls : Bundle.fit cls = true) (hnames : ∀ n ∈ names, Bundle.fit n = true)
    (hk : (Cond.classLink own ik cls).before args s = true) (hini : (Cond.initialized cls).before args s = true) (hstr : vk_R own is text sa s) (hat : ∀ w ∈ vx_atS own ic cls names, w.before args s = true)
    (hgood : ∀ w ∈ Cond.classLink own ik cls :: Cond.initialized cls :: vx_atS own ic cls names, vx_ot w = true)
    (hU : vx_Zq Bundle.tN "UNASSIGNED_STACK" Bundle.steD A s s.heap) (hN : vx_Zq Bundle.tN "SUPPRESSED_SENTINEL" Bundle.listD A s s.heap) (hS : va_S A s.heap H locs) (hsize : ls.size = c.maxLocals)
    (d0 : decode cc pc = .ok (.new ik, 3)) (d3 : decode cc (pc + 3) = .ok (.dup, 1)) (d4 : decode cc (pc + 4) = .ok (.ldc_w is, 3)) (d7 : decode cc (pc + 7) = .ok (.invokespecial ic, 3)) (d10 : decode cc (pc + 10) = .ok (.athrow, 1))
    (hout : ∀ x ∈ c.exceptionTable.toList, covers x (pc + 10) = false)
    (hRframes : names.length + 3 < R.frames) (hRlocals : (rest.map fun v => v.category).sum + (13 * (names.length + 1) + 43) ≤ R.locals) (hRcells : cells + 1 ≤ R.cells) (hRslots : slots + 6 ≤ R.slots) (hlocks : meth.locks = false)
    (hx : ∀ t : State, s.vm.Alike t.vm → H.size ≤ t.heap.size → (∀ q : Nat, q < H.size → t.heap[q]? = H[q]?) → XC cls s t)
    (hf : ∀ z ∈ locs, free z.base) (hc : cells + 1 ≤ mc) (hs : slots + 6 ≤ ms) :
    W p l e R s m args below meth c H locs cells slots (vx_MQ below Qc XC args s mc ms free) (F0 m pc ls rest) := by
  intro T hT X
  have htr : e.platform.stackTraces = false := (show e.platform.stackTraces = l.stackTraces by rw [X.admits.platform]).trans hl
  have Y := vx_rebase X (R' := { frames := R.frames, locals := R.locals, cells := 1, slots := 6 }) (Nat.le_refl _) (Nat.le_refl _) hRcells hRslots
  obtain ⟨s', hA⟩ : ∃ z, z = (T.setVm s.vm).setFrames (.invoking m args :: below) := ⟨_, rfl⟩
  rw [← hA] at Y
  have hvm : s'.vm = s.vm := by rw [hA]; rfl
  have hhp : s'.heap = H := by rw [hA]; exact hT
  have hW0 : s.WarmedH s'.vm := by rw [hvm]; exact State.WarmedH.refl s
  have hat' : ∀ w ∈ vx_atS own ic cls names, w.before args s' = true := fun w hw => vx_ot_at hW0 hvm.symm (hgood w (List.mem_cons_of_mem _ (List.mem_cons_of_mem _ hw))) (hat w hw)
  have hk' : (Cond.classLink own ik cls).before args s' = true := vx_ot_at hW0 hvm.symm (hgood _ List.mem_cons_self) hk
  have hini' : (Cond.initialized cls).before args s' = true := vx_ot_at hW0 hvm.symm (hgood _ (List.mem_cons_of_mem _ List.mem_cons_self)) hini
  have hU' : vx_Zq Bundle.tN "UNASSIGNED_STACK" Bundle.steD A s' s'.heap := by rw [hhp]; exact vx_Zq.moved hW0.alike (hU.kept hS.2.1)
  have hN' : vx_Zq Bundle.tN "SUPPRESSED_SENTINEL" Bundle.listD A s' s'.heap := by rw [hhp]; exact vx_Zq.moved hW0.alike (hN.kept hS.2.1)
  have h : ∀ w ∈ Bundle.ownAtoms own ic cls names, w.before args s' = true := vx_own hat' (vx_isRefq hU'.1) (vx_isRefq hN'.1) hU'.2.word hN'.2.word
  have hown' : s'.vm.findClass own = some m.cls := by rw [hvm]; exact hown
  have hins : (Cond.instantiable cls 6).before args s' = true := h _ (by simp [Bundle.ownAtoms])
  obtain ⟨vm₁, cX, kX, hfX, hkX, -, -, X₁, st1⟩ := Y.newCold hexec (own := own) (C := cls) (index := ik) (n := 6) hown' hk' hins hini'
    (g := F0 m pc ls rest) rfl (by rw [hb]; exact d0) (Nat.le_refl _) (Nat.le_refl _)
  generalize hT1 : (T.setVm vm₁).pushCell { cls := cX, slots := kX.instanceTypes.map defaultValue, vm := .none } = T1 at X₁ st1
  have hcat : (Value.ref T.heap.size).category = 1 := rfl
  have hcellA : T1.heap[T.heap.size]? = some (freshCell cX kX) := by rw [← hT1]; exact State.heap_pushCell_size _ _
  have d3' : decode c.code (pc + 3) = .ok (.dup, 1) := by rw [hb]; exact d3
  have d4' : decode c.code (pc + 4) = .ok (.ldc_w is, 3) := by rw [hb]; exact d4
  have hstr' : vk_R own is text sa s' := vk_R.warm hW0 hstr
  obtain ⟨U, hsteps, hrun, hend, hW, hsame, ce, hce, hO⟩ := X₁.ctorThrowS hexec htr (own := own) (cls := cls) (names := names) (ic := ic) hown' hcls hnames h (fun x hx => nomatch hx) hfX hkX hcellA (by rw [hhp, hT]; exact Nat.le_refl _) (msg := .ref sa) rfl
    (g := { method := m, pc := pc + 7, locals := ls, stack := .ref sa :: .ref T.heap.size :: .ref T.heap.size :: rest, locked := none }) rfl hsize rfl rfl (rest := rest) rfl
    (by rw [hb]; exact d7) (by rw [hb]; exact d10) hout hRframes (by simp only [List.map_cons, List.sum_cons, hcat]; omega) hlocks
  obtain ⟨f1, f2⟩ := vx_frame hsame
  rw [hhp] at f1 f2
  have hWs : s.WarmedH U.vm := State.WarmedH.trans hW0 hW
  have hcl : s.vm.findClass cls = some ce.cls := by
    have h9 := hO.cls
    rw [hvm] at h9
    exact h9
  have hall : s.sameButNew ({ U with vm := s.vm } : State) locs mc ms := by
    subst hA
    obtain ⟨e1, e2⟩ := hsame
    rw [State.setFrames_setFrames] at e1
    have h2 : (T.setVm s.vm).sameButNew ({ U with vm := s.vm } : State) [] (0 + 1) (0 + 6) := ⟨e1, e2⟩
    have h3 := X.same.trans h2
    rw [List.append_nil] at h3
    exact h3.mono hc hs
  refine ⟨U, ?_, .threw T.heap.size, hrun, hend, Or.inr ⟨T.heap.size, rfl, cls, ce, locs, hx U hWs.alike f1 (fun q hq => f2 q hq (fun z hz => nomatch hz)), hce, hO.vm, hcl, hWs, hall, hf⟩⟩
  refine st1 _ ?_
  show Steps p.tables e below (T1.setTop { method := m, pc := pc + 3, locals := ls, stack := .ref T.heap.size :: rest, locked := none }) _
  jvm_step X₁.here [X₁.here.top, hexec, d3', Value.category]
  exact X₁.ldcStringW hexec (own := own) (text := text) (index := is) (a := sa) hown' hstr'.1 hstr'.2
    (g := { method := m, pc := pc + 4, locals := ls, stack := .ref T.heap.size :: .ref T.heap.size :: rest, locked := none }) rfl d4' _ hsteps
end Ends
section Bodies
variable {l : Launch}
theorem vx_ofW {y : MethodName} {ws ws' : List Cond} {rm : Room} {Pc : Array Value → State → Prop} {Qc : Array Value → State → Outcome → State → Prop} {XC : String → State → State → Prop} {mc ms : Nat} {free : Addr → Prop} {cc : ByteArray} {maxL : Nat} {ret : Option FieldType}
    (hy : plainName y.cls = true) (hw : ws = Cond.code y cc maxL ret :: ws')
    (body : ∀ p e s m args below meth c s₁, BodyLoose p l y (headSpec ws rm) cc maxL ret e s m args below meth c s₁ → c.maxLocals = maxL → (∀ x ∈ c.exceptionTable.toList, False) → Pc args s →
      W p l e (headSpec ws rm).room s m args below meth c s.heap [] 0 0 (vx_MQ below Qc XC args s mc ms free) (entryFrame m args maxL)) : vx_Met l y ws rm Pc Qc XC mc ms free := by
  refine MetFree.of_bodyS (code := cc) (maxLocals := maxL) (ret := ret) hy ?_ ?_
  · intro args s m h hn
    obtain ⟨meth, c, h1, h2, h3, h4, h5, h6, -, -⟩ := Cond.code_spec hn (atoms_spec (ws := ws) h _ (by rw [hw]; exact List.mem_cons_self))
    exact ⟨meth, c, h1, h2, h3, h4, h5, h6⟩
  · intro p e s m args below meth c s₁ B hml hP _
    have hh0 : s₁.heap = s.heap := by rw [B.state]; rfl
    have ht : ∀ x ∈ c.exceptionTable.toList, False := by
      obtain ⟨meth9, c9, h1, h2, -, -, -, -, h7, -⟩ := Cond.code_spec B.named (atoms_spec (ws := ws) B.pre _ (by rw [hw]; exact List.mem_cons_self))
      cases Option.some.inj (h1.symm.trans B.method)
      cases Option.some.inj (h2.symm.trans (Stand.of_body B).code)
      intro x hx
      rw [Array.isEmpty_iff.mp h7] at hx
      cases hx
    obtain ⟨t, a1, o, b1, b2, b3⟩ := body p e s m args below meth c s₁ B hml ht hP s₁ hh0 (Stand.of_body B)
    exact ⟨t, o, a1, b1, b2, b3⟩
/-- the table of a body with handlers -/
theorem vx_table {p : Program} {x y : MethodName} {S : Spec} {cc bytes : ByteArray} {maxL maxL' : Nat} {ret ret' : Option FieldType} {e : Env} {s s₁ : State} {m : MethodId} {args : Array Value} {below : List Frame} {meth : Method} {c : Code} {hh : List (Nat × Nat × Nat × Nat)}
    (B : BodyLoose p l y S cc maxL ret e s m args below meth c s₁) (h : (Cond.codeWith y bytes maxL' ret' hh).before args s = true) : c.exceptionTable.toList = tableOf hh := by
  obtain ⟨m9, meth9, c9, hn9, h1, h2, -, -, h6, -⟩ := Cond.codeWith_spec h
  cases Option.some.inj (hn9.symm.trans B.named)
  cases Option.some.inj (h1.symm.trans B.method)
  cases Option.some.inj (h2.symm.trans (Stand.of_body B).code)
  rw [← h6, table_eq]
end Bodies
end VXA
/-! ===== END ===== -/
/-! ===== BEGIN a static call of a method with an exception table ===== -/
section VXS
variable {p : Program} {l : Launch} {e : Env} {R : Room} {s : State} {m : MethodId} {args : Array Value} {below : List Frame} {meth : Method} {c : Code} {T : State} {H : Heap} {locs : List Loc} {cells slots : Nat}
abbrev vx_CSW (R : Room) (s : State) (args : Array Value) (own : String) (index : Nat) (y : MethodName) (bytes : ByteArray) (maxL : Nat) (ret : Option FieldType) (hh : List (Nat × Nat × Nat × Nat)) (ws : List Cond) (rm : Room) (mc ms n : Nat) : Prop :=
  (rm.cells = mc ∧ rm.slots = ms ∧ rm.frames + 1 ≤ R.frames ∧ 8 + (maxL + 11) + rm.locals ≤ R.locals ∧ (∀ w ∈ ws, ∀ (a' : Array Value) (U : State), s.WarmedH U.vm → w.before a' U = true) ∧ Cond.codeWith y bytes maxL ret hh ∈ ws) ∧
  (Cond.codeWith y bytes maxL ret hh).before args s = true ∧ (Cond.initialized y.cls).before args s = true ∧ (y.cls ≠ "java/lang/invoke/MethodHandle" ∧ y.cls ≠ "java/lang/invoke/VarHandle") ∧
  (∀ sig, parseMethodDescriptor y.desc = some sig → n = sig.parameters.length) ∧ (Cond.methodLink own index y).before args s = true ∧ (Cond.static y).before args s = true
theorem vx_cwSW {own : String} {index maxL mc ms : Nat} {y : MethodName} {bytes : ByteArray} {ret : Option FieldType} {hh : List (Nat × Nat × Nat × Nat)} {Ts ws ws' : List Cond} {rm : Room} (n : Nat) (ht : ∀ w ∈ Ts, w.before args s = true) (hT : GoodIn Ts (va_wsS own index y ws)) (hw : ws = Cond.codeWith y bytes maxL ret hh :: ws') (hrc : rm.cells = mc) (hrs : rm.slots = ms)
    (hd : y.cls ≠ "java/lang/invoke/MethodHandle" ∧ y.cls ≠ "java/lang/invoke/VarHandle" ∧ (parseMethodDescriptor y.desc).map (fun d => d.parameters.length) = some n) (hR : rm.frames + 1 ≤ R.frames ∧ 8 + (maxL + 11) + rm.locals ≤ R.locals) :
    vx_CSW R s args own index y bytes maxL ret hh ws rm mc ms n := by
  have ok : ∀ w ∈ va_wsS own index y ws, w.before args s = true := fun w h => ht w (hT w h).1
  have hG : GoodIn Ts ws := fun w h => hT w (by unfold va_wsS; exact List.mem_append_right _ h)
  have hc : Cond.codeWith y bytes maxL ret hh ∈ ws := by rw [hw]; exact List.mem_cons_self
  refine ⟨⟨hrc, hrs, hR.1, hR.2, pay_in ht hG, hc⟩, ht _ (hG _ hc).1, ok _ (by simp [va_wsS]), ⟨hd.1, hd.2.1⟩, fun sig h => ?_, ok _ (by simp [va_wsS]), ok _ (by simp [va_wsS])⟩
  have h2 := hd.2.2
  rw [h] at h2
  exact (Option.some.inj h2).symm
theorem vx_callSW (X : Stand p l e R s m args below meth c T locs cells slots) (hexec : p.tables.exec = Jvm.exec) {own : String} {index : Nat} {y : MethodName} {bytes : ByteArray} {maxL : Nat} {ret : Option FieldType} {hh : List (Nat × Nat × Nat × Nat)}
    (hown : s.vm.findClass own = some m.cls) (hlink : (Cond.methodLink own index y).before args s = true) (hstat : (Cond.static y).before args s = true) (hinit : (Cond.initialized y.cls).before args s = true)
    (hcode : (Cond.codeWith y bytes maxL ret hh).before args s = true) (hy : y.cls ≠ "java/lang/invoke/MethodHandle" ∧ y.cls ≠ "java/lang/invoke/VarHandle")
    {W9 : Nat} {Pre : Pt → Array Value → Prop} {Post : Pt → Array Value → Option Value → Pt → Prop} (hK : Back l R p e below s args y 3 W9 Pre Post)
    {g : JFrame} (hg : g.method = m) (hsize : g.locals.size = c.maxLocals) {argsL rest : List Value} (hlen : ∀ sig, parseMethodDescriptor y.desc = some sig → argsL.length = sig.parameters.length)
    (hstack : g.stack = argsL.reverse ++ rest) (hW : 2 * g.monitorRoom + (rest.map fun v => v.category).sum ≤ W9) (hdg : decode c.code g.pc = .ok (.invokestatic index, 3))
    (hpre : ∀ vm₁, s.WarmedH vm₁ → Pre ⟨T.setVm vm₁, locs, cells, slots⟩ argsL.toArray) :
    ∃ (v : Option Value) (vm₁ : Vm) (B : Pt), s.WarmedH vm₁ ∧ Stand p l e R s m args below meth c B.U B.locs B.cells B.slots ∧ Post ⟨T.setVm vm₁, locs, cells, slots⟩ argsL.toArray v B ∧
      ∀ target, Steps p.tables e below (B.U.setTop { g with pc := g.pc + 3, stack := v.toList ++ rest }) target → Steps p.tables e below (T.setTop g) target := by
  obtain ⟨mk, methM, cM, hnamed, hmethM, -, -, -, -, -, -, hsigM⟩ := Cond.codeWith_spec hcode
  have hstatic : methM.isStatic = true := Cond.static_spec hnamed hmethM hstat
  obtain ⟨kP, hkP, -⟩ := className_of_methodNamed hnamed
  have hinitP : kP.init = .initialized := Cond.initialized_spec (findClass_of_methodNamed hnamed) hkP hinit
  obtain ⟨vm₁, X₁, hstep₁⟩ := X.invokestatic hexec hown hlink hnamed hmethM hstatic hkP hinitP hy (g := g) hg (argsL := argsL) (rest := rest) (hlen _ hsigM) hstack hdg
  obtain ⟨v, B, X', hpost, hsteps⟩ := hK m meth c ⟨T.setVm vm₁, locs, cells, slots⟩ { g with stack := rest } (.invokestatic index) mk argsL.toArray X₁ hg hsize hdg hW (X₁.named hnamed) (hpre vm₁ X₁.warmed)
  exact ⟨v, vm₁, B, X₁.warmed, X', hpost, fun target h => hstep₁ _ fun acts => by rw [doInvoke_state]; exact hsteps.trans h⟩
theorem vx_runSW {y : MethodName} {bytes cc : ByteArray} {maxL nL mc ms n index : Nat} {ret : Option FieldType} {hh : List (Nat × Nat × Nat × Nat)} {ws : List Cond} {rm : Room} {Pc : Array Value → State → Prop} {Qc : Array Value → State → Outcome → State → Prop} {free : Addr → Prop} {Ts : List Cond} {own : String} {As rest : List Value} {g : JFrame}
    (S : CallFix p m c cc nL s args Ts own) (hM : Met l y ws rm Pc Qc mc ms free) (cw : vx_CSW R s args own index y bytes maxL ret hh ws rm mc ms n) (hp : PreS s H Pc As)
    (hg : g.method = m) (hn : As.length = n) (hsize : g.locals.size = nL) (hstack : g.stack = As.reverse ++ rest) (hW : 2 * g.monitorRoom + (rest.map fun v => v.category).sum ≤ 8) (hdg : decode cc g.pc = .ok (.invokestatic index, 3)) (hf : cells + mc ≤ R.cells ∧ slots + ms ≤ R.slots) :
    va_Run p l e R s m args below meth c H locs cells slots mc ms g rest (Qc As.toArray) (free) := by
  obtain ⟨⟨hrc, hrs, hfr, hlo, hws, hcw⟩, hcode, hini, hy, hlen, hl, hstt⟩ := cw
  have hK : Back l R p e below s args y 3 8 (PreOf R mc ms Pc) (PostOf Qc mc ms free) := va_backW (hh := hh) (bytes := bytes) (maxL := maxL) (ret := ret) hM hp.1 hrc hrs hfr hlo hws hcw (fun a' U hW => word_at hW (Or.inl (by first | rfl | simp [Cond.onTables, Cond.keeps, Cond.steady])) hini)
  obtain ⟨hx, hb, hml, ho, -⟩ := S
  intro T hT X
  obtain ⟨v, vm₁, ⟨U', l2, c2, s2⟩, hW₁, X', ⟨g', mk, t, L, e1, e2, hq, h1, hL, h2, h3⟩, st⟩ := vx_callSW X hx (hh := hh) (bytes := bytes) (maxL := maxL) (ret := ret) ho hl hstt hini hcode hy hK hg (hsize.trans hml.symm) (argsL := As) (rest := rest) (fun sig h => hn.trans (hlen sig h)) hstack hW (by rw [hb]; exact hdg)
    (fun vm₁ hW₁ => ⟨hf.1, hf.2, hp.2 (T.setVm vm₁) hT hW₁⟩)
  dsimp only [Pt.U, Pt.locs, Pt.cells, Pt.slots] at X' e1 e2 h1 h2 h3 st
  subst h1; subst h2; subst h3
  exact ⟨v, (T.setVm vm₁).calling g' mk As.toArray, t, U', L, hT, X', hL, e1, e2, hq, st⟩
/-- not caught here, past rows that name other classes: it goes on to the caller -/
theorem vx_outP {p : Program} {l : Launch} {e : Env} {R : Room} {s : State} {m : MethodId} {args : Array Value} {below : List Frame} {meth : Method} {c : Code} {H : Heap} {locs : List Loc} {cells slots : Nat} {free : Addr → Prop} {ls : Array Slot} {rest : List Value} {Qc : Array Value → State → Outcome → State → Prop} {XC : String → State → State → Prop}
    {pc : Nat} {own E : String} {ce : Cell} {q : Addr} {mc ms : Nat} (hown : s.vm.findClass own = some m.cls) (hlocks : meth.locks = false)
    (hpass : ∀ z ∈ c.exceptionTable.toList, covers z pc = false ∨ (z.catchType ≠ 0 ∧ ∃ nm : String, (Cond.classLink own z.catchType nm).before args s = true ∧ va_Nc E nm s)) (hcell : H[q]? = some ce) (hv : ce.vm = .none) (hcl : s.vm.findClass E = some ce.cls)
    (hx : ∀ t : State, t.heap = H → s.vm.Alike t.vm → XC E s t) (hf : ∀ z ∈ locs, free z.base) (hc : cells ≤ mc) (hs : slots ≤ ms) :
    vx_W p l e R s m args below meth c H locs cells slots (vx_MQ below Qc XC args s mc ms free) (F0 m pc ls rest) q := by
  intro T hT X
  have hpl : e.platform.magicAccessors = ({} : Platform).magicAccessors := by rw [X.admits.platform]
  obtain ⟨vm', hW', X', st⟩ := X.outThrough hlocks q (g := F0 m pc ls rest) rfl rfl rfl (cell := ce) (by rw [hT]; exact hcell) (by rw [hv]; rfl)
    (by obtain ⟨k9, h9, -⟩ := Vm.findClass_spec hcl; exact ⟨k9, h9⟩) (fun z hz => by
      rcases hpass z hz with h | ⟨hz0, nm, hl1, hn1⟩
      · exact Or.inl h
      · obtain ⟨c6, hc6, hcl6⟩ := Cond.classLink_spec hown hl1 e.platform hpl
        obtain ⟨a8, b8, h1, h2, h3⟩ := hn1
        cases Option.some.inj (h1.symm.trans hcl)
        cases Option.some.inj (h2.symm.trans hc6)
        exact Or.inr ⟨hz0, _, hcl6, h3⟩)
  obtain ⟨g₀, hfr⟩ := X'.frames_eq
  have hcell9 : ((T.setVm vm').setFrames (.throwing q :: below)).heap[q]? = some ce := by
    show T.heap[q]? = some ce
    rw [hT]; exact hcell
  have hend : Ended ((T.setVm vm').setFrames (.throwing q :: below)) below (.threw q) := State.frames_setFrames _ (State.cur_lt_of_frames hfr)
  refine ⟨(T.setVm vm').setFrames (.throwing q :: below), ?_, .threw q, X'.here.running, hend, Or.inr ⟨q, rfl, E, ce, locs, hx _ hT (X'.ends _).1.alike, hcell9, hv, hcl, (X'.ends _).1, (X'.ends _).2.mono hc hs, hf⟩⟩
  rw [X.pushThrowing_eq]
  exact st
/-- a thing of a world lies in the heap -/
theorem vx_lt {D : va_G} {cl : List vw_C} {ws : va_W} {H1 : Heap} (h : va_P D cl ws H1) {k : Nat} {q : Nat × va_E} (hk : ws[k]? = some q) : q.1 < H1.size := (h k q hk).lt
end VXS
/-! ===== END ===== -/
/-! ===== BEGIN methods with a table of their own: called by a name, returning or throwing ===== -/
section VXH
/-! vx_backW, vx_callVX, vx_callSX, vx_callVW, vx_runVW, vx_runVX, vx_runSX, vx_ofWH follow the same proofs as their sisters above (Free/Laws.lean, Shelf42/LK1.lean); vx_outP calls Shelf42/NT130.lean (outThrough). -/
section
variable {l : Launch} {R : Room} {p : Program} {e : Env} {below : List Frame} {s : State} {sargs : Array Value} {y : MethodName} {len W9 : Nat}
theorem vx_backW {ws : List Cond} {rm : Room} {Pc : Array Value → State → Prop} {Qc : Array Value → State → Outcome → State → Prop} {XC : String → State → State → Prop} {mc ms : Nat} {free : Addr → Prop} {bytes : ByteArray} {maxL : Nat} {ret : Option FieldType} {hh : List (Nat × Nat × Nat × Nat)}
    (hM : vx_Met l y ws rm Pc Qc XC mc ms free) (hblind : FrameBlind Pc) (hrc : rm.cells = mc) (hrs : rm.slots = ms)
    (hframes : rm.frames + 1 ≤ R.frames) (hlocals : W9 + (maxL + 11) + rm.locals ≤ R.locals)
    (hws : ∀ w ∈ ws, ∀ a' U, s.WarmedH U.vm → w.before a' U = true) (hcode : Cond.codeWith y bytes maxL ret hh ∈ ws) (hinit : ∀ a' U, s.WarmedH U.vm → (Cond.initialized y.cls).before a' U = true) :
    vx_Back l R p e below s sargs y len W9 (PreOf R mc ms Pc) (PostOf Qc mc ms free) (vx_Post XC mc ms free) := by
  intro m meth c A g ig mk a X hg hsize hdg hW hn hp
  have h1 : (headSpec ws rm).pre.before a A.U = true := atoms_intro fun w hw => hws w hw _ _ X.warmed
  have h2 : (Cond.codeWith y bytes maxL ret hh).before a A.U = true := hws _ hcode _ _ X.warmed
  have h3 : (Cond.initialized y.cls).before a A.U = true := hinit _ _ X.warmed
  have h4 : A.cells + (headSpec ws rm).room.cells ≤ R.cells := by rw [show (headSpec ws rm).room.cells = mc from hrc]; exact hp.1
  have h5 : A.slots + (headSpec ws rm).room.slots ≤ R.slots := by rw [show (headSpec ws rm).room.slots = ms from hrs]; exact hp.2.1
  have hPc : Pc a (A.U.calling g mk a) := hblind _ _ _ _ hp.2.2
  obtain ⟨U, Ls, c0, s0⟩ := A
  dsimp only [Pt.U, Pt.locs, Pt.cells, Pt.slots] at h1 h2 h3 h4 h5 X hn hPc ⊢
  obtain ⟨m9, methY, cY, hn9, hmY, hcY, -, hlY, -⟩ := Cond.codeWith_spec h2
  cases Option.some.inj (hn9.symm.trans hn)
  obtain ⟨kY, hkY, -⟩ := className_of_methodNamed hn
  have hinitY : kY.init = .initialized := Cond.initialized_spec (findClass_of_methodNamed hn) hkY h3
  have h : At U g.method c below := by rw [hg]; exact X.here
  have hlocals9 : W9 + (maxL + 11) + (headSpec ws rm).room.locals ≤ R.locals := hlocals
  have happ : (headSpec ws rm).appliesLoose y e.platform (U.calling g mk a) = true :=
    Spec.appliesLoose_calling (g := g) h hdg hn hkY hinitY
      (X.room_calling (g := g) (R' := (headSpec ws rm).room) hsize hmY hcY hframes (by rw [hlY]; omega) h4 h5) h1
  obtain ⟨mid, hmid⟩ := h.above
  have hfr : (U.setTop g).frames = (.java g :: mid) ++ below := by rw [State.frames_setTop' g h.top, hmid]; rfl
  obtain ⟨o, s₂, hsteps, -, hend, hq⟩ := Steps.callFree hM p X.admits X.cas X.clock (acts := []) hfr happ hPc trivial
  have hq' : vx_Q Qc XC mc ms free a (U.calling g mk a) o s₂ := hq
  rw [State.frames_setTop' g h.top] at hend
  obtain ⟨g₀, hg0⟩ := Option.isSome_iff_exists.mp h.top
  obtain ⟨r, hr⟩ := State.topJava?_eq_some.mp hg0
  have hr' : (({ U with heap := s₂.heap, slotsUsed := s₂.slotsUsed } : State).setVm s₂.vm).frames = .java g₀ :: r := hr
  rcases hq' with ⟨hqc, L, hfe, hL⟩ | ⟨q, rfl, E, ce, L, hx, hce, hcv, hcl, hW₂, hsm, hL⟩
  · obtain ⟨⟨v, rfl⟩, hW₂, e2, q2, q3, q4, q5, q6⟩ := id hfe
    have e3 : s₂ = ({ (U.calling g mk a).setFrames s₂.frames with heap := s₂.heap, slotsUsed := s₂.slotsUsed } : State).setVm s₂.vm := by
      have : s₂ = ({ s₂ with vm := (U.calling g mk a).vm } : State).setVm s₂.vm := rfl
      rw [e2] at this
      exact this
    obtain ⟨c₂, i₂, len₂, hc₂, hd₂, hf₂⟩ := hend
    have hW' : U.WarmedH s₂.vm := hW₂
    have hcc : c₂ = c := by
      have h1 : s₂.code? g.method = U.code? g.method := by
        rw [State.code?_eq, State.code?_eq, hW'.alike.method?]
      exact Option.some.inj (hc₂.symm.trans (h1.trans h.code))
    subst hcc
    have hlen : len₂ = len := by rw [hdg] at hd₂; cases hd₂; rfl
    subst hlen
    have hs₂ : s₂ = (({ U with heap := s₂.heap, slotsUsed := s₂.slotsUsed } : State).setVm s₂.vm).setTop { g with pc := g.pc + len₂, stack := v.toList ++ g.stack } := by
      refine e3.trans ?_
      rw [hf₂, State.calling_eq h.top, State.setFrames_setFrames, State.setTop_of_frames _ hr', hr]
      rfl
    have hsame : U.sameButNew ({ U with heap := s₂.heap, slotsUsed := s₂.slotsUsed } : State) L mc ms := by
      refine ⟨?_, q2, q3, q4, q5, q6⟩
      obtain ⟨t, ht, -⟩ := State.frames_cons hr
      show ({ U with heap := s₂.heap, slotsUsed := s₂.slotsUsed } : State) = { U.setFrames U.frames with heap := s₂.heap, slotsUsed := s₂.slotsUsed }
      rw [State.setFrames_self ht]
    subst hg
    refine Or.inl ⟨v, ⟨(({ U with heap := s₂.heap, slotsUsed := s₂.slotsUsed } : State).setVm s₂.vm), Ls ++ L, c0 + mc, s0 + ms⟩,
      ⟨X.admits, X.cas, X.clock, X.frames, X.room, X.hears, X.method, X.code, (X.here.setHeapUsed s₂.heap s₂.slotsUsed).setVm hW'.alike, X.tail, State.WarmedH.trans X.warmed hW', X.limits, X.bytes, X.same.trans (hsame.setVm s.vm)⟩,
      ⟨g, mk, s₂, L, rfl, rfl, hqc, rfl, hL, rfl, rfl⟩, ?_⟩
    show Steps p.tables e below _ ((({ U with heap := s₂.heap, slotsUsed := s₂.slotsUsed } : State).setVm s₂.vm).setTop { g with pc := g.pc + len₂, stack := v.toList ++ g.stack })
    rw [← hs₂]
    exact hsteps
  · obtain ⟨e2, q2, q3, q4, q5, q6⟩ := id hsm
    have e3 : s₂ = ({ (U.calling g mk a).setFrames s₂.frames with heap := s₂.heap, slotsUsed := s₂.slotsUsed } : State).setVm s₂.vm := by
      have : s₂ = ({ s₂ with vm := (U.calling g mk a).vm } : State).setVm s₂.vm := rfl
      rw [e2] at this
      exact this
    have hf₂ : s₂.frames = .throwing q :: .java g :: U.frames.tail := hend
    have hW' : U.WarmedH s₂.vm := hW₂
    have hs₂ : s₂ = ((({ U with heap := s₂.heap, slotsUsed := s₂.slotsUsed } : State).setVm s₂.vm).setTop g).pushFrame (.throwing q) := by
      refine e3.trans ?_
      rw [hf₂, State.calling_eq h.top, State.setFrames_setFrames, State.pushFrame, State.frames_setTop _ hr', State.setTop_of_frames _ hr', State.setFrames_setFrames, hr]
      rfl
    have hsame : U.sameButNew ({ U with heap := s₂.heap, slotsUsed := s₂.slotsUsed } : State) L mc ms := by
      refine ⟨?_, q2, q3, q4, q5, q6⟩
      obtain ⟨t, ht, -⟩ := State.frames_cons hr
      show ({ U with heap := s₂.heap, slotsUsed := s₂.slotsUsed } : State) = { U.setFrames U.frames with heap := s₂.heap, slotsUsed := s₂.slotsUsed }
      rw [State.setFrames_self ht]
    subst hg
    refine Or.inr ⟨q, ⟨(({ U with heap := s₂.heap, slotsUsed := s₂.slotsUsed } : State).setVm s₂.vm), Ls ++ L, c0 + mc, s0 + ms⟩,
      ⟨X.admits, X.cas, X.clock, X.frames, X.room, X.hears, X.method, X.code, (X.here.setHeapUsed s₂.heap s₂.slotsUsed).setVm hW'.alike, X.tail, State.WarmedH.trans X.warmed hW', X.limits, X.bytes, X.same.trans (hsame.setVm s.vm)⟩,
      ⟨g, mk, s₂, L, E, ce, rfl, rfl, hx, hce, hcv, hcl, rfl, hL, rfl, rfl⟩, ?_⟩
    show Steps p.tables e below _ (((({ U with heap := s₂.heap, slotsUsed := s₂.slotsUsed } : State).setVm s₂.vm).setTop g).pushFrame (.throwing q))
    rw [← hs₂]
    exact hsteps
end
variable {p : Program} {l : Launch} {e : Env} {R : Room} {s : State} {m : MethodId} {args : Array Value} {below : List Frame} {meth : Method} {c : Code} {T : State} {H : Heap} {locs : List Loc} {cells slots : Nat}
theorem vx_callVX (X : Stand p l e R s m args below meth c T locs cells slots) (hexec : p.tables.exec = Jvm.exec) {own C : String} {index : Nat} {y : MethodName} {bytes : ByteArray} {maxL : Nat} {ret : Option FieldType} {hh : List (Nat × Nat × Nat × Nat)}
    (hown : s.vm.findClass own = some m.cls) (hlink : (Cond.methodLink own index y).before args s = true) (hinst : (Cond.instanceMethod y).before args s = true) (hsel : (Cond.selects C y y).before args s = true)
    (hcode : (Cond.codeWith y bytes maxL ret hh).before args s = true) (hy : y.cls ≠ "java/lang/invoke/MethodHandle" ∧ y.cls ≠ "java/lang/invoke/VarHandle")
    {W9 : Nat} {Pre : Pt → Array Value → Prop} {Post : Pt → Array Value → Option Value → Pt → Prop} {PostX : Pt → Array Value → Addr → Pt → Prop} (hK : vx_Back l R p e below s args y 3 W9 Pre Post PostX)
    {b : Addr} {cellB : Cell} (hcell : T.heap[b]? = some cellB) (hobj : cellB.vm.isStatics = false) (hcls : s.vm.findClass C = some cellB.cls)
    {g : JFrame} (hg : g.method = m) (hsize : g.locals.size = c.maxLocals) {argsL rest : List Value} (hlen : ∀ sig, parseMethodDescriptor y.desc = some sig → argsL.length = sig.parameters.length)
    (hstack : g.stack = argsL.reverse ++ .ref b :: rest) (hW : 2 * g.monitorRoom + (rest.map fun v => v.category).sum ≤ W9) (hdg : decode c.code g.pc = .ok (.invokevirtual index, 3))
    (hpre : ∀ vm₁, s.WarmedH vm₁ → Pre ⟨T.setVm vm₁, locs, cells, slots⟩ (Value.ref b :: argsL).toArray) :
    (∃ (v : Option Value) (vm₁ : Vm) (B : Pt), s.WarmedH vm₁ ∧ Stand p l e R s m args below meth c B.U B.locs B.cells B.slots ∧ Post ⟨T.setVm vm₁, locs, cells, slots⟩ (Value.ref b :: argsL).toArray v B ∧
      ∀ target, Steps p.tables e below (B.U.setTop { g with pc := g.pc + 3, stack := v.toList ++ rest }) target → Steps p.tables e below (T.setTop g) target) ∨
    (∃ (q : Addr) (vm₁ : Vm) (B : Pt), s.WarmedH vm₁ ∧ Stand p l e R s m args below meth c B.U B.locs B.cells B.slots ∧ PostX ⟨T.setVm vm₁, locs, cells, slots⟩ (Value.ref b :: argsL).toArray q B ∧
      Steps p.tables e below (T.setTop g) ((B.U.setTop { g with stack := rest }).pushFrame (.throwing q))) := by
  obtain ⟨mk, methM, hnamed, hmethM, hstM, habM⟩ := Cond.instanceMethod_spec hinst
  obtain ⟨m8, methM', cM, hn8, hmethM', -, -, -, -, -, -, hsigM⟩ := Cond.codeWith_spec hcode
  cases Option.some.inj (hn8.symm.trans hnamed)
  cases hmethM.symm.trans hmethM'
  obtain ⟨c2, r2, m2, q1, q2, q3, q4, kP, hkP, hkPi⟩ := Cond.selects_spec hsel
  cases hcls.symm.trans q1
  cases (State.methodFound?_of_named hnamed hy).symm.trans q2
  cases hnamed.symm.trans q3
  have hselP : selectMethod e.platform s.vm cellB.cls mk = .method mk := by rw [Launch.admits_selectMethod X.admits]; exact q4
  obtain ⟨vm₁, X₁, hstep₁⟩ := X.invokevirtual hexec hown hlink hnamed hmethM hstM hkP hkPi hy (a := b) (cell := cellB) hcell
    (fun z h => by rw [h] at hobj; cases hobj) hselP hmethM habM hkP hkPi (g := g) hg (argsL := argsL) (rest := rest) (hlen _ hsigM) hstack hdg
  rcases hK m meth c ⟨T.setVm vm₁, locs, cells, slots⟩ { g with stack := rest } (.invokevirtual index) mk (Value.ref b :: argsL).toArray X₁ hg hsize hdg hW (X₁.named hnamed) (hpre vm₁ X₁.warmed) with ⟨v, B, X', hpost, hsteps⟩ | ⟨q, B, X', hpost, hsteps⟩
  · exact Or.inl ⟨v, vm₁, B, X₁.warmed, X', hpost, fun target h => hstep₁ _ fun acts => by rw [doInvoke_state]; exact hsteps.trans h⟩
  · exact Or.inr ⟨q, vm₁, B, X₁.warmed, X', hpost, hstep₁ _ fun acts => by rw [doInvoke_state]; exact hsteps⟩
theorem vx_callSX (X : Stand p l e R s m args below meth c T locs cells slots) (hexec : p.tables.exec = Jvm.exec) {own : String} {index : Nat} {y : MethodName} {bytes : ByteArray} {maxL : Nat} {ret : Option FieldType} {hh : List (Nat × Nat × Nat × Nat)}
    (hown : s.vm.findClass own = some m.cls) (hlink : (Cond.methodLink own index y).before args s = true) (hstat : (Cond.static y).before args s = true) (hinit : (Cond.initialized y.cls).before args s = true)
    (hcode : (Cond.codeWith y bytes maxL ret hh).before args s = true) (hy : y.cls ≠ "java/lang/invoke/MethodHandle" ∧ y.cls ≠ "java/lang/invoke/VarHandle")
    {W9 : Nat} {Pre : Pt → Array Value → Prop} {Post : Pt → Array Value → Option Value → Pt → Prop} {PostX : Pt → Array Value → Addr → Pt → Prop} (hK : vx_Back l R p e below s args y 3 W9 Pre Post PostX)
    {g : JFrame} (hg : g.method = m) (hsize : g.locals.size = c.maxLocals) {argsL rest : List Value} (hlen : ∀ sig, parseMethodDescriptor y.desc = some sig → argsL.length = sig.parameters.length)
    (hstack : g.stack = argsL.reverse ++ rest) (hW : 2 * g.monitorRoom + (rest.map fun v => v.category).sum ≤ W9) (hdg : decode c.code g.pc = .ok (.invokestatic index, 3))
    (hpre : ∀ vm₁, s.WarmedH vm₁ → Pre ⟨T.setVm vm₁, locs, cells, slots⟩ argsL.toArray) :
    (∃ (v : Option Value) (vm₁ : Vm) (B : Pt), s.WarmedH vm₁ ∧ Stand p l e R s m args below meth c B.U B.locs B.cells B.slots ∧ Post ⟨T.setVm vm₁, locs, cells, slots⟩ argsL.toArray v B ∧
      ∀ target, Steps p.tables e below (B.U.setTop { g with pc := g.pc + 3, stack := v.toList ++ rest }) target → Steps p.tables e below (T.setTop g) target) ∨
    (∃ (q : Addr) (vm₁ : Vm) (B : Pt), s.WarmedH vm₁ ∧ Stand p l e R s m args below meth c B.U B.locs B.cells B.slots ∧ PostX ⟨T.setVm vm₁, locs, cells, slots⟩ argsL.toArray q B ∧
      Steps p.tables e below (T.setTop g) ((B.U.setTop { g with stack := rest }).pushFrame (.throwing q))) := by
  obtain ⟨mk, methM, cM, hnamed, hmethM, -, -, -, -, -, -, hsigM⟩ := Cond.codeWith_spec hcode
  have hstatic : methM.isStatic = true := Cond.static_spec hnamed hmethM hstat
  obtain ⟨kP, hkP, -⟩ := className_of_methodNamed hnamed
  have hinitP : kP.init = .initialized := Cond.initialized_spec (findClass_of_methodNamed hnamed) hkP hinit
  obtain ⟨vm₁, X₁, hstep₁⟩ := X.invokestatic hexec hown hlink hnamed hmethM hstatic hkP hinitP hy (g := g) hg (argsL := argsL) (rest := rest) (hlen _ hsigM) hstack hdg
  rcases hK m meth c ⟨T.setVm vm₁, locs, cells, slots⟩ { g with stack := rest } (.invokestatic index) mk argsL.toArray X₁ hg hsize hdg hW (X₁.named hnamed) (hpre vm₁ X₁.warmed) with ⟨v, B, X', hpost, hsteps⟩ | ⟨q, B, X', hpost, hsteps⟩
  · exact Or.inl ⟨v, vm₁, B, X₁.warmed, X', hpost, fun target h => hstep₁ _ fun acts => by rw [doInvoke_state]; exact hsteps.trans h⟩
  · exact Or.inr ⟨q, vm₁, B, X₁.warmed, X', hpost, hstep₁ _ fun acts => by rw [doInvoke_state]; exact hsteps⟩
theorem vx_callVW (X : Stand p l e R s m args below meth c T locs cells slots) (hexec : p.tables.exec = Jvm.exec) {own C : String} {index : Nat} {y : MethodName} {bytes : ByteArray} {maxL : Nat} {ret : Option FieldType} {hh : List (Nat × Nat × Nat × Nat)}
    (hown : s.vm.findClass own = some m.cls) (hlink : (Cond.methodLink own index y).before args s = true) (hinst : (Cond.instanceMethod y).before args s = true) (hsel : (Cond.selects C y y).before args s = true)
    (hcode : (Cond.codeWith y bytes maxL ret hh).before args s = true) (hy : y.cls ≠ "java/lang/invoke/MethodHandle" ∧ y.cls ≠ "java/lang/invoke/VarHandle")
    {W9 : Nat} {Pre : Pt → Array Value → Prop} {Post : Pt → Array Value → Option Value → Pt → Prop} (hK : Back l R p e below s args y 3 W9 Pre Post)
    {b : Addr} {cellB : Cell} (hcell : T.heap[b]? = some cellB) (hobj : cellB.vm.isStatics = false) (hcls : s.vm.findClass C = some cellB.cls)
    {g : JFrame} (hg : g.method = m) (hsize : g.locals.size = c.maxLocals) {argsL rest : List Value} (hlen : ∀ sig, parseMethodDescriptor y.desc = some sig → argsL.length = sig.parameters.length)
    (hstack : g.stack = argsL.reverse ++ .ref b :: rest) (hW : 2 * g.monitorRoom + (rest.map fun v => v.category).sum ≤ W9) (hdg : decode c.code g.pc = .ok (.invokevirtual index, 3))
    (hpre : ∀ vm₁, s.WarmedH vm₁ → Pre ⟨T.setVm vm₁, locs, cells, slots⟩ (Value.ref b :: argsL).toArray) :
    ∃ (v : Option Value) (vm₁ : Vm) (B : Pt), s.WarmedH vm₁ ∧ Stand p l e R s m args below meth c B.U B.locs B.cells B.slots ∧ Post ⟨T.setVm vm₁, locs, cells, slots⟩ (Value.ref b :: argsL).toArray v B ∧
      ∀ target, Steps p.tables e below (B.U.setTop { g with pc := g.pc + 3, stack := v.toList ++ rest }) target → Steps p.tables e below (T.setTop g) target := by
  obtain ⟨mk, methM, hnamed, hmethM, hstM, habM⟩ := Cond.instanceMethod_spec hinst
  obtain ⟨m8, methM', cM, hn8, hmethM', -, -, -, -, -, -, hsigM⟩ := Cond.codeWith_spec hcode
  cases Option.some.inj (hn8.symm.trans hnamed)
  cases hmethM.symm.trans hmethM'
  obtain ⟨c2, r2, m2, q1, q2, q3, q4, kP, hkP, hkPi⟩ := Cond.selects_spec hsel
  cases hcls.symm.trans q1
  cases (State.methodFound?_of_named hnamed hy).symm.trans q2
  cases hnamed.symm.trans q3
  have hselP : selectMethod e.platform s.vm cellB.cls mk = .method mk := by rw [Launch.admits_selectMethod X.admits]; exact q4
  obtain ⟨vm₁, X₁, hstep₁⟩ := X.invokevirtual hexec hown hlink hnamed hmethM hstM hkP hkPi hy (a := b) (cell := cellB) hcell
    (fun z h => by rw [h] at hobj; cases hobj) hselP hmethM habM hkP hkPi (g := g) hg (argsL := argsL) (rest := rest) (hlen _ hsigM) hstack hdg
  obtain ⟨v, B, X', hpost, hsteps⟩ := hK m meth c ⟨T.setVm vm₁, locs, cells, slots⟩ { g with stack := rest } (.invokevirtual index) mk (Value.ref b :: argsL).toArray X₁ hg hsize hdg hW (X₁.named hnamed) (hpre vm₁ X₁.warmed)
  exact ⟨v, vm₁, B, X₁.warmed, X', hpost, fun target h => hstep₁ _ fun acts => by rw [doInvoke_state]; exact hsteps.trans h⟩
abbrev vx_CVW (R : Room) (s : State) (args : Array Value) (own C : String) (index : Nat) (y : MethodName) (bytes : ByteArray) (maxL : Nat) (ret : Option FieldType) (hh : List (Nat × Nat × Nat × Nat)) (ws : List Cond) (rm : Room) (mc ms n : Nat) : Prop :=
  (rm.cells = mc ∧ rm.slots = ms ∧ rm.frames + 1 ≤ R.frames ∧ 8 + (maxL + 11) + rm.locals ≤ R.locals ∧ (∀ w ∈ ws, ∀ (a' : Array Value) (U : State), s.WarmedH U.vm → w.before a' U = true) ∧ Cond.codeWith y bytes maxL ret hh ∈ ws) ∧
  (Cond.codeWith y bytes maxL ret hh).before args s = true ∧ (Cond.initialized y.cls).before args s = true ∧ (y.cls ≠ "java/lang/invoke/MethodHandle" ∧ y.cls ≠ "java/lang/invoke/VarHandle") ∧
  (∀ sig, parseMethodDescriptor y.desc = some sig → n = sig.parameters.length) ∧ (Cond.methodLink own index y).before args s = true ∧ (Cond.instanceMethod y).before args s = true ∧ (Cond.selects C y y).before args s = true
theorem vx_cwVW {own C : String} {index maxL mc ms : Nat} {y : MethodName} {bytes : ByteArray} {ret : Option FieldType} {hh : List (Nat × Nat × Nat × Nat)} {Ts ws ws' : List Cond} {rm : Room} (n : Nat) (ht : ∀ w ∈ Ts, w.before args s = true) (hT : GoodIn Ts (wsV own index C y ws)) (hw : ws = Cond.codeWith y bytes maxL ret hh :: ws') (hrc : rm.cells = mc) (hrs : rm.slots = ms)
    (hd : y.cls = C ∧ y.cls ≠ "java/lang/invoke/MethodHandle" ∧ y.cls ≠ "java/lang/invoke/VarHandle" ∧ (parseMethodDescriptor y.desc).map (fun d => d.parameters.length) = some n) (hR : rm.frames + 1 ≤ R.frames ∧ 8 + (maxL + 11) + rm.locals ≤ R.locals) :
    vx_CVW R s args own C index y bytes maxL ret hh ws rm mc ms n := by
  obtain ⟨hC, hd⟩ := hd
  subst hC
  have ok : ∀ w ∈ wsV own index y.cls y ws, w.before args s = true := fun w h => ht w (hT w h).1
  have hG : GoodIn Ts ws := fun w h => hT w (by unfold wsV; exact List.mem_append_right _ h)
  have hc : Cond.codeWith y bytes maxL ret hh ∈ ws := by rw [hw]; exact List.mem_cons_self
  refine ⟨⟨hrc, hrs, hR.1, hR.2, pay_in ht hG, hc⟩, ht _ (hG _ hc).1, ok _ (by simp [wsV]), ⟨hd.1, hd.2.1⟩, fun sig h => ?_, ok _ (by simp [wsV]), ok _ (by simp [wsV]), ok _ (by simp [wsV])⟩
  have h2 := hd.2.2
  rw [h] at h2
  exact (Option.some.inj h2).symm
theorem vx_runVW {y : MethodName} {bytes cc : ByteArray} {maxL nL mc ms n index : Nat} {ret : Option FieldType} {hh : List (Nat × Nat × Nat × Nat)} {ws : List Cond} {rm : Room} {Pc : Array Value → State → Prop} {Qc : Array Value → State → Outcome → State → Prop} {free : Addr → Prop} {Ts : List Cond} {own C : String} {b : Addr} {As rest : List Value} {g : JFrame}
    (S : CallFix p m c cc nL s args Ts own) (hM : Met l y ws rm Pc Qc mc ms free) (cw : vx_CVW R s args own C index y bytes maxL ret hh ws rm mc ms n) (hp : PreV s H C b Pc As)
    (hg : g.method = m) (hn : As.length = n) (hsize : g.locals.size = nL) (hstack : g.stack = As.reverse ++ .ref b :: rest) (hW : 2 * g.monitorRoom + (rest.map fun v => v.category).sum ≤ 8) (hdg : decode cc g.pc = .ok (.invokevirtual index, 3)) (hf : cells + mc ≤ R.cells ∧ slots + ms ≤ R.slots) :
    va_Run p l e R s m args below meth c H locs cells slots mc ms g rest (Qc (Value.ref b :: As).toArray) free := by
  obtain ⟨⟨hrc, hrs, hfr, hlo, hws, hcw⟩, hcode, hini, hy, hlen, hl, hin, hse⟩ := cw
  have hK : Back l R p e below s args y 3 8 (PreOf R mc ms Pc) (PostOf Qc mc ms free) := va_backW (hh := hh) (bytes := bytes) (maxL := maxL) (ret := ret) hM hp.1 hrc hrs hfr hlo hws hcw (fun a' U hW => word_at hW (Or.inl (by first | rfl | simp [Cond.onTables, Cond.keeps, Cond.steady])) hini)
  obtain ⟨hx, hb, hml, ho, -⟩ := S
  obtain ⟨-, ⟨cellB, hcB, hoB, hclB⟩, hPc⟩ := hp
  intro T hT X
  obtain ⟨v, vm₁, ⟨U', l2, c2, s2⟩, hW₁, X', ⟨g', mk, t, L, e1, e2, hq, h1, hL, h2, h3⟩, st⟩ := vx_callVW X hx (C := C) (hh := hh) (bytes := bytes) (maxL := maxL) (ret := ret) ho hl hin hse hcode hy hK (by rw [hT]; exact hcB) hoB hclB hg (hsize.trans hml.symm) (argsL := As) (rest := rest) (fun sig h => hn.trans (hlen sig h)) hstack hW (by rw [hb]; exact hdg)
    (fun vm₁ hW₁ => ⟨hf.1, hf.2, hPc (T.setVm vm₁) hT hW₁⟩)
  dsimp only [Pt.U, Pt.locs, Pt.cells, Pt.slots] at X' e1 e2 h1 h2 h3 st
  subst h1; subst h2; subst h3
  exact ⟨v, (T.setVm vm₁).calling g' mk (Value.ref b :: As).toArray, t, U', L, hT, X', hL, e1, e2, hq, st⟩
section
variable {y : MethodName} {bytes cc : ByteArray} {maxL nL mc ms n index : Nat} {ret : Option FieldType} {ws : List Cond} {rm : Room} {Pc : Array Value → State → Prop} {Qc : Array Value → State → Outcome → State → Prop} {XC : String → State → State → Prop} {free : Addr → Prop} {Ts : List Cond} {own C : String} {b : Addr} {As rest : List Value} {g : JFrame}
theorem vx_runVX {hh : List (Nat × Nat × Nat × Nat)} (S : CallFix p m c cc nL s args Ts own) (hM : vx_Met l y ws rm Pc Qc XC mc ms free) (cw : vx_CVW R s args own C index y bytes maxL ret hh ws rm mc ms n) (hp : PreV s H C b Pc As)
    (hg : g.method = m) (hn : As.length = n) (hsize : g.locals.size = nL) (hstack : g.stack = As.reverse ++ .ref b :: rest) (hW : 2 * g.monitorRoom + (rest.map fun v => v.category).sum ≤ 8) (hdg : decode cc g.pc = .ok (.invokevirtual index, 3)) (hf : cells + mc ≤ R.cells ∧ slots + ms ≤ R.slots) :
    vx_Run p l e R s m args below meth c H locs cells slots mc ms g rest (Qc (Value.ref b :: As).toArray) XC free := by
  obtain ⟨⟨hrc, hrs, hfr, hlo, hws, hcw⟩, hcode, hini, hy, hlen, hl, hin, hse⟩ := cw
  have hK : vx_Back l R p e below s args y 3 8 (PreOf R mc ms Pc) (PostOf Qc mc ms free) (vx_Post XC mc ms free) := vx_backW (hh := hh) (bytes := bytes) (maxL := maxL) (ret := ret) hM hp.1 hrc hrs hfr hlo hws hcw (fun a' U hW => word_at hW (Or.inl (by first | rfl | simp [Cond.onTables, Cond.keeps, Cond.steady])) hini)
  obtain ⟨hx, hb, hml, ho, -⟩ := S
  obtain ⟨-, ⟨cellB, hcB, hoB, hclB⟩, hPc⟩ := hp
  intro T hT X
  rcases vx_callVX X hx (C := C) (hh := hh) (bytes := bytes) (maxL := maxL) (ret := ret) ho hl hin hse hcode hy hK (by rw [hT]; exact hcB) hoB hclB hg (hsize.trans hml.symm) (argsL := As) (rest := rest) (fun sig h => hn.trans (hlen sig h)) hstack hW (by rw [hb]; exact hdg)
    (fun vm₁ hW₁ => ⟨hf.1, hf.2, hPc (T.setVm vm₁) hT hW₁⟩) with ⟨v, vm₁, ⟨U', l2, c2, s2⟩, hW₁, X', ⟨g', mk, t, L, e1, e2, hq, h1, hL, h2, h3⟩, st⟩ | ⟨q, vm₁, ⟨U', l2, c2, s2⟩, hW₁, X', ⟨g', mk, t, L, E, ce, e1, e2, hq, hce, hcv, hcl, h1, hL, h2, h3⟩, st⟩
  · dsimp only [Pt.U, Pt.locs, Pt.cells, Pt.slots] at X' e1 e2 h1 h2 h3 st
    subst h1; subst h2; subst h3
    exact Or.inl ⟨v, (T.setVm vm₁).calling g' mk (Value.ref b :: As).toArray, t, U', L, hT, X', hL, e1, e2, hq, st⟩
  · dsimp only [Pt.U, Pt.locs, Pt.cells, Pt.slots] at X' e1 e2 h1 h2 h3 st hcl
    subst h1; subst h2; subst h3
    exact Or.inr ⟨q, (T.setVm vm₁).calling g' mk (Value.ref b :: As).toArray, t, U', L, E, ce, hT, X', hL, e1, e2, hq, hce, hcv, vx_cls hW₁ hcl, st⟩
theorem vx_runSX {hh : List (Nat × Nat × Nat × Nat)} (S : CallFix p m c cc nL s args Ts own) (hM : vx_Met l y ws rm Pc Qc XC mc ms free) (cw : vx_CSW R s args own index y bytes maxL ret hh ws rm mc ms n) (hp : PreS s H Pc As)
    (hg : g.method = m) (hn : As.length = n) (hsize : g.locals.size = nL) (hstack : g.stack = As.reverse ++ rest) (hW : 2 * g.monitorRoom + (rest.map fun v => v.category).sum ≤ 8) (hdg : decode cc g.pc = .ok (.invokestatic index, 3)) (hf : cells + mc ≤ R.cells ∧ slots + ms ≤ R.slots) :
    vx_Run p l e R s m args below meth c H locs cells slots mc ms g rest (Qc As.toArray) XC free := by
  obtain ⟨⟨hrc, hrs, hfr, hlo, hws, hcw⟩, hcode, hini, hy, hlen, hl, hstt⟩ := cw
  have hK : vx_Back l R p e below s args y 3 8 (PreOf R mc ms Pc) (PostOf Qc mc ms free) (vx_Post XC mc ms free) := vx_backW (hh := hh) (bytes := bytes) (maxL := maxL) (ret := ret) hM hp.1 hrc hrs hfr hlo hws hcw (fun a' U hW => word_at hW (Or.inl (by first | rfl | simp [Cond.onTables, Cond.keeps, Cond.steady])) hini)
  obtain ⟨hx, hb, hml, ho, -⟩ := S
  intro T hT X
  rcases vx_callSX X hx (hh := hh) (bytes := bytes) (maxL := maxL) (ret := ret) ho hl hstt hini hcode hy hK hg (hsize.trans hml.symm) (argsL := As) (rest := rest) (fun sig h => hn.trans (hlen sig h)) hstack hW (by rw [hb]; exact hdg)
    (fun vm₁ hW₁ => ⟨hf.1, hf.2, hp.2 (T.setVm vm₁) hT hW₁⟩) with ⟨v, vm₁, ⟨U', l2, c2, s2⟩, hW₁, X', ⟨g', mk, t, L, e1, e2, hq, h1, hL, h2, h3⟩, st⟩ | ⟨q, vm₁, ⟨U', l2, c2, s2⟩, hW₁, X', ⟨g', mk, t, L, E, ce, e1, e2, hq, hce, hcv, hcl, h1, hL, h2, h3⟩, st⟩
  · dsimp only [Pt.U, Pt.locs, Pt.cells, Pt.slots] at X' e1 e2 h1 h2 h3 st
    subst h1; subst h2; subst h3
    exact Or.inl ⟨v, (T.setVm vm₁).calling g' mk As.toArray, t, U', L, hT, X', hL, e1, e2, hq, st⟩
  · dsimp only [Pt.U, Pt.locs, Pt.cells, Pt.slots] at X' e1 e2 h1 h2 h3 st hcl
    subst h1; subst h2; subst h3
    exact Or.inr ⟨q, (T.setVm vm₁).calling g' mk As.toArray, t, U', L, E, ce, hT, X', hL, e1, e2, hq, hce, hcv, vx_cls hW₁ hcl, st⟩
end
end VXH
theorem vx_ofWH {l : Launch} {y : MethodName} {ws ws' : List Cond} {rm : Room} {Pc : Array Value → State → Prop} {Qc : Array Value → State → Outcome → State → Prop} {XC : String → State → State → Prop} {mc ms : Nat} {free : Addr → Prop} {cc : ByteArray} {maxL : Nat} {ret : Option FieldType} {hh : List (Nat × Nat × Nat × Nat)}
    (hy : plainName y.cls = true) (hw : ws = Cond.codeWith y cc maxL ret hh :: ws')
    (body : ∀ p e s m args below meth c s₁, BodyLoose p l y (headSpec ws rm) cc maxL ret e s m args below meth c s₁ → c.maxLocals = maxL → Pc args s →
      W p l e (headSpec ws rm).room s m args below meth c s.heap [] 0 0 (vx_MQ below Qc XC args s mc ms free) (entryFrame m args maxL)) : vx_Met l y ws rm Pc Qc XC mc ms free := by
  refine MetFree.of_bodyS (code := cc) (maxLocals := maxL) (ret := ret) hy ?_ ?_
  · intro args s m h hn
    obtain ⟨m9, meth, c, hn9, h1, h2, h3, h4, -, h5, h6, -⟩ := Cond.codeWith_spec (atoms_spec (ws := ws) h _ (by rw [hw]; exact List.mem_cons_self))
    cases hn.symm.trans hn9
    exact ⟨meth, c, h1, h2, h3, h4, h5, h6⟩
  · intro p e s m args below meth c s₁ B hml hP _
    have hh0 : s₁.heap = s.heap := by rw [B.state]; rfl
    obtain ⟨t, a1, o, b1, b2, b3⟩ := body p e s m args below meth c s₁ B hml hP s₁ hh0 (Stand.of_body B)
    exact ⟨t, o, a1, b1, b2, b3⟩
/-! ===== END ===== -/
/-! ===== BEGIN a constructor that throws (launches without stack traces) ===== -/
section VXIA
variable {p : Program} {l : Launch} {e : Env} {R : Room} {s : State} {m : MethodId} {args : Array Value} {below : List Frame} {meth : Method} {c : Code} {T : State} {locs : List Loc} {cells slots : Nat}
theorem vx_callI (X : Stand p l e R s m args below meth c T locs cells slots) (hexec : p.tables.exec = Jvm.exec) {own : String} {index : Nat} {y : MethodName} {bytes : ByteArray} {maxL : Nat}
    (hown : s.vm.findClass own = some m.cls) (hy1 : y.name = "<init>") (hlink : (Cond.methodLink own index y).before args s = true) (hinst : (Cond.instanceMethod y).before args s = true)
    (hcode : (Cond.code y bytes maxL none).before args s = true) (hy : y.cls ≠ "java/lang/invoke/MethodHandle" ∧ y.cls ≠ "java/lang/invoke/VarHandle")
    {W9 : Nat} {Pre : Pt → Array Value → Prop} {Post : Pt → Array Value → Option Value → Pt → Prop} {PostX : Pt → Array Value → Addr → Pt → Prop} (hK : vx_Back l R p e below s args y 3 W9 Pre Post PostX)
    {g : JFrame} (hg : g.method = m) (hsize : g.locals.size = c.maxLocals) {a : Addr} {argsL rest : List Value} (hlen : ∀ sig, parseMethodDescriptor y.desc = some sig → argsL.length = sig.parameters.length)
    (hstack : g.stack = argsL.reverse ++ .ref a :: rest) (hW : 2 * g.monitorRoom + (rest.map fun v => v.category).sum ≤ W9) (hdg : decode c.code g.pc = .ok (.invokespecial index, 3))
    (hpre : ∀ vm₁, s.WarmedH vm₁ → Pre ⟨T.setVm vm₁, locs, cells, slots⟩ (Value.ref a :: argsL).toArray) :
    (∃ (v : Option Value) (vm₁ : Vm) (B : Pt), s.WarmedH vm₁ ∧ Stand p l e R s m args below meth c B.U B.locs B.cells B.slots ∧ Post ⟨T.setVm vm₁, locs, cells, slots⟩ (Value.ref a :: argsL).toArray v B ∧
      ∀ target, Steps p.tables e below (B.U.setTop { g with pc := g.pc + 3, stack := v.toList ++ rest }) target → Steps p.tables e below (T.setTop g) target) ∨
    (∃ (q : Addr) (vm₁ : Vm) (B : Pt), s.WarmedH vm₁ ∧ Stand p l e R s m args below meth c B.U B.locs B.cells B.slots ∧ PostX ⟨T.setVm vm₁, locs, cells, slots⟩ (Value.ref a :: argsL).toArray q B ∧
      Steps p.tables e below (T.setTop g) ((B.U.setTop { g with stack := rest }).pushFrame (.throwing q))) := by
  subst hg
  have hpl : e.platform.magicAccessors = ({} : Platform).magicAccessors := by rw [X.admits.platform]
  obtain ⟨mk, methM, cM, kP, vm₁, hnamed, hmethM, hcodeM, -, hlocalsM, -, hkP, -, hW₁, hstep₁⟩ := Steps.initColdArgs (e := e) X.here hexec X.warmed hpl hown hy1 hy hlink hinst hcode (f := g) rfl hlen hstack hdg
  have X₁ := X.noted hW₁
  rcases hK g.method meth c ⟨T.setVm vm₁, locs, cells, slots⟩ { g with stack := rest } (.invokespecial index) mk (Value.ref a :: argsL).toArray X₁ rfl hsize hdg hW (X₁.named hnamed) (hpre vm₁ X₁.warmed) with ⟨v, B, X', hpost, hsteps⟩ | ⟨q, B, X', hpost, hsteps⟩
  · exact Or.inl ⟨v, vm₁, B, X₁.warmed, X', hpost, fun target h => hstep₁ _ fun acts => by rw [doInvoke_state]; exact hsteps.trans h⟩
  · exact Or.inr ⟨q, vm₁, B, X₁.warmed, X', hpost, hstep₁ _ fun acts => by rw [doInvoke_state]; exact hsteps⟩
end VXIA
section VXIB
variable {p : Program} {l : Launch} {e : Env} {R : Room} {s : State} {m : MethodId} {args : Array Value} {below : List Frame} {meth : Method} {c : Code} {H : Heap} {locs : List Loc} {cells slots : Nat}
variable {y : MethodName} {bytes cc : ByteArray} {maxL nL mc ms n index : Nat} {ret : Option FieldType} {ws : List Cond} {rm : Room} {Pc : Array Value → State → Prop} {Qc : Array Value → State → Outcome → State → Prop} {XC : String → State → State → Prop} {free : Addr → Prop} {Ts : List Cond} {own C : String} {b : Addr} {As rest : List Value} {g : JFrame}
theorem vx_runI (S : CallFix p m c cc nL s args Ts own) (hM : vx_Met l y ws rm Pc Qc XC mc ms free) (cw : CallB R s args own index y bytes maxL none ws rm mc ms n ∧ y.name = "<init>" ∧ (Cond.instanceMethod y).before args s = true) (hp : PreS s H Pc (.ref b :: As))
    (hg : g.method = m) (hn : As.length = n) (hsize : g.locals.size = nL) (hstack : g.stack = As.reverse ++ .ref b :: rest) (hW : 2 * g.monitorRoom + (rest.map fun v => v.category).sum ≤ 8) (hdg : decode cc g.pc = .ok (.invokespecial index, 3)) (hf : cells + mc ≤ R.cells ∧ slots + ms ≤ R.slots) :
    vx_Run p l e R s m args below meth c H locs cells slots mc ms g rest (Qc (Value.ref b :: As).toArray) XC free := by
  have hK : vx_Back l R p e below s args y 3 8 (PreOf R mc ms Pc) (PostOf Qc mc ms free) (vx_Post XC mc ms free) := vx_callBack cw.1 hM hp.1
  obtain ⟨⟨-, -, -, -, -, -, hcode, -, hy, hlen, hl⟩, hy1, hin⟩ := cw
  obtain ⟨hx, hb, hml, ho, -⟩ := S
  have hPc := hp.2
  intro T hT X
  rcases vx_callI X hx (bytes := bytes) (maxL := maxL) ho hy1 hl hin hcode hy hK hg (hsize.trans hml.symm) (a := b) (argsL := As) (rest := rest) (fun sig h => hn.trans (hlen sig h)) hstack hW (by rw [hb]; exact hdg)
    (fun vm₁ hW₁ => ⟨hf.1, hf.2, hPc (T.setVm vm₁) hT hW₁⟩) with ⟨v, vm₁, ⟨U', l2, c2, s2⟩, hW₁, X', ⟨g', mk, t, L, e1, e2, hq, h1, hL, h2, h3⟩, st⟩ | ⟨q, vm₁, ⟨U', l2, c2, s2⟩, hW₁, X', ⟨g', mk, t, L, E, ce, e1, e2, hq, hce, hcv, hcl, h1, hL, h2, h3⟩, st⟩
  · dsimp only [Pt.U, Pt.locs, Pt.cells, Pt.slots] at X' e1 e2 h1 h2 h3 st
    subst h1; subst h2; subst h3
    exact Or.inl ⟨v, (T.setVm vm₁).calling g' mk (Value.ref b :: As).toArray, t, U', L, hT, X', hL, e1, e2, hq, st⟩
  · dsimp only [Pt.U, Pt.locs, Pt.cells, Pt.slots] at X' e1 e2 h1 h2 h3 st hcl
    subst h1; subst h2; subst h3
    exact Or.inr ⟨q, (T.setVm vm₁).calling g' mk (Value.ref b :: As).toArray, t, U', L, E, ce, hT, X', hL, e1, e2, hq, hce, hcv, vx_cls hW₁ hcl, st⟩
end VXIB
/-! ===== END ===== -/
/-! ===== BEGIN a private constructor of a nest mate that throws ===== -/
section VXIC
variable {p : Program} {l : Launch} {e : Env} {R : Room} {s : State} {m : MethodId} {args : Array Value} {below : List Frame} {meth : Method} {c : Code} {T : State} {locs : List Loc} {cells slots : Nat}
theorem vx_callIN (X : Stand p l e R s m args below meth c T locs cells slots) (hexec : p.tables.exec = Jvm.exec) {own : String} {index : Nat} {host : String} {y : MethodName} {bytes : ByteArray} {maxL : Nat}
    (hown : s.vm.findClass own = some m.cls) (hy1 : y.name = "<init>") (hlink : (Cond.methodLinkNest own index y host).before args s = true) (hinst : (Cond.instanceMethod y).before args s = true)
    (hcode : (Cond.code y bytes maxL none).before args s = true) (hy : y.cls ≠ "java/lang/invoke/MethodHandle" ∧ y.cls ≠ "java/lang/invoke/VarHandle")
    {W9 : Nat} {Pre : Pt → Array Value → Prop} {Post : Pt → Array Value → Option Value → Pt → Prop} {PostX : Pt → Array Value → Addr → Pt → Prop} (hK : vx_Back l R p e below s args y 3 W9 Pre Post PostX)
    {g : JFrame} (hg : g.method = m) (hsize : g.locals.size = c.maxLocals) {a : Addr} {argsL rest : List Value} (hlen : ∀ sig, parseMethodDescriptor y.desc = some sig → argsL.length = sig.parameters.length)
    (hstack : g.stack = argsL.reverse ++ .ref a :: rest) (hW : 2 * g.monitorRoom + (rest.map fun v => v.category).sum ≤ W9) (hdg : decode c.code g.pc = .ok (.invokespecial index, 3))
    (hpre : ∀ vm₁, s.WarmedH vm₁ → Pre ⟨T.setVm vm₁, locs, cells, slots⟩ (Value.ref a :: argsL).toArray) :
    (∃ (v : Option Value) (vm₁ : Vm) (B : Pt), s.WarmedH vm₁ ∧ Stand p l e R s m args below meth c B.U B.locs B.cells B.slots ∧ Post ⟨T.setVm vm₁, locs, cells, slots⟩ (Value.ref a :: argsL).toArray v B ∧
      ∀ target, Steps p.tables e below (B.U.setTop { g with pc := g.pc + 3, stack := v.toList ++ rest }) target → Steps p.tables e below (T.setTop g) target) ∨
    (∃ (q : Addr) (vm₁ : Vm) (B : Pt), s.WarmedH vm₁ ∧ Stand p l e R s m args below meth c B.U B.locs B.cells B.slots ∧ PostX ⟨T.setVm vm₁, locs, cells, slots⟩ (Value.ref a :: argsL).toArray q B ∧
      Steps p.tables e below (T.setTop g) ((B.U.setTop { g with stack := rest }).pushFrame (.throwing q))) := by
  subst hg
  have hpl : e.platform.magicAccessors = ({} : Platform).magicAccessors := by rw [X.admits.platform]
  obtain ⟨mk, methM, cM, kP, vm₁, hnamed, hmethM, hcodeM, -, hlocalsM, -, hkP, -, hW₁, hstep₁⟩ := Steps.initColdArgsNest (e := e) X.here hexec X.warmed hpl hown hy1 hy hlink hinst hcode (f := g) rfl hlen hstack hdg
  have X₁ := X.noted hW₁
  rcases hK g.method meth c ⟨T.setVm vm₁, locs, cells, slots⟩ { g with stack := rest } (.invokespecial index) mk (Value.ref a :: argsL).toArray X₁ rfl hsize hdg hW (X₁.named hnamed) (hpre vm₁ X₁.warmed) with ⟨v, B, X', hpost, hsteps⟩ | ⟨q, B, X', hpost, hsteps⟩
  · exact Or.inl ⟨v, vm₁, B, X₁.warmed, X', hpost, fun target h => hstep₁ _ fun acts => by rw [doInvoke_state]; exact hsteps.trans h⟩
  · exact Or.inr ⟨q, vm₁, B, X₁.warmed, X', hpost, hstep₁ _ fun acts => by rw [doInvoke_state]; exact hsteps⟩
end VXIC
section VXID
variable {p : Program} {l : Launch} {e : Env} {R : Room} {s : State} {m : MethodId} {args : Array Value} {below : List Frame} {meth : Method} {c : Code} {H : Heap} {locs : List Loc} {cells slots : Nat}
theorem vx_runIN {y : MethodName} {bytes cc : ByteArray} {maxL nL mc ms n index : Nat} {ws : List Cond} {rm : Room} {Pc : Array Value → State → Prop} {Qc : Array Value → State → Outcome → State → Prop} {XC : String → State → State → Prop} {free : Addr → Prop} {Ts : List Cond} {own host : String} {b : Addr} {As rest : List Value} {g : JFrame}
    (S : CallFix p m c cc nL s args Ts own) (hM : vx_Met l y ws rm Pc Qc XC mc ms free) (cw : va_CN R s args own index y host bytes maxL none ws rm mc ms n ∧ y.name = "<init>" ∧ (Cond.instanceMethod y).before args s = true) (hp : PreS s H Pc (.ref b :: As))
    (hg : g.method = m) (hn : As.length = n) (hsize : g.locals.size = nL) (hstack : g.stack = As.reverse ++ .ref b :: rest) (hW : 2 * g.monitorRoom + (rest.map fun v => v.category).sum ≤ 8) (hdg : decode cc g.pc = .ok (.invokespecial index, 3)) (hf : cells + mc ≤ R.cells ∧ slots + ms ≤ R.slots) :
    vx_Run p l e R s m args below meth c H locs cells slots mc ms g rest (Qc (Value.ref b :: As).toArray) XC free := by
  obtain ⟨⟨⟨hrc, hrs, hfr, hlo, hws, hcw⟩, hcode, hini, hy, hlen, hl⟩, hx1, hx2⟩ := cw
  have hK : vx_Back l R p e below s args y 3 8 (PreOf R mc ms Pc) (PostOf Qc mc ms free) (vx_Post XC mc ms free) := vx_back (bytes := bytes) (maxL := maxL) (ret := none) hM hp.1 hrc hrs hfr hlo hws hcw (fun a' U hW => word_at hW (Or.inl (by first | rfl | simp [Cond.onTables, Cond.keeps, Cond.steady])) hini)
  obtain ⟨hx, hb, hml, ho, -⟩ := S
  have hPc := hp.2
  intro T hT X
  rcases vx_callIN X hx (bytes := bytes) (maxL := maxL) ho hx1 hl hx2 hcode hy hK hg (hsize.trans hml.symm) (a := b) (argsL := As) (rest := rest) (fun sig h => hn.trans (hlen sig h)) hstack hW (by rw [hb]; exact hdg)
    (fun vm₁ hW₁ => ⟨hf.1, hf.2, hPc (T.setVm vm₁) hT hW₁⟩) with ⟨v, vm₁, ⟨U', l2, c2, s2⟩, hW₁, X', ⟨g', mk, t, L, e1, e2, hq, h1, hL, h2, h3⟩, st⟩ | ⟨q, vm₁, ⟨U', l2, c2, s2⟩, hW₁, X', ⟨g', mk, t, L, E, ce, e1, e2, hq, hce, hcv, hcl, h1, hL, h2, h3⟩, st⟩
  · dsimp only [Pt.U, Pt.locs, Pt.cells, Pt.slots] at X' e1 e2 h1 h2 h3 st
    subst h1; subst h2; subst h3
    exact Or.inl ⟨v, (T.setVm vm₁).calling g' mk (Value.ref b :: As).toArray, t, U', L, hT, X', hL, e1, e2, hq, st⟩
  · dsimp only [Pt.U, Pt.locs, Pt.cells, Pt.slots] at X' e1 e2 h1 h2 h3 st hcl
    subst h1; subst h2; subst h3
    exact Or.inr ⟨q, (T.setVm vm₁).calling g' mk (Value.ref b :: As).toArray, t, U', L, E, ce, hT, X', hL, e1, e2, hq, hce, hcv, vx_cls hW₁ hcl, st⟩
end VXID
/-! ===== END ===== -/
/-! ===== BEGIN a private method of a nest mate that may throw (follows va_callVN, va_callSN, va_runVN, va_runSN) ===== -/
section
variable {p : Program} {l : Launch} {e : Env} {R : Room} {s : State} {m : MethodId} {args : Array Value} {below : List Frame} {meth : Method} {c : Code} {H : Heap} {locs : List Loc} {cells slots : Nat}
variable {T : State}
theorem vx_callVN (X : Stand p l e R s m args below meth c T locs cells slots) (hexec : p.tables.exec = Jvm.exec) {own C : String} {index : Nat} {host : String} {y : MethodName} {bytes : ByteArray} {maxL : Nat} {ret : Option FieldType}
    (hown : s.vm.findClass own = some m.cls) (hlink : (Cond.methodLinkNest own index y host).before args s = true) (hinst : (Cond.instanceMethod y).before args s = true) (hsel : (Cond.selects C y y).before args s = true)
    (hcode : (Cond.code y bytes maxL ret).before args s = true) (hy : y.cls ≠ "java/lang/invoke/MethodHandle" ∧ y.cls ≠ "java/lang/invoke/VarHandle")
    {W : Nat} {Pre : Pt → Array Value → Prop} {Post : Pt → Array Value → Option Value → Pt → Prop} {PostX : Pt → Array Value → Addr → Pt → Prop} (hK : vx_Back l R p e below s args y 3 W Pre Post PostX)
    {b : Addr} {cellB : Cell} (hcell : T.heap[b]? = some cellB) (hobj : cellB.vm.isStatics = false) (hcls : s.vm.findClass C = some cellB.cls)
    {g : JFrame} (hg : g.method = m) (hsize : g.locals.size = c.maxLocals) {argsL rest : List Value} (hlen : ∀ sig, parseMethodDescriptor y.desc = some sig → argsL.length = sig.parameters.length)
    (hstack : g.stack = argsL.reverse ++ .ref b :: rest) (hW : 2 * g.monitorRoom + (rest.map fun v => v.category).sum ≤ W) (hdg : decode c.code g.pc = .ok (.invokevirtual index, 3))
    (hpre : ∀ vm₁, s.WarmedH vm₁ → Pre ⟨T.setVm vm₁, locs, cells, slots⟩ (Value.ref b :: argsL).toArray) :
    (∃ (v : Option Value) (vm₁ : Vm) (B : Pt), s.WarmedH vm₁ ∧ Stand p l e R s m args below meth c B.U B.locs B.cells B.slots ∧ Post ⟨T.setVm vm₁, locs, cells, slots⟩ (Value.ref b :: argsL).toArray v B ∧
      ∀ target, Steps p.tables e below (B.U.setTop { g with pc := g.pc + 3, stack := v.toList ++ rest }) target → Steps p.tables e below (T.setTop g) target) ∨
    (∃ (q : Addr) (vm₁ : Vm) (B : Pt), s.WarmedH vm₁ ∧ Stand p l e R s m args below meth c B.U B.locs B.cells B.slots ∧ PostX ⟨T.setVm vm₁, locs, cells, slots⟩ (Value.ref b :: argsL).toArray q B ∧
      Steps p.tables e below (T.setTop g) ((B.U.setTop { g with stack := rest }).pushFrame (.throwing q))) := by
  obtain ⟨mk, methM, hnamed, hmethM, hstM, habM⟩ := Cond.instanceMethod_spec hinst
  obtain ⟨methM', cM, hmethM', -, -, -, -, -, -, hsigM⟩ := Cond.code_spec hnamed hcode
  cases hmethM.symm.trans hmethM'
  obtain ⟨c2, r2, m2, q1, q2, q3, q4, kP, hkP, hkPi⟩ := Cond.selects_spec hsel
  cases hcls.symm.trans q1
  cases (State.methodFound?_of_named hnamed hy).symm.trans q2
  cases hnamed.symm.trans q3
  have hselP : selectMethod e.platform s.vm cellB.cls mk = .method mk := by rw [Launch.admits_selectMethod X.admits]; exact q4
  obtain ⟨vm₁, X₁, hstep₁⟩ := X.invokevirtualNest hexec hown hlink hnamed hmethM hstM hkP hkPi hy (a := b) (cell := cellB) hcell
    (fun z h => by rw [h] at hobj; cases hobj) hselP hmethM habM hkP hkPi (g := g) hg (argsL := argsL) (rest := rest) (hlen _ hsigM) hstack hdg
  rcases hK m meth c ⟨T.setVm vm₁, locs, cells, slots⟩ { g with stack := rest } (.invokevirtual index) mk (Value.ref b :: argsL).toArray X₁ hg hsize hdg hW (X₁.named hnamed) (hpre vm₁ X₁.warmed) with ⟨v, B, X', hpost, hsteps⟩ | ⟨q, B, X', hpost, hsteps⟩
  · exact Or.inl ⟨v, vm₁, B, X₁.warmed, X', hpost, fun target h => hstep₁ _ fun acts => by rw [doInvoke_state]; exact hsteps.trans h⟩
  · exact Or.inr ⟨q, vm₁, B, X₁.warmed, X', hpost, hstep₁ _ fun acts => by rw [doInvoke_state]; exact hsteps⟩
theorem vx_callSN (X : Stand p l e R s m args below meth c T locs cells slots) (hexec : p.tables.exec = Jvm.exec) {own : String} {index : Nat} {host : String} {y : MethodName} {bytes : ByteArray} {maxL : Nat} {ret : Option FieldType}
    (hown : s.vm.findClass own = some m.cls) (hlink : (Cond.methodLinkNest own index y host).before args s = true) (hstat : (Cond.static y).before args s = true) (hinit : (Cond.initialized y.cls).before args s = true)
    (hcode : (Cond.code y bytes maxL ret).before args s = true) (hy : y.cls ≠ "java/lang/invoke/MethodHandle" ∧ y.cls ≠ "java/lang/invoke/VarHandle")
    {W : Nat} {Pre : Pt → Array Value → Prop} {Post : Pt → Array Value → Option Value → Pt → Prop} {PostX : Pt → Array Value → Addr → Pt → Prop} (hK : vx_Back l R p e below s args y 3 W Pre Post PostX)
    {g : JFrame} (hg : g.method = m) (hsize : g.locals.size = c.maxLocals) {argsL rest : List Value} (hlen : ∀ sig, parseMethodDescriptor y.desc = some sig → argsL.length = sig.parameters.length)
    (hstack : g.stack = argsL.reverse ++ rest) (hW : 2 * g.monitorRoom + (rest.map fun v => v.category).sum ≤ W) (hdg : decode c.code g.pc = .ok (.invokestatic index, 3))
    (hpre : ∀ vm₁, s.WarmedH vm₁ → Pre ⟨T.setVm vm₁, locs, cells, slots⟩ argsL.toArray) :
    (∃ (v : Option Value) (vm₁ : Vm) (B : Pt), s.WarmedH vm₁ ∧ Stand p l e R s m args below meth c B.U B.locs B.cells B.slots ∧ Post ⟨T.setVm vm₁, locs, cells, slots⟩ argsL.toArray v B ∧
      ∀ target, Steps p.tables e below (B.U.setTop { g with pc := g.pc + 3, stack := v.toList ++ rest }) target → Steps p.tables e below (T.setTop g) target) ∨
    (∃ (q : Addr) (vm₁ : Vm) (B : Pt), s.WarmedH vm₁ ∧ Stand p l e R s m args below meth c B.U B.locs B.cells B.slots ∧ PostX ⟨T.setVm vm₁, locs, cells, slots⟩ argsL.toArray q B ∧
      Steps p.tables e below (T.setTop g) ((B.U.setTop { g with stack := rest }).pushFrame (.throwing q))) := by
  obtain ⟨mk, hnamed⟩ := Cond.code_named hcode
  obtain ⟨methM, cM, hmethM, -, -, -, -, -, -, hsigM⟩ := Cond.code_spec hnamed hcode
  have hstatic : methM.isStatic = true := Cond.static_spec hnamed hmethM hstat
  obtain ⟨kP, hkP, -⟩ := className_of_methodNamed hnamed
  have hinitP : kP.init = .initialized := Cond.initialized_spec (findClass_of_methodNamed hnamed) hkP hinit
  obtain ⟨vm₁, X₁, hstep₁⟩ := X.invokestaticNest hexec hown hlink hnamed hmethM hstatic hkP hinitP hy (g := g) hg (argsL := argsL) (rest := rest) (hlen _ hsigM) hstack hdg
  rcases hK m meth c ⟨T.setVm vm₁, locs, cells, slots⟩ { g with stack := rest } (.invokestatic index) mk argsL.toArray X₁ hg hsize hdg hW (X₁.named hnamed) (hpre vm₁ X₁.warmed) with ⟨v, B, X', hpost, hsteps⟩ | ⟨q, B, X', hpost, hsteps⟩
  · exact Or.inl ⟨v, vm₁, B, X₁.warmed, X', hpost, fun target h => hstep₁ _ fun acts => by rw [doInvoke_state]; exact hsteps.trans h⟩
  · exact Or.inr ⟨q, vm₁, B, X₁.warmed, X', hpost, hstep₁ _ fun acts => by rw [doInvoke_state]; exact hsteps⟩
theorem vx_runVN {y : MethodName} {bytes cc : ByteArray} {maxL nL mc ms n index : Nat} {ret : Option FieldType} {ws : List Cond} {rm : Room} {Pc : Array Value → State → Prop} {Qc : Array Value → State → Outcome → State → Prop} {XC : String → State → State → Prop} {free : Addr → Prop} {Ts : List Cond} {own C host : String} {b : Addr} {As rest : List Value} {g : JFrame}
    (S : CallFix p m c cc nL s args Ts own) (hM : vx_Met l y ws rm Pc Qc XC mc ms free) (cw : va_CN R s args own index y host bytes maxL ret ws rm mc ms n ∧ (Cond.instanceMethod y).before args s = true ∧ (Cond.selects C y y).before args s = true) (hp : PreV s H C b Pc As)
    (hg : g.method = m) (hn : As.length = n) (hsize : g.locals.size = nL) (hstack : g.stack = As.reverse ++ .ref b :: rest) (hW : 2 * g.monitorRoom + (rest.map fun v => v.category).sum ≤ 8) (hdg : decode cc g.pc = .ok (.invokevirtual index, 3)) (hf : cells + mc ≤ R.cells ∧ slots + ms ≤ R.slots) :
    vx_Run p l e R s m args below meth c H locs cells slots mc ms g rest (Qc (Value.ref b :: As).toArray) XC free := by
  obtain ⟨⟨⟨hrc, hrs, hfr, hlo, hws, hcw⟩, hcode, hini, hy, hlen, hl⟩, hx1, hx2⟩ := cw
  have hK : vx_Back l R p e below s args y 3 8 (PreOf R mc ms Pc) (PostOf Qc mc ms free) (vx_Post XC mc ms free) := vx_back (bytes := bytes) (maxL := maxL) (ret := ret) hM hp.1 hrc hrs hfr hlo hws hcw (fun a' U hW => word_at hW (Or.inl (by first | rfl | simp [Cond.onTables, Cond.keeps, Cond.steady])) hini)
  obtain ⟨hx, hb, hml, ho, -⟩ := S
  obtain ⟨-, ⟨cellB, hcB, hoB, hclB⟩, hPc⟩ := hp
  intro T hT X
  rcases vx_callVN X hx (C := C) (bytes := bytes) (maxL := maxL) (ret := ret) ho hl hx1 hx2 hcode hy hK (by rw [hT]; exact hcB) hoB hclB hg (hsize.trans hml.symm) (argsL := As) (rest := rest) (fun sig h => hn.trans (hlen sig h)) hstack hW (by rw [hb]; exact hdg)
    (fun vm₁ hW₁ => ⟨hf.1, hf.2, hPc (T.setVm vm₁) hT hW₁⟩) with ⟨v, vm₁, ⟨U', l2, c2, s2⟩, hW₁, X', ⟨g', mk, t, L, e1, e2, hq, h1, hL, h2, h3⟩, st⟩ | ⟨q, vm₁, ⟨U', l2, c2, s2⟩, hW₁, X', ⟨g', mk, t, L, E, ce, e1, e2, hq, hce, hcv, hcl, h1, hL, h2, h3⟩, st⟩
  · dsimp only [Pt.U, Pt.locs, Pt.cells, Pt.slots] at X' e1 e2 h1 h2 h3 st
    subst h1; subst h2; subst h3
    exact Or.inl ⟨v, (T.setVm vm₁).calling g' mk (Value.ref b :: As).toArray, t, U', L, hT, X', hL, e1, e2, hq, st⟩
  · dsimp only [Pt.U, Pt.locs, Pt.cells, Pt.slots] at X' e1 e2 h1 h2 h3 st hcl
    subst h1; subst h2; subst h3
    exact Or.inr ⟨q, (T.setVm vm₁).calling g' mk (Value.ref b :: As).toArray, t, U', L, E, ce, hT, X', hL, e1, e2, hq, hce, hcv, vx_cls hW₁ hcl, st⟩
theorem vx_runSN {y : MethodName} {bytes cc : ByteArray} {maxL nL mc ms n index : Nat} {ret : Option FieldType} {ws : List Cond} {rm : Room} {Pc : Array Value → State → Prop} {Qc : Array Value → State → Outcome → State → Prop} {XC : String → State → State → Prop} {free : Addr → Prop} {Ts : List Cond} {own host : String} {As rest : List Value} {g : JFrame}
    (S : CallFix p m c cc nL s args Ts own) (hM : vx_Met l y ws rm Pc Qc XC mc ms free) (cw : va_CN R s args own index y host bytes maxL ret ws rm mc ms n ∧ (Cond.static y).before args s = true ∧ True) (hp : PreS s H Pc As)
    (hg : g.method = m) (hn : As.length = n) (hsize : g.locals.size = nL) (hstack : g.stack = As.reverse ++ rest) (hW : 2 * g.monitorRoom + (rest.map fun v => v.category).sum ≤ 8) (hdg : decode cc g.pc = .ok (.invokestatic index, 3)) (hf : cells + mc ≤ R.cells ∧ slots + ms ≤ R.slots) :
    vx_Run p l e R s m args below meth c H locs cells slots mc ms g rest (Qc As.toArray) XC free := by
  obtain ⟨⟨⟨hrc, hrs, hfr, hlo, hws, hcw⟩, hcode, hini, hy, hlen, hl⟩, hx1, hx2⟩ := cw
  have hK : vx_Back l R p e below s args y 3 8 (PreOf R mc ms Pc) (PostOf Qc mc ms free) (vx_Post XC mc ms free) := vx_back (bytes := bytes) (maxL := maxL) (ret := ret) hM hp.1 hrc hrs hfr hlo hws hcw (fun a' U hW => word_at hW (Or.inl (by first | rfl | simp [Cond.onTables, Cond.keeps, Cond.steady])) hini)
  obtain ⟨hx, hb, hml, ho, -⟩ := S
  have hPc := hp.2
  intro T hT X
  rcases vx_callSN X hx (bytes := bytes) (maxL := maxL) (ret := ret) ho hl hx1 hini hcode hy hK hg (hsize.trans hml.symm) (argsL := As) (rest := rest) (fun sig h => hn.trans (hlen sig h)) hstack hW (by rw [hb]; exact hdg)
    (fun vm₁ hW₁ => ⟨hf.1, hf.2, hPc (T.setVm vm₁) hT hW₁⟩) with ⟨v, vm₁, ⟨U', l2, c2, s2⟩, hW₁, X', ⟨g', mk, t, L, e1, e2, hq, h1, hL, h2, h3⟩, st⟩ | ⟨q, vm₁, ⟨U', l2, c2, s2⟩, hW₁, X', ⟨g', mk, t, L, E, ce, e1, e2, hq, hce, hcv, hcl, h1, hL, h2, h3⟩, st⟩
  · dsimp only [Pt.U, Pt.locs, Pt.cells, Pt.slots] at X' e1 e2 h1 h2 h3 st
    subst h1; subst h2; subst h3
    exact Or.inl ⟨v, (T.setVm vm₁).calling g' mk As.toArray, t, U', L, hT, X', hL, e1, e2, hq, st⟩
  · dsimp only [Pt.U, Pt.locs, Pt.cells, Pt.slots] at X' e1 e2 h1 h2 h3 st hcl
    subst h1; subst h2; subst h3
    exact Or.inr ⟨q, (T.setVm vm₁).calling g' mk As.toArray, t, U', L, E, ce, hT, X', hL, e1, e2, hq, hce, hcv, vx_cls hW₁ hcl, st⟩
end
/-! ===== END ===== -/
end
section
/-! THE PURE MACHINE: what the bytecode of this claim does, over handles instead of addresses. Types and helpers. -/
abbrev zm_C : Type := (FieldType × Nat × ((Nat → Int32) ⊕ (Nat → Int64) ⊕ (Nat → Option Nat))) ⊕ (Nat × List Value)
abbrev zm_H : Type := Nat × (Nat → zm_C) × Nat × Nat
abbrev zm_E : Type := Nat × Instr × Nat × Nat × Nat × Nat × Int32 × Int64 × List Nat
abbrev zm_O : Type := Option Value ⊕ Nat
abbrev zm_R : Type := zm_O × zm_H
abbrev zm_L : Type := List (Option Value)
abbrev zm_X : Type := Nat × Nat × zm_L × List Value × zm_H
abbrev zm_K : Type := zm_X → Option zm_R
abbrev zm_M : Type := String × MethodName × ByteArray × Nat × Option FieldType × List (Nat × Nat × Nat × Nat) × Nat × Nat
/-- a cell is written -/
def zm_u (h : zm_H) (a : Nat) (c : zm_C) : zm_H := (h.1, fun k => if k = a then c else h.2.1 k, h.2.2)
/-- a cell comes -/
def zm_nw (h : zm_H) (c : zm_C) (k : Nat) : zm_H := (h.1 + 1, fun j => if j = h.1 then c else h.2.1 j, h.2.2.1 + 1, h.2.2.2 + k)
/-- an exception is made -/
def zm_th (h : zm_H) : zm_H := (h.1, h.2.1, h.2.2.1 + 1, h.2.2.2 + 6)
def zm_lc (ls : zm_L) (i : Nat) : Option Value := match ls[i]? with
  | some o => o
  | none => none
def zm_cut (ls : zm_L) (i : Nat) : zm_L := match i with
  | 0 => ls
  | j + 1 => match zm_lc ls j with
    | some (.long _) => ls.set j none
    | some (.double _) => ls.set j none
    | _ => ls
def zm_s0 (ls : zm_L) (i : Nat) : zm_L := (zm_cut ls i).set i none
def zm_s1 (ls : zm_L) (i : Nat) (v : Value) : zm_L := (zm_cut ls i).set i (some v)
def zm_s2 (ls : zm_L) (i : Nat) (v : Value) : zm_L := ((zm_cut ls i).set i (some v)).set (i + 1) none
/-- an index that is in its row -/
def zm_ix (x : Int32) (n : Nat) : Option Nat := if x < 0 then none else if x.toNatClampNeg < n then some x.toNatClampNeg else none
def zm_gI (h : zm_H) (o c k : Nat) : Option Int32 := match h.2.1 o with
  | .inr (cj, fs) => if cj = c then (match fs[k]? with
    | some (.int x) => some x
    | _ => none) else none
  | _ => none
def zm_gR (h : zm_H) (o c k : Nat) : Option Nat := match h.2.1 o with
  | .inr (cj, fs) => if cj = c then (match fs[k]? with
    | some (.ref x) => some x
    | _ => none) else none
  | _ => none
def zm_pt (h : zm_H) (o c k : Nat) (v : Value) : Option zm_H := match h.2.1 o with
  | .inr (cj, fs) => if cj = c then (if k < fs.length then some (zm_u h o (.inr (cj, fs.set k v))) else none) else none
  | _ => none
def zm_aI (h : zm_H) (o : Nat) (x : Int32) : Option Int32 := match h.2.1 o with
  | .inl (.int, n, .inl f) => (zm_ix x n).map f
  | _ => none
def zm_aZ (h : zm_H) (o : Nat) (x : Int32) : Option Int32 := match h.2.1 o with
  | .inl (.boolean, n, .inl f) => (zm_ix x n).map f
  | _ => none
def zm_aL (h : zm_H) (o : Nat) (x : Int32) : Option Int64 := match h.2.1 o with
  | .inl (.long, n, .inr (.inl f)) => (zm_ix x n).map f
  | _ => none
def zm_aR (h : zm_H) (o : Nat) (x : Int32) : Option Nat := match h.2.1 o with
  | .inl (.object _, n, .inr (.inr f)) => (zm_ix x n).bind f
  | _ => none
def zm_sI (h : zm_H) (o : Nat) (x v : Int32) : Option zm_H := match h.2.1 o with
  | .inl (.int, n, .inl f) => (zm_ix x n).map fun k => zm_u h o (.inl (.int, n, .inl (upd f k v)))
  | _ => none
def zm_sZ (h : zm_H) (o : Nat) (x v : Int32) : Option zm_H := match h.2.1 o with
  | .inl (.boolean, n, .inl f) => (zm_ix x n).map fun k => zm_u h o (.inl (.boolean, n, .inl (upd f k (vp_nar .boolean v))))
  | _ => none
def zm_sL (h : zm_H) (o : Nat) (x : Int32) (v : Int64) : Option zm_H := match h.2.1 o with
  | .inl (.long, n, .inr (.inl f)) => (zm_ix x n).map fun k => zm_u h o (.inl (.long, n, .inr (.inl (vp_updL f k v))))
  | _ => none
/-- the one class of which there are arrays, by its number -/
def zm_sR (h : zm_H) (o : Nat) (x : Int32) (v : Nat) : Option zm_H := match h.2.1 o with
  | .inl (.object t, n, .inr (.inr f)) => (match h.2.1 v with
    | .inr (cj, _) => if t = RX1 ∧ cj = 1 then (zm_ix x n).map fun k => zm_u h o (.inl (.object t, n, .inr (.inr (va_up f k (some v))))) else none
    | _ => none)
  | _ => none
def zm_ln (h : zm_H) (o : Nat) : Option Nat := match h.2.1 o with
  | .inl (_, n, _) => some n
  | _ => none
def zm_cp (h : zm_H) (s : Nat) (sp : Int32) (d : Nat) (dp n : Int32) : Option zm_H := match h.2.1 s, h.2.1 d with
  | .inl (.int, n0, .inl f), .inl (.int, n1, .inl g) => if sp < 0 ∨ dp < 0 ∨ n < 0 then none else
      if sp.toNatClampNeg + n.toNatClampNeg ≤ n0 ∧ dp.toNatClampNeg + n.toNatClampNeg ≤ n1 then some (zm_u h d (.inl (.int, n1, .inl (va_cpy f g sp.toNatClampNeg dp.toNatClampNeg n.toNatClampNeg)))) else none
  | _, _ => none
/-- the arguments off the stack, in order, and the rest -/
def zm_pa : Nat → List Value → List Value → Option (List Value × List Value)
  | 0, acc, st => some (acc, st)
  | _ + 1, _, [] => none
  | n + 1, acc, v :: st => zm_pa n (v :: acc) st
/-- a method's first locals -/
def zm_fl : List Value → zm_L
  | [] => []
  | v :: vs => match v with
    | .long _ => some v :: none :: zm_fl vs
    | .double _ => some v :: none :: zm_fl vs
    | _ => some v :: zm_fl vs
def zm_in (n : Nat) (vs : List Value) : zm_L := zm_fl vs ++ List.replicate (n - (zm_fl vs).length) none
def zm_cs (st : List Value) : Nat := (st.map fun v => v.category).sum
def zm_is (h : zm_H) (o c : Nat) : Bool := match h.2.1 o with
  | .inr (cj, _) => Nat.beq cj c
  | _ => false
def zm_rV (o : Option zm_R) (k : zm_H → Option zm_R) (kx : Nat → zm_H → Option zm_R) : Option zm_R := match o with
  | some (.inl none, h) => k h
  | some (.inr x, h) => kx x h
  | _ => none
def zm_rI (o : Option zm_R) (k : Int32 → zm_H → Option zm_R) (kx : Nat → zm_H → Option zm_R) : Option zm_R := match o with
  | some (.inl (some (.int r)), h) => k r h
  | some (.inr x, h) => kx x h
  | _ => none
def zm_rR (o : Option zm_R) (k : Nat → zm_H → Option zm_R) (kx : Nat → zm_H → Option zm_R) : Option zm_R := match o with
  | some (.inl (some (.ref r)), h) => k r h
  | some (.inr x, h) => kx x h
  | _ => none
/-- the handler of a method's table: (from, to, exception, where it goes on, the local that is lost) -/
def zm_fd : List (Nat × Nat × Nat × Nat × Nat) → Nat → Nat → Option (Nat × Nat)
  | [], _, _ => none
  | (f, t, y, g, k) :: r, i, x => if f ≤ i ∧ i < t ∧ y = x then some (g, k) else zm_fd r i x
def zm_bo (x : Int32) (h : zm_H) : Option zm_R := if x = 0 then some (.inl (some (.int 0)), h) else if x = 1 then some (.inl (some (.int 1)), h) else none
/-- where a switch goes on -/
def zm_sw (ts : List Nat) (d : Nat) (lo x : Int32) : Nat := if x.toInt < lo.toInt then d else match ts[(x.toInt - lo.toInt).toNat]? with
  | some t => t
  | none => d
/-- a class's fields as they come -/
def zm_df (T : Nat → FieldType) (n : Nat) : List Value := (List.range n).map fun k => defaultValue (T k)
end
section
/-! TABLES of the pure machine, by program out of what TURN printed of this program. -/
abbrev jX7_init : Nat := 0
def zd_0 : List zm_E := [(0, .aload_n 0, 1, 0, 0, 0, 0, 0, []),
  (1, .invokespecial 1, 3, 1001, 0, 0, 0, 0, []),
  (4, .aload_n 0, 1, 0, 0, 0, 0, 0, []),
  (5, .new 7, 3, 5, 0, 0, 0, 0, []),
  (8, .dup, 1, 0, 0, 0, 0, 0, []),
  (9, .invokespecial 9, 3, 166, 0, 0, 1, 0, []),
  (12, .putfield 10, 3, 7, 0, 1, 0, 0, []),
  (15, .aload_n 0, 1, 0, 0, 0, 0, 0, []),
  (16, .new 16, 3, 1, 0, 0, 0, 0, []),
  (19, .dup, 1, 0, 0, 0, 0, 0, []),
  (20, .invokespecial 18, 3, 114, 0, 0, 1, 0, []),
  (23, .putfield 19, 3, 7, 1, 1, 0, 0, []),
  (26, .aload_n 0, 1, 0, 0, 0, 0, 0, []),
  (27, .new 23, 3, 0, 0, 0, 0, 0, []),
  (30, .dup, 1, 0, 0, 0, 0, 0, []),
  (31, .invokespecial 25, 3, 110, 0, 0, 0, 0, []),
  (34, .putfield 26, 3, 7, 2, 1, 0, 0, []),
  (37, .aload_n 0, 1, 0, 0, 0, 0, 0, []),
  (38, .iconst 2, 1, 0, 0, 0, 2, 0, []),
  (39, .anewarray 16, 3, 0, 0, 0, 0, 0, []),
  (42, .putfield 30, 3, 7, 3, 1, 0, 0, []),
  (45, .aload_n 0, 1, 0, 0, 0, 0, 0, []),
  (46, .iconst 2, 1, 0, 0, 0, 2, 0, []),
  (47, .newarray .boolean, 2, 2, 0, 0, 0, 0, []),
  (49, .putfield 34, 3, 7, 4, 1, 0, 0, []),
  (52, .aload_n 0, 1, 0, 0, 0, 0, 0, []),
  (53, .new 16, 3, 1, 0, 0, 0, 0, []),
  (56, .dup, 1, 0, 0, 0, 0, 0, []),
  (57, .invokespecial 18, 3, 114, 0, 0, 1, 0, []),
  (60, .putfield 38, 3, 7, 5, 1, 0, 0, []),
  (63, .aload_n 0, 1, 0, 0, 0, 0, 0, []),
  (64, .new 41, 3, 6, 0, 0, 0, 0, []),
  (67, .dup, 1, 0, 0, 0, 0, 0, []),
  (68, .invokespecial 43, 3, 174, 0, 0, 1, 0, []),
  (71, .putfield 44, 3, 7, 6, 1, 0, 0, []),
  (74, .aload_n 0, 1, 0, 0, 0, 0, 0, []),
  (75, .new 41, 3, 6, 0, 0, 0, 0, []),
  (78, .dup, 1, 0, 0, 0, 0, 0, []),
  (79, .invokespecial 43, 3, 174, 0, 0, 1, 0, []),
  (82, .putfield 48, 3, 7, 7, 1, 0, 0, []),
  (85, .aload_n 0, 1, 0, 0, 0, 0, 0, []),
  (86, .new 51, 3, 4, 0, 0, 0, 0, []),
  (89, .dup, 1, 0, 0, 0, 0, 0, []),
  (90, .invokespecial 53, 3, 153, 0, 0, 1, 0, []),
  (93, .putfield 54, 3, 7, 8, 1, 0, 0, []),
  (96, .aload_n 0, 1, 0, 0, 0, 0, 0, []),
  (97, .new 58, 3, 3, 0, 0, 0, 0, []),
  (100, .dup, 1, 0, 0, 0, 0, 0, []),
  (101, .invokespecial 60, 3, 146, 0, 0, 1, 0, []),
  (104, .putfield 61, 3, 7, 9, 1, 0, 0, []),
  (107, .aload_n 0, 1, 0, 0, 0, 0, 0, []),
  (108, .new 65, 3, 2, 0, 0, 0, 0, []),
  (111, .dup, 1, 0, 0, 0, 0, 0, []),
  (112, .invokespecial 67, 3, 137, 0, 0, 1, 0, []),
  (115, .putfield 68, 3, 7, 10, 1, 0, 0, []),
  (118, .iconst 0, 1, 0, 0, 0, 0, 0, []),
  (119, .istore_n 1, 1, 1, 0, 0, 0, 0, []),
  (120, .iload_n 1, 1, 1, 0, 0, 0, 0, []),
  (121, .aload_n 0, 1, 0, 0, 0, 0, 0, []),
  (122, .getfield 30, 3, 7, 3, 1, 0, 0, []),
  (125, .arraylength, 1, 0, 0, 0, 0, 0, []),
  (126, .if_icmp .ge 22, 3, 71, 0, 0, 0, 0, []),
  (129, .aload_n 0, 1, 0, 0, 0, 0, 0, []),
  (130, .getfield 30, 3, 7, 3, 1, 0, 0, []),
  (133, .iload_n 1, 1, 1, 0, 0, 0, 0, []),
  (134, .new 16, 3, 1, 0, 0, 0, 0, []),
  (137, .dup, 1, 0, 0, 0, 0, 0, []),
  (138, .invokespecial 18, 3, 114, 0, 0, 1, 0, []),
  (141, .aastore, 1, 0, 0, 0, 0, 0, []),
  (142, .iinc 1 1, 3, 1, 0, 0, 1, 0, []),
  (145, .goto (-25), 3, 57, 0, 0, 0, 0, []),
  (148, .return_, 1, 0, 0, 0, 0, 0, [])]
def zp_0 : List (List Nat) := [[], [86, 87, 88], [], [89, 90, 63], [], [0, 92, 63, 93], [253], [], [104, 105, 64], [], [1, 107, 64, 108], [254], [], [133, 134, 65], [], [135, 136, 65, 137], [255], [], [], [104], [256], [], [], [197], [257], [], [104, 105, 64], [], [1, 107, 64, 108], [258], [], [153, 154, 66], [], [3, 156, 66, 157], [259], [], [153, 154, 66], [], [3, 156, 66, 157], [260], [], [198, 199, 67], [], [4, 201, 67, 202], [261], [], [223, 224, 68], [], [5, 226, 68, 227], [262], [], [240, 241, 69], [], [6, 243, 69, 244], [263], [], [], [], [], [256], [], [], [], [256], [], [104, 105, 64], [], [1, 107, 64, 108], [], [], [], []]
abbrev jX7_append : Nat := 1
def zd_1 : List zm_E := [(0, .iload_n 1, 1, 1, 0, 0, 0, 0, []),
  (1, .ifCond .lt 10, 3, 5, 0, 0, 0, 0, []),
  (4, .iload_n 1, 1, 1, 0, 0, 0, 0, []),
  (5, .sipush 255, 3, 0, 0, 0, 255, 0, []),
  (8, .if_icmp .le 13, 3, 10, 0, 0, 0, 0, []),
  (11, .new 72, 3, 0, 0, 1, 0, 0, [74, 76, 0, 0]),
  (14, .dup, 1, 0, 0, 0, 0, 0, []),
  (15, .ldc 74, 2, 0, 0, 1, 0, 0, []),
  (17, .invokespecial 76, 3, 1002, 1, 0, 0, 0, []),
  (20, .athrow, 1, 0, 0, 0, 0, 0, []),
  (21, .aload_n 0, 1, 0, 0, 0, 0, 0, []),
  (22, .getfield 10, 3, 7, 0, 1, 0, 0, []),
  (25, .invokevirtual 79, 3, 167, 0, 1, 0, 0, [5]),
  (28, .ifCond .eq 13, 3, 19, 0, 0, 0, 0, []),
  (31, .new 83, 3, 1, 0, 1, 0, 0, [85, 87, 0, 1]),
  (34, .dup, 1, 0, 0, 0, 0, 0, []),
  (35, .ldc 85, 2, 0, 0, 1, 0, 0, []),
  (37, .invokespecial 87, 3, 1002, 1, 0, 0, 0, []),
  (40, .athrow, 1, 0, 0, 0, 0, 0, []),
  (41, .aload_n 0, 1, 0, 0, 0, 0, 0, []),
  (42, .getfield 10, 3, 7, 0, 1, 0, 0, []),
  (45, .iload_n 1, 1, 1, 0, 0, 0, 0, []),
  (46, .invokevirtual 88, 3, 168, 1, 0, 0, 0, [5]),
  (49, .aload_n 0, 1, 0, 0, 0, 0, 0, []),
  (50, .getfield 10, 3, 7, 0, 1, 0, 0, []),
  (53, .getfield 92, 3, 5, 1, 0, 0, 0, []),
  (56, .ireturn, 1, 0, 0, 0, 0, 0, [])]
def zp_1 : List (List Nat) := [[], [], [], [], [], [500, 74, 542], [], [], [], [], [], [253], [568, 569, 570, 63, 571], [], [572, 75, 582], [], [], [], [], [], [253], [], [588, 589, 590, 63, 591], [], [253], [97], []]
abbrev jX7_clearText : Nat := 2
def zd_2 : List zm_E := [(0, .aload_n 0, 1, 0, 0, 0, 0, 0, []),
  (1, .getfield 10, 3, 7, 0, 1, 0, 0, []),
  (4, .getfield 92, 3, 5, 1, 0, 0, 0, []),
  (7, .istore_n 1, 1, 1, 0, 0, 0, 0, []),
  (8, .aload_n 0, 1, 0, 0, 0, 0, 0, []),
  (9, .getfield 10, 3, 7, 0, 1, 0, 0, []),
  (12, .iconst 0, 1, 0, 0, 0, 0, 0, []),
  (13, .putfield 92, 3, 5, 1, 0, 0, 0, []),
  (16, .iload_n 1, 1, 1, 0, 0, 0, 0, []),
  (17, .ireturn, 1, 0, 0, 0, 0, 0, [])]
def zp_2 : List (List Nat) := [[], [253], [97], [], [], [253], [], [97], [], []]
abbrev jX7_errorPosition : Nat := 3
def zd_3 : List zm_E := [(0, .aload_n 0, 1, 0, 0, 0, 0, 0, []),
  (1, .getfield 10, 3, 7, 0, 1, 0, 0, []),
  (4, .aload_n 0, 1, 0, 0, 0, 0, 0, []),
  (5, .getfield 38, 3, 7, 5, 1, 0, 0, []),
  (8, .invokevirtual 96, 3, 171, 1, 1, 0, 0, [5]),
  (11, .ireturn, 1, 0, 0, 0, 0, 0, [])]
def zp_3 : List (List Nat) := [[], [253], [], [258], [295, 296, 297, 63, 298], []]
abbrev jX7_load : Nat := 4
def zd_4 : List zm_E := [(0, .aload_n 0, 1, 0, 0, 0, 0, 0, []),
  (1, .getfield 10, 3, 7, 0, 1, 0, 0, []),
  (4, .aload_n 0, 1, 0, 0, 0, 0, 0, []),
  (5, .getfield 38, 3, 7, 5, 1, 0, 0, []),
  (8, .invokevirtual 96, 3, 171, 1, 1, 0, 0, [5]),
  (11, .bipush (-9), 2, 0, 0, 0, (-9), 0, []),
  (13, .if_icmp .eq 13, 3, 12, 0, 0, 0, 0, []),
  (16, .new 83, 3, 1, 0, 1, 0, 0, [100, 87, 0, 2]),
  (19, .dup, 1, 0, 0, 0, 0, 0, []),
  (20, .ldc 100, 2, 0, 0, 1, 0, 0, []),
  (22, .invokespecial 87, 3, 1002, 1, 0, 0, 0, []),
  (25, .athrow, 1, 0, 0, 0, 0, 0, []),
  (26, .aload_n 0, 1, 0, 0, 0, 0, 0, []),
  (27, .getfield 19, 3, 7, 1, 1, 0, 0, []),
  (30, .aload_n 0, 1, 0, 0, 0, 0, 0, []),
  (31, .getfield 38, 3, 7, 5, 1, 0, 0, []),
  (34, .invokevirtual 102, 3, 115, 1, 0, 0, 0, [1]),
  (37, .aload_n 0, 1, 0, 0, 0, 0, 0, []),
  (38, .getfield 26, 3, 7, 2, 1, 0, 0, []),
  (41, .invokevirtual 106, 3, 111, 0, 0, 0, 0, [0]),
  (44, .iconst 0, 1, 0, 0, 0, 0, 0, []),
  (45, .istore_n 1, 1, 1, 0, 0, 0, 0, []),
  (46, .iload_n 1, 1, 1, 0, 0, 0, 0, []),
  (47, .aload_n 0, 1, 0, 0, 0, 0, 0, []),
  (48, .getfield 34, 3, 7, 4, 1, 0, 0, []),
  (51, .arraylength, 1, 0, 0, 0, 0, 0, []),
  (52, .if_icmp .ge 16, 3, 34, 0, 0, 0, 0, []),
  (55, .aload_n 0, 1, 0, 0, 0, 0, 0, []),
  (56, .getfield 34, 3, 7, 4, 1, 0, 0, []),
  (59, .iload_n 1, 1, 1, 0, 0, 0, 0, []),
  (60, .iconst 0, 1, 0, 0, 0, 0, 0, []),
  (61, .bastore, 1, 0, 0, 0, 0, 0, []),
  (62, .iinc 1 1, 3, 1, 0, 0, 1, 0, []),
  (65, .goto (-19), 3, 22, 0, 0, 0, 0, []),
  (68, .aload_n 0, 1, 0, 0, 0, 0, 0, []),
  (69, .getfield 19, 3, 7, 1, 1, 0, 0, []),
  (72, .invokevirtual 109, 3, 120, 0, 1, 0, 0, [1]),
  (75, .ireturn, 1, 0, 0, 0, 0, 0, [])]
def zp_4 : List (List Nat) := [[], [253], [], [258], [295, 296, 297, 63, 298], [], [], [572, 75, 582], [], [], [], [], [], [254], [], [258], [601, 347, 348, 64, 349], [], [255], [602, 603, 604, 65, 605], [], [], [], [], [257], [], [], [], [257], [], [], [], [], [], [], [254], [606, 607, 608, 64, 609], []]
abbrev jX7_about : Nat := 5
def zd_5 : List zm_E := [(0, .iload_n 1, 1, 1, 0, 0, 0, 0, []),
  (1, .tableswitch 115 0 7 #[47, 55, 63, 71, 79, 87, 95, 107], 47, 36, 0, 0, 0, 0, [2, 6, 10, 14, 18, 22, 26, 32]),
  (48, .aload_n 0, 1, 0, 0, 0, 0, 0, []),
  (49, .getfield 19, 3, 7, 1, 1, 0, 0, []),
  (52, .getfield 113, 3, 1, 0, 0, 0, 0, []),
  (55, .ireturn, 1, 0, 0, 0, 0, 0, []),
  (56, .aload_n 0, 1, 0, 0, 0, 0, 0, []),
  (57, .getfield 19, 3, 7, 1, 1, 0, 0, []),
  (60, .invokevirtual 109, 3, 120, 0, 1, 0, 0, [1]),
  (63, .ireturn, 1, 0, 0, 0, 0, 0, []),
  (64, .aload_n 0, 1, 0, 0, 0, 0, 0, []),
  (65, .getfield 19, 3, 7, 1, 1, 0, 0, []),
  (68, .invokevirtual 116, 3, 127, 0, 1, 0, 0, [1]),
  (71, .ireturn, 1, 0, 0, 0, 0, 0, []),
  (72, .aload_n 0, 1, 0, 0, 0, 0, 0, []),
  (73, .getfield 19, 3, 7, 1, 1, 0, 0, []),
  (76, .invokevirtual 119, 3, 128, 0, 1, 0, 0, [1]),
  (79, .ireturn, 1, 0, 0, 0, 0, 0, []),
  (80, .aload_n 0, 1, 0, 0, 0, 0, 0, []),
  (81, .invokevirtual 122, 3, 30, 0, 2, 0, 0, [7]),
  (84, .getfield 126, 3, 6, 0, 0, 0, 0, []),
  (87, .ireturn, 1, 0, 0, 0, 0, 0, []),
  (88, .aload_n 0, 1, 0, 0, 0, 0, 0, []),
  (89, .invokevirtual 122, 3, 30, 0, 2, 0, 0, [7]),
  (92, .getfield 129, 3, 6, 1, 0, 0, 0, []),
  (95, .ireturn, 1, 0, 0, 0, 0, 0, []),
  (96, .aload_n 0, 1, 0, 0, 0, 0, 0, []),
  (97, .invokevirtual 122, 3, 30, 0, 2, 0, 0, [7]),
  (100, .aload_n 0, 1, 0, 0, 0, 0, 0, []),
  (101, .getfield 19, 3, 7, 1, 1, 0, 0, []),
  (104, .invokevirtual 132, 3, 177, 1, 1, 0, 0, [6]),
  (107, .ireturn, 1, 0, 0, 0, 0, 0, []),
  (108, .aload_n 0, 1, 0, 0, 0, 0, 0, []),
  (109, .getfield 19, 3, 7, 1, 1, 0, 0, []),
  (112, .invokevirtual 135, 3, 129, 0, 1, 0, 0, [1]),
  (115, .ireturn, 1, 0, 0, 0, 0, 0, []),
  (116, .new 72, 3, 0, 0, 1, 0, 0, [138, 76, 0, 3]),
  (119, .dup, 1, 0, 0, 0, 0, 0, []),
  (120, .ldc 138, 2, 0, 0, 1, 0, 0, []),
  (122, .invokespecial 76, 3, 1002, 1, 0, 0, 0, []),
  (125, .athrow, 1, 0, 0, 0, 0, 0, [])]
def zp_5 : List (List Nat) := [[], [], [], [254], [114], [], [], [254], [606, 607, 608, 64, 609], [], [], [254], [619, 620, 621, 64, 622], [], [], [254], [623, 624, 625, 64, 626], [], [], [356, 358, 4, 62, 359], [160], [], [], [356, 358, 4, 62, 359], [162], [], [], [356, 358, 4, 62, 359], [], [254], [631, 632, 633, 66, 634], [], [], [254], [635, 636, 637, 64, 638], [], [500, 74, 542], [], [], [], []]
abbrev jX7_trader : Nat := 6
def zd_6 : List zm_E := [(0, .aload_n 0, 1, 0, 0, 0, 0, 0, []),
  (1, .iload_n 1, 1, 1, 0, 0, 0, 0, []),
  (2, .invokevirtual 140, 3, 31, 1, 0, 0, 0, [7]),
  (5, .iload_n 2, 1, 2, 0, 0, 0, 0, []),
  (6, .tableswitch 118 0 6 #[42, 52, 61, 78, 88, 98, 108], 42, 49, 0, 0, 0, 0, [5, 11, 16, 25, 31, 37, 43]),
  (48, .aload_n 0, 1, 0, 0, 0, 0, 0, []),
  (49, .getfield 19, 3, 7, 1, 1, 0, 0, []),
  (52, .getfield 143, 3, 1, 3, 1, 0, 0, []),
  (55, .iload_n 1, 1, 1, 0, 0, 0, 0, []),
  (56, .iaload, 1, 0, 0, 0, 0, 0, []),
  (57, .ireturn, 1, 0, 0, 0, 0, 0, []),
  (58, .aload_n 0, 1, 0, 0, 0, 0, 0, []),
  (59, .getfield 19, 3, 7, 1, 1, 0, 0, []),
  (62, .iload_n 1, 1, 1, 0, 0, 0, 0, []),
  (63, .invokevirtual 147, 3, 122, 1, 1, 0, 0, [1]),
  (66, .ireturn, 1, 0, 0, 0, 0, 0, []),
  (67, .aload_n 0, 1, 0, 0, 0, 0, 0, []),
  (68, .getfield 19, 3, 7, 1, 1, 0, 0, []),
  (71, .iload_n 1, 1, 1, 0, 0, 0, 0, []),
  (72, .invokevirtual 151, 3, 119, 1, 1, 0, 0, [1]),
  (75, .ifCond .eq 7, 3, 23, 0, 0, 0, 0, []),
  (78, .iconst 1, 1, 0, 0, 0, 1, 0, []),
  (79, .goto 4, 3, 24, 0, 0, 0, 0, []),
  (82, .iconst 0, 1, 0, 0, 0, 0, 0, []),
  (83, .ireturn, 1, 0, 0, 0, 0, 0, []),
  (84, .aload_n 0, 1, 0, 0, 0, 0, 0, []),
  (85, .invokevirtual 122, 3, 30, 0, 2, 0, 0, [7]),
  (88, .getfield 155, 3, 6, 2, 1, 0, 0, []),
  (91, .iload_n 1, 1, 1, 0, 0, 0, 0, []),
  (92, .iaload, 1, 0, 0, 0, 0, 0, []),
  (93, .ireturn, 1, 0, 0, 0, 0, 0, []),
  (94, .aload_n 0, 1, 0, 0, 0, 0, 0, []),
  (95, .invokevirtual 122, 3, 30, 0, 2, 0, 0, [7]),
  (98, .getfield 158, 3, 6, 3, 1, 0, 0, []),
  (101, .iload_n 1, 1, 1, 0, 0, 0, 0, []),
  (102, .iaload, 1, 0, 0, 0, 0, 0, []),
  (103, .ireturn, 1, 0, 0, 0, 0, 0, []),
  (104, .aload_n 0, 1, 0, 0, 0, 0, 0, []),
  (105, .invokevirtual 122, 3, 30, 0, 2, 0, 0, [7]),
  (108, .getfield 161, 3, 6, 4, 1, 0, 0, []),
  (111, .iload_n 1, 1, 1, 0, 0, 0, 0, []),
  (112, .iaload, 1, 0, 0, 0, 0, 0, []),
  (113, .ireturn, 1, 0, 0, 0, 0, 0, []),
  (114, .aload_n 0, 1, 0, 0, 0, 0, 0, []),
  (115, .invokevirtual 122, 3, 30, 0, 2, 0, 0, [7]),
  (118, .getfield 164, 3, 6, 5, 1, 0, 0, []),
  (121, .iload_n 1, 1, 1, 0, 0, 0, 0, []),
  (122, .iaload, 1, 0, 0, 0, 0, 0, []),
  (123, .ireturn, 1, 0, 0, 0, 0, 0, []),
  (124, .new 72, 3, 0, 0, 1, 0, 0, [167, 76, 0, 5]),
  (127, .dup, 1, 0, 0, 0, 0, 0, []),
  (128, .ldc 167, 2, 0, 0, 1, 0, 0, []),
  (130, .invokespecial 76, 3, 1002, 1, 0, 0, 0, []),
  (133, .athrow, 1, 0, 0, 0, 0, 0, [])]
def zp_6 : List (List Nat) := [[], [], [653, 655, 18, 62, 656], [], [], [], [254], [122], [], [], [], [], [254], [], [677, 628, 629, 64, 630], [], [], [254], [], [678, 640, 641, 64, 642], [], [], [], [], [], [], [356, 358, 4, 62, 359], [164], [], [], [], [], [356, 358, 4, 62, 359], [167], [], [], [], [], [356, 358, 4, 62, 359], [169], [], [], [], [], [356, 358, 4, 62, 359], [171], [], [], [], [500, 74, 542], [], [], [], []]
abbrev jX7_rank : Nat := 7
def zd_7 : List zm_E := [(0, .aload_n 0, 1, 0, 0, 0, 0, 0, []),
  (1, .iload_n 1, 1, 1, 0, 0, 0, 0, []),
  (2, .invokevirtual 140, 3, 31, 1, 0, 0, 0, [7]),
  (5, .aload_n 0, 1, 0, 0, 0, 0, 0, []),
  (6, .iload_n 2, 1, 2, 0, 0, 0, 0, []),
  (7, .invokevirtual 169, 3, 32, 1, 0, 0, 0, [7]),
  (10, .aload_n 0, 1, 0, 0, 0, 0, 0, []),
  (11, .getfield 19, 3, 7, 1, 1, 0, 0, []),
  (14, .iload_n 1, 1, 1, 0, 0, 0, 0, []),
  (15, .iload_n 2, 1, 2, 0, 0, 0, 0, []),
  (16, .invokevirtual 172, 3, 121, 2, 1, 0, 0, [1]),
  (19, .ireturn, 1, 0, 0, 0, 0, 0, [])]
def zp_7 : List (List Nat) := [[], [], [653, 655, 18, 62, 656], [], [], [687, 689, 19, 62, 690], [], [254], [], [], [692, 385, 386, 64, 387], []]
abbrev jX7_holder : Nat := 8
def zd_8 : List zm_E := [(0, .aload_n 0, 1, 0, 0, 0, 0, 0, []),
  (1, .iload_n 1, 1, 1, 0, 0, 0, 0, []),
  (2, .invokevirtual 169, 3, 32, 1, 0, 0, 0, [7]),
  (5, .aload_n 0, 1, 0, 0, 0, 0, 0, []),
  (6, .getfield 19, 3, 7, 1, 1, 0, 0, []),
  (9, .iload_n 1, 1, 1, 0, 0, 0, 0, []),
  (10, .invokevirtual 176, 3, 125, 1, 1, 0, 0, [1]),
  (13, .ireturn, 1, 0, 0, 0, 0, 0, [])]
def zp_8 : List (List Nat) := [[], [], [687, 689, 19, 62, 690], [], [254], [], [700, 701, 702, 64, 703], []]
abbrev jX7_ring : Nat := 9
def zd_9 : List zm_E := [(0, .aload_n 0, 1, 0, 0, 0, 0, 0, []),
  (1, .invokevirtual 122, 3, 30, 0, 2, 0, 0, [7]),
  (4, .astore_n 3, 1, 3, 0, 0, 0, 0, []),
  (5, .aload_n 3, 1, 3, 0, 0, 0, 0, []),
  (6, .iload_n 1, 1, 1, 0, 0, 0, 0, []),
  (7, .invokestatic 179, 3, 34, 2, 0, 0, 0, []),
  (10, .iload_n 2, 1, 2, 0, 0, 0, 0, []),
  (11, .tableswitch 63 0 3 #[29, 36, 46, 53], 29, 30, 0, 0, 0, 0, [8, 13, 19, 24]),
  (40, .aload_n 3, 1, 3, 0, 0, 0, 0, []),
  (41, .getfield 183, 3, 6, 6, 1, 0, 0, []),
  (44, .iload_n 1, 1, 1, 0, 0, 0, 0, []),
  (45, .iaload, 1, 0, 0, 0, 0, 0, []),
  (46, .ireturn, 1, 0, 0, 0, 0, 0, []),
  (47, .aload_n 3, 1, 3, 0, 0, 0, 0, []),
  (48, .getfield 183, 3, 6, 6, 1, 0, 0, []),
  (51, .iload_n 1, 1, 1, 0, 0, 0, 0, []),
  (52, .iaload, 1, 0, 0, 0, 0, 0, []),
  (53, .invokestatic 186, 3, 207, 1, 1, 0, 0, []),
  (56, .ireturn, 1, 0, 0, 0, 0, 0, []),
  (57, .aload_n 3, 1, 3, 0, 0, 0, 0, []),
  (58, .getfield 191, 3, 6, 7, 1, 0, 0, []),
  (61, .iload_n 1, 1, 1, 0, 0, 0, 0, []),
  (62, .iaload, 1, 0, 0, 0, 0, 0, []),
  (63, .ireturn, 1, 0, 0, 0, 0, 0, []),
  (64, .aload_n 3, 1, 3, 0, 0, 0, 0, []),
  (65, .aload_n 0, 1, 0, 0, 0, 0, 0, []),
  (66, .getfield 19, 3, 7, 1, 1, 0, 0, []),
  (69, .iload_n 1, 1, 1, 0, 0, 0, 0, []),
  (70, .invokevirtual 194, 3, 178, 2, 1, 0, 0, [6]),
  (73, .ireturn, 1, 0, 0, 0, 0, 0, []),
  (74, .new 72, 3, 0, 0, 1, 0, 0, [198, 76, 0, 8]),
  (77, .dup, 1, 0, 0, 0, 0, 0, []),
  (78, .ldc 198, 2, 0, 0, 1, 0, 0, []),
  (80, .invokespecial 76, 3, 1002, 1, 0, 0, 0, []),
  (83, .athrow, 1, 0, 0, 0, 0, 0, [])]
def zp_9 : List (List Nat) := [[], [356, 358, 4, 62, 359], [], [], [], [711, 712, 62, 713], [], [], [], [174], [], [], [], [], [174], [], [], [719, 431, 77, 432], [], [], [176], [], [], [], [], [], [254], [], [720, 721, 722, 66, 723], [], [500, 74, 542], [], [], [], []]
abbrev jX7_whyNot : Nat := 10
def zd_10 : List zm_E := [(0, .aload_n 0, 1, 0, 0, 0, 0, 0, []),
  (1, .iload_n 1, 1, 1, 0, 0, 0, 0, []),
  (2, .invokevirtual 140, 3, 31, 1, 0, 0, 0, [7]),
  (5, .aload_n 0, 1, 0, 0, 0, 0, 0, []),
  (6, .iload_n 2, 1, 2, 0, 0, 0, 0, []),
  (7, .invokevirtual 140, 3, 31, 1, 0, 0, 0, [7]),
  (10, .aload_n 0, 1, 0, 0, 0, 0, 0, []),
  (11, .getfield 19, 3, 7, 1, 1, 0, 0, []),
  (14, .iload_n 1, 1, 1, 0, 0, 0, 0, []),
  (15, .iload_n 2, 1, 2, 0, 0, 0, 0, []),
  (16, .invokevirtual 200, 3, 130, 2, 1, 0, 0, [1]),
  (19, .ireturn, 1, 0, 0, 0, 0, 0, [])]
def zp_10 : List (List Nat) := [[], [], [653, 655, 18, 62, 656], [], [], [653, 655, 18, 62, 656], [], [254], [], [], [733, 734, 735, 64, 736], []]
abbrev jX7_addTrader : Nat := 11
def zd_11 : List zm_E := [(0, .aload_n 0, 1, 0, 0, 0, 0, 0, []),
  (1, .getfield 19, 3, 7, 1, 1, 0, 0, []),
  (4, .getfield 113, 3, 1, 0, 0, 0, 0, []),
  (7, .bipush 7, 2, 0, 0, 0, 7, 0, []),
  (9, .if_icmp .lt 13, 3, 10, 0, 0, 0, 0, []),
  (12, .new 83, 3, 1, 0, 1, 0, 0, [203, 87, 0, 9]),
  (15, .dup, 1, 0, 0, 0, 0, 0, []),
  (16, .ldc 203, 2, 0, 0, 1, 0, 0, []),
  (18, .invokespecial 87, 3, 1002, 1, 0, 0, 0, []),
  (21, .athrow, 1, 0, 0, 0, 0, 0, []),
  (22, .aload_n 0, 1, 0, 0, 0, 0, 0, []),
  (23, .getfield 26, 3, 7, 2, 1, 0, 0, []),
  (26, .aload_n 0, 1, 0, 0, 0, 0, 0, []),
  (27, .getfield 19, 3, 7, 1, 1, 0, 0, []),
  (30, .invokevirtual 205, 3, 112, 1, 0, 0, 0, [0]),
  (33, .aload_n 0, 1, 0, 0, 0, 0, 0, []),
  (34, .getfield 19, 3, 7, 1, 1, 0, 0, []),
  (37, .invokevirtual 208, 3, 136, 0, 1, 0, 0, [1]),
  (40, .ireturn, 1, 0, 0, 0, 0, 0, [])]
def zp_11 : List (List Nat) := [[], [254], [114], [], [], [572, 75, 582], [], [], [], [], [], [255], [], [254], [342, 343, 344, 65, 345], [], [254], [745, 746, 747, 64, 748], []]
abbrev jX7_setRank : Nat := 12
def zd_12 : List zm_E := [(0, .aload_n 0, 1, 0, 0, 0, 0, 0, []),
  (1, .iload_n 1, 1, 1, 0, 0, 0, 0, []),
  (2, .invokevirtual 140, 3, 31, 1, 0, 0, 0, [7]),
  (5, .aload_n 0, 1, 0, 0, 0, 0, 0, []),
  (6, .iload_n 2, 1, 2, 0, 0, 0, 0, []),
  (7, .invokevirtual 169, 3, 32, 1, 0, 0, 0, [7]),
  (10, .iload_n 3, 1, 3, 0, 0, 0, 0, []),
  (11, .ifCond .lt 9, 3, 11, 0, 0, 0, 0, []),
  (14, .iload_n 3, 1, 3, 0, 0, 0, 0, []),
  (15, .bipush 9, 2, 0, 0, 0, 9, 0, []),
  (17, .if_icmp .le 13, 3, 16, 0, 0, 0, 0, []),
  (20, .new 72, 3, 0, 0, 1, 0, 0, [211, 76, 0, 10]),
  (23, .dup, 1, 0, 0, 0, 0, 0, []),
  (24, .ldc 211, 2, 0, 0, 1, 0, 0, []),
  (26, .invokespecial 76, 3, 1002, 1, 0, 0, 0, []),
  (29, .athrow, 1, 0, 0, 0, 0, 0, []),
  (30, .aload_n 0, 1, 0, 0, 0, 0, 0, []),
  (31, .getfield 26, 3, 7, 2, 1, 0, 0, []),
  (34, .aload_n 0, 1, 0, 0, 0, 0, 0, []),
  (35, .getfield 19, 3, 7, 1, 1, 0, 0, []),
  (38, .invokevirtual 205, 3, 112, 1, 0, 0, 0, [0]),
  (41, .aload_n 0, 1, 0, 0, 0, 0, 0, []),
  (42, .getfield 19, 3, 7, 1, 1, 0, 0, []),
  (45, .iload_n 1, 1, 1, 0, 0, 0, 0, []),
  (46, .iload_n 2, 1, 2, 0, 0, 0, 0, []),
  (47, .invokevirtual 172, 3, 121, 2, 1, 0, 0, [1]),
  (50, .istore 4, 2, 4, 0, 0, 0, 0, []),
  (52, .aload_n 0, 1, 0, 0, 0, 0, 0, []),
  (53, .getfield 19, 3, 7, 1, 1, 0, 0, []),
  (56, .iload_n 1, 1, 1, 0, 0, 0, 0, []),
  (57, .iload_n 2, 1, 2, 0, 0, 0, 0, []),
  (58, .iload_n 3, 1, 3, 0, 0, 0, 0, []),
  (59, .invokevirtual 213, 3, 123, 3, 0, 0, 0, [1]),
  (62, .iload 4, 2, 4, 0, 0, 0, 0, []),
  (64, .ireturn, 1, 0, 0, 0, 0, 0, [])]
def zp_12 : List (List Nat) := [[], [], [653, 655, 18, 62, 656], [], [], [687, 689, 19, 62, 690], [], [], [], [], [], [500, 74, 542], [], [], [], [], [], [255], [], [254], [342, 343, 344, 65, 345], [], [254], [], [], [692, 385, 386, 64, 387], [], [], [254], [], [], [], [758, 320, 321, 64, 322], [], []]
abbrev jX7_exchange : Nat := 13
def zd_13 : List zm_E := [(0, .aload_n 0, 1, 0, 0, 0, 0, 0, []),
  (1, .iload_n 1, 1, 1, 0, 0, 0, 0, []),
  (2, .invokevirtual 140, 3, 31, 1, 0, 0, 0, [7]),
  (5, .aload_n 0, 1, 0, 0, 0, 0, 0, []),
  (6, .iload_n 2, 1, 2, 0, 0, 0, 0, []),
  (7, .invokevirtual 140, 3, 31, 1, 0, 0, 0, [7]),
  (10, .aload_n 0, 1, 0, 0, 0, 0, 0, []),
  (11, .getfield 19, 3, 7, 1, 1, 0, 0, []),
  (14, .iload_n 1, 1, 1, 0, 0, 0, 0, []),
  (15, .iload_n 2, 1, 2, 0, 0, 0, 0, []),
  (16, .invokevirtual 200, 3, 130, 2, 1, 0, 0, [1]),
  (19, .ifCond .eq 13, 3, 17, 0, 0, 0, 0, []),
  (22, .new 83, 3, 1, 0, 1, 0, 0, [217, 87, 0, 11]),
  (25, .dup, 1, 0, 0, 0, 0, 0, []),
  (26, .ldc 217, 2, 0, 0, 1, 0, 0, []),
  (28, .invokespecial 87, 3, 1002, 1, 0, 0, 0, []),
  (31, .athrow, 1, 0, 0, 0, 0, 0, []),
  (32, .aload_n 0, 1, 0, 0, 0, 0, 0, []),
  (33, .getfield 26, 3, 7, 2, 1, 0, 0, []),
  (36, .aload_n 0, 1, 0, 0, 0, 0, 0, []),
  (37, .getfield 19, 3, 7, 1, 1, 0, 0, []),
  (40, .invokevirtual 205, 3, 112, 1, 0, 0, 0, [0]),
  (43, .aload_n 0, 1, 0, 0, 0, 0, 0, []),
  (44, .getfield 19, 3, 7, 1, 1, 0, 0, []),
  (47, .iload_n 1, 1, 1, 0, 0, 0, 0, []),
  (48, .iload_n 2, 1, 2, 0, 0, 0, 0, []),
  (49, .invokevirtual 219, 3, 131, 2, 0, 0, 0, [1]),
  (52, .aload_n 0, 1, 0, 0, 0, 0, 0, []),
  (53, .getfield 19, 3, 7, 1, 1, 0, 0, []),
  (56, .getfield 143, 3, 1, 3, 1, 0, 0, []),
  (59, .iload_n 1, 1, 1, 0, 0, 0, 0, []),
  (60, .iaload, 1, 0, 0, 0, 0, 0, []),
  (61, .ireturn, 1, 0, 0, 0, 0, 0, [])]
def zp_13 : List (List Nat) := [[], [], [653, 655, 18, 62, 656], [], [], [653, 655, 18, 62, 656], [], [254], [], [], [733, 734, 735, 64, 736], [], [572, 75, 582], [], [], [], [], [], [255], [], [254], [342, 343, 344, 65, 345], [], [254], [], [], [767, 768, 769, 64, 770], [], [254], [122], [], [], []]
abbrev jX7_doRing : Nat := 14
def zd_14 : List zm_E := [(0, .aload_n 0, 1, 0, 0, 0, 0, 0, []),
  (1, .invokevirtual 122, 3, 30, 0, 2, 0, 0, [7]),
  (4, .astore_n 2, 1, 2, 0, 0, 0, 0, []),
  (5, .aload_n 2, 1, 2, 0, 0, 0, 0, []),
  (6, .iload_n 1, 1, 1, 0, 0, 0, 0, []),
  (7, .invokestatic 179, 3, 34, 2, 0, 0, 0, []),
  (10, .aload_n 0, 1, 0, 0, 0, 0, 0, []),
  (11, .getfield 26, 3, 7, 2, 1, 0, 0, []),
  (14, .aload_n 0, 1, 0, 0, 0, 0, 0, []),
  (15, .getfield 19, 3, 7, 1, 1, 0, 0, []),
  (18, .invokevirtual 205, 3, 112, 1, 0, 0, 0, [0]),
  (21, .aload_n 0, 1, 0, 0, 0, 0, 0, []),
  (22, .getfield 19, 3, 7, 1, 1, 0, 0, []),
  (25, .aload_n 2, 1, 2, 0, 0, 0, 0, []),
  (26, .aload_n 2, 1, 2, 0, 0, 0, 0, []),
  (27, .getfield 183, 3, 6, 6, 1, 0, 0, []),
  (30, .iload_n 1, 1, 1, 0, 0, 0, 0, []),
  (31, .iaload, 1, 0, 0, 0, 0, 0, []),
  (32, .invokevirtual 223, 3, 132, 2, 1, 0, 0, [1]),
  (35, .ireturn, 1, 0, 0, 0, 0, 0, [])]
def zp_14 : List (List Nat) := [[], [356, 358, 4, 62, 359], [], [], [], [711, 712, 62, 713], [], [255], [], [254], [342, 343, 344, 65, 345], [], [254], [], [], [174], [], [], [401, 402, 403, 64, 404], []]
abbrev jX7_trade : Nat := 15
def zd_15 : List zm_E := [(0, .aload_n 0, 1, 0, 0, 0, 0, 0, []),
  (1, .getfield 26, 3, 7, 2, 1, 0, 0, []),
  (4, .aload_n 0, 1, 0, 0, 0, 0, 0, []),
  (5, .getfield 19, 3, 7, 1, 1, 0, 0, []),
  (8, .invokevirtual 205, 3, 112, 1, 0, 0, 0, [0]),
  (11, .aload_n 0, 1, 0, 0, 0, 0, 0, []),
  (12, .getfield 19, 3, 7, 1, 1, 0, 0, []),
  (15, .aload_n 0, 1, 0, 0, 0, 0, 0, []),
  (16, .invokevirtual 122, 3, 30, 0, 2, 0, 0, [7]),
  (19, .aload_n 0, 1, 0, 0, 0, 0, 0, []),
  (20, .getfield 19, 3, 7, 1, 1, 0, 0, []),
  (23, .invokevirtual 227, 3, 118, 0, 1, 0, 0, [1]),
  (26, .invokevirtual 223, 3, 132, 2, 1, 0, 0, [1]),
  (29, .ireturn, 1, 0, 0, 0, 0, 0, [])]
def zp_15 : List (List Nat) := [[], [255], [], [254], [342, 343, 344, 65, 345], [], [254], [], [356, 358, 4, 62, 359], [], [254], [360, 361, 362, 64, 363], [401, 402, 403, 64, 404], []]
abbrev jX7_leave : Nat := 16
def zd_16 : List zm_E := [(0, .aload_n 0, 1, 0, 0, 0, 0, 0, []),
  (1, .iload_n 1, 1, 1, 0, 0, 0, 0, []),
  (2, .invokevirtual 140, 3, 31, 1, 0, 0, 0, [7]),
  (5, .aload_n 0, 1, 0, 0, 0, 0, 0, []),
  (6, .getfield 19, 3, 7, 1, 1, 0, 0, []),
  (9, .iload_n 1, 1, 1, 0, 0, 0, 0, []),
  (10, .invokevirtual 151, 3, 119, 1, 1, 0, 0, [1]),
  (13, .ifCond .ne 13, 3, 13, 0, 0, 0, 0, []),
  (16, .new 83, 3, 1, 0, 1, 0, 0, [230, 87, 0, 12]),
  (19, .dup, 1, 0, 0, 0, 0, 0, []),
  (20, .ldc 230, 2, 0, 0, 1, 0, 0, []),
  (22, .invokespecial 87, 3, 1002, 1, 0, 0, 0, []),
  (25, .athrow, 1, 0, 0, 0, 0, 0, []),
  (26, .aload_n 0, 1, 0, 0, 0, 0, 0, []),
  (27, .getfield 26, 3, 7, 2, 1, 0, 0, []),
  (30, .aload_n 0, 1, 0, 0, 0, 0, 0, []),
  (31, .getfield 19, 3, 7, 1, 1, 0, 0, []),
  (34, .invokevirtual 205, 3, 112, 1, 0, 0, 0, [0]),
  (37, .aload_n 0, 1, 0, 0, 0, 0, 0, []),
  (38, .getfield 19, 3, 7, 1, 1, 0, 0, []),
  (41, .iload_n 1, 1, 1, 0, 0, 0, 0, []),
  (42, .invokevirtual 232, 3, 133, 1, 0, 0, 0, [1]),
  (45, .aload_n 0, 1, 0, 0, 0, 0, 0, []),
  (46, .getfield 19, 3, 7, 1, 1, 0, 0, []),
  (49, .invokevirtual 109, 3, 120, 0, 1, 0, 0, [1]),
  (52, .ireturn, 1, 0, 0, 0, 0, 0, [])]
def zp_16 : List (List Nat) := [[], [], [653, 655, 18, 62, 656], [], [254], [], [678, 640, 641, 64, 642], [], [572, 75, 582], [], [], [], [], [], [255], [], [254], [342, 343, 344, 65, 345], [], [254], [], [786, 334, 335, 64, 336], [], [254], [606, 607, 608, 64, 609], []]
abbrev jX7_goHome : Nat := 17
def zd_17 : List zm_E := [(0, .aload_n 0, 1, 0, 0, 0, 0, 0, []),
  (1, .getfield 26, 3, 7, 2, 1, 0, 0, []),
  (4, .aload_n 0, 1, 0, 0, 0, 0, 0, []),
  (5, .getfield 19, 3, 7, 1, 1, 0, 0, []),
  (8, .invokevirtual 205, 3, 112, 1, 0, 0, 0, [0]),
  (11, .aload_n 0, 1, 0, 0, 0, 0, 0, []),
  (12, .getfield 19, 3, 7, 1, 1, 0, 0, []),
  (15, .invokevirtual 235, 3, 134, 0, 1, 0, 0, [1]),
  (18, .ireturn, 1, 0, 0, 0, 0, 0, [])]
def zp_17 : List (List Nat) := [[], [255], [], [254], [342, 343, 344, 65, 345], [], [254], [410, 312, 313, 64, 314], []]
abbrev jX7_undo : Nat := 18
def zd_18 : List zm_E := [(0, .aload_n 0, 1, 0, 0, 0, 0, 0, []),
  (1, .getfield 26, 3, 7, 2, 1, 0, 0, []),
  (4, .getfield 238, 3, 0, 1, 0, 0, 0, []),
  (7, .ifCond .ne 13, 3, 9, 0, 0, 0, 0, []),
  (10, .new 83, 3, 1, 0, 1, 0, 0, [241, 87, 0, 13]),
  (13, .dup, 1, 0, 0, 0, 0, 0, []),
  (14, .ldc 241, 2, 0, 0, 1, 0, 0, []),
  (16, .invokespecial 87, 3, 1002, 1, 0, 0, 0, []),
  (19, .athrow, 1, 0, 0, 0, 0, 0, []),
  (20, .aload_n 0, 1, 0, 0, 0, 0, 0, []),
  (21, .getfield 26, 3, 7, 2, 1, 0, 0, []),
  (24, .aload_n 0, 1, 0, 0, 0, 0, 0, []),
  (25, .getfield 19, 3, 7, 1, 1, 0, 0, []),
  (28, .invokevirtual 243, 3, 113, 1, 0, 0, 0, [0]),
  (31, .aload_n 0, 1, 0, 0, 0, 0, 0, []),
  (32, .getfield 26, 3, 7, 2, 1, 0, 0, []),
  (35, .getfield 238, 3, 0, 1, 0, 0, 0, []),
  (38, .ireturn, 1, 0, 0, 0, 0, 0, [])]
def zp_18 : List (List Nat) := [[], [255], [144], [], [572, 75, 582], [], [], [], [], [], [255], [], [254], [795, 796, 797, 65, 798], [], [255], [144], []]
abbrev jX7_group : Nat := 19
def zd_19 : List zm_E := [(0, .aload_n 0, 1, 0, 0, 0, 0, 0, []),
  (1, .getfield 54, 3, 7, 8, 1, 0, 0, []),
  (4, .aload_n 0, 1, 0, 0, 0, 0, 0, []),
  (5, .getfield 19, 3, 7, 1, 1, 0, 0, []),
  (8, .iload_n 1, 1, 1, 0, 0, 0, 0, []),
  (9, .invokevirtual 246, 3, 154, 2, 1, 0, 0, [4]),
  (12, .ireturn, 1, 0, 0, 0, 0, 0, [])]
def zp_19 : List (List Nat) := [[], [261], [], [254], [], [415, 416, 417, 67, 418], []]
abbrev jX7_groups : Nat := 20
def zd_20 : List zm_E := [(0, .aload_n 0, 1, 0, 0, 0, 0, 0, []),
  (1, .getfield 54, 3, 7, 8, 1, 0, 0, []),
  (4, .aload_n 0, 1, 0, 0, 0, 0, 0, []),
  (5, .getfield 19, 3, 7, 1, 1, 0, 0, []),
  (8, .iload_n 1, 1, 1, 0, 0, 0, 0, []),
  (9, .invokevirtual 250, 3, 155, 2, 1, 0, 0, [4]),
  (12, .ireturn, 1, 0, 0, 0, 0, 0, [])]
def zp_20 : List (List Nat) := [[], [261], [], [254], [], [457, 458, 459, 67, 460], []]
abbrev jX7_least : Nat := 21
def zd_21 : List zm_E := [(0, .aload_n 0, 1, 0, 0, 0, 0, 0, []),
  (1, .getfield 54, 3, 7, 8, 1, 0, 0, []),
  (4, .aload_n 0, 1, 0, 0, 0, 0, 0, []),
  (5, .getfield 19, 3, 7, 1, 1, 0, 0, []),
  (8, .invokevirtual 253, 3, 162, 1, 1, 0, 0, [4]),
  (11, .ireturn, 1, 0, 0, 0, 0, 0, [])]
def zp_21 : List (List Nat) := [[], [261], [], [254], [465, 466, 467, 67, 468], []]
abbrev jX7_leastOf : Nat := 22
def zd_22 : List zm_E := [(0, .aload_n 0, 1, 0, 0, 0, 0, 0, []),
  (1, .iload_n 1, 1, 1, 0, 0, 0, 0, []),
  (2, .invokevirtual 140, 3, 31, 1, 0, 0, 0, [7]),
  (5, .aload_n 0, 1, 0, 0, 0, 0, 0, []),
  (6, .getfield 54, 3, 7, 8, 1, 0, 0, []),
  (9, .aload_n 0, 1, 0, 0, 0, 0, 0, []),
  (10, .getfield 19, 3, 7, 1, 1, 0, 0, []),
  (13, .iload_n 1, 1, 1, 0, 0, 0, 0, []),
  (14, .invokevirtual 256, 3, 163, 2, 1, 0, 0, [4]),
  (17, .ireturn, 1, 0, 0, 0, 0, 0, [])]
def zp_22 : List (List Nat) := [[], [], [653, 655, 18, 62, 656], [], [261], [], [254], [], [806, 807, 808, 67, 809], []]
abbrev jX7_betterWays : Nat := 23
def zd_23 : List zm_E := [(0, .aload_n 0, 1, 0, 0, 0, 0, 0, []),
  (1, .getfield 54, 3, 7, 8, 1, 0, 0, []),
  (4, .aload_n 0, 1, 0, 0, 0, 0, 0, []),
  (5, .getfield 19, 3, 7, 1, 1, 0, 0, []),
  (8, .invokevirtual 259, 3, 157, 1, 1, 0, 0, [4]),
  (11, .ireturn, 1, 0, 0, 0, 0, 0, [])]
def zp_23 : List (List Nat) := [[], [261], [], [254], [487, 488, 489, 67, 490], []]
abbrev jX7_harms : Nat := 24
def zd_24 : List zm_E := [(0, .aload_n 0, 1, 0, 0, 0, 0, 0, []),
  (1, .iload_n 1, 1, 1, 0, 0, 0, 0, []),
  (2, .invokevirtual 140, 3, 31, 1, 0, 0, 0, [7]),
  (5, .aload_n 0, 1, 0, 0, 0, 0, 0, []),
  (6, .getfield 19, 3, 7, 1, 1, 0, 0, []),
  (9, .iload_n 1, 1, 1, 0, 0, 0, 0, []),
  (10, .invokevirtual 151, 3, 119, 1, 1, 0, 0, [1]),
  (13, .ifCond .ne 5, 3, 10, 0, 0, 0, 0, []),
  (16, .iconst 0, 1, 0, 0, 0, 0, 0, []),
  (17, .ireturn, 1, 0, 0, 0, 0, 0, []),
  (18, .aload_n 0, 1, 0, 0, 0, 0, 0, []),
  (19, .getfield 19, 3, 7, 1, 1, 0, 0, []),
  (22, .invokevirtual 227, 3, 118, 0, 1, 0, 0, [1]),
  (25, .iload_n 1, 1, 1, 0, 0, 0, 0, []),
  (26, .invokestatic 262, 3, 36, 1, 1, 0, 0, []),
  (29, .iconst (-1), 1, 0, 0, 0, (-1), 0, []),
  (30, .ixor, 1, 0, 0, 0, 0, 0, []),
  (31, .iand, 1, 0, 0, 0, 0, 0, []),
  (32, .istore_n 2, 1, 2, 0, 0, 0, 0, []),
  (33, .aload_n 0, 1, 0, 0, 0, 0, 0, []),
  (34, .invokevirtual 122, 3, 30, 0, 2, 0, 0, [7]),
  (37, .astore_n 3, 1, 3, 0, 0, 0, 0, []),
  (38, .aload_n 0, 1, 0, 0, 0, 0, 0, []),
  (39, .getfield 48, 3, 7, 7, 1, 0, 0, []),
  (42, .aload_n 0, 1, 0, 0, 0, 0, 0, []),
  (43, .getfield 19, 3, 7, 1, 1, 0, 0, []),
  (46, .iload_n 2, 1, 2, 0, 0, 0, 0, []),
  (47, .invokevirtual 265, 3, 175, 2, 0, 0, 0, [6]),
  (50, .iconst 0, 1, 0, 0, 0, 0, 0, []),
  (51, .istore 4, 2, 4, 0, 0, 0, 0, []),
  (53, .iconst 0, 1, 0, 0, 0, 0, 0, []),
  (54, .istore 5, 2, 5, 0, 0, 0, 0, []),
  (56, .iload 5, 2, 5, 0, 0, 0, 0, []),
  (58, .aload_n 0, 1, 0, 0, 0, 0, 0, []),
  (59, .getfield 19, 3, 7, 1, 1, 0, 0, []),
  (62, .getfield 113, 3, 1, 0, 0, 0, 0, []),
  (65, .if_icmp .ge 66, 3, 66, 0, 0, 0, 0, []),
  (68, .iload_n 2, 1, 2, 0, 0, 0, 0, []),
  (69, .iload 5, 2, 5, 0, 0, 0, 0, []),
  (71, .invokestatic 269, 3, 37, 2, 1, 0, 0, []),
  (74, .ifCond .eq 51, 3, 64, 0, 0, 0, 0, []),
  (77, .aload_n 0, 1, 0, 0, 0, 0, 0, []),
  (78, .getfield 19, 3, 7, 1, 1, 0, 0, []),
  (81, .iload 5, 2, 5, 0, 0, 0, 0, []),
  (83, .aload_n 0, 1, 0, 0, 0, 0, 0, []),
  (84, .getfield 48, 3, 7, 7, 1, 0, 0, []),
  (87, .getfield 155, 3, 6, 2, 1, 0, 0, []),
  (90, .iload 5, 2, 5, 0, 0, 0, 0, []),
  (92, .iaload, 1, 0, 0, 0, 0, 0, []),
  (93, .invokevirtual 172, 3, 121, 2, 1, 0, 0, [1]),
  (96, .aload_n 0, 1, 0, 0, 0, 0, 0, []),
  (97, .getfield 19, 3, 7, 1, 1, 0, 0, []),
  (100, .iload 5, 2, 5, 0, 0, 0, 0, []),
  (102, .aload_n 3, 1, 3, 0, 0, 0, 0, []),
  (103, .getfield 155, 3, 6, 2, 1, 0, 0, []),
  (106, .iload 5, 2, 5, 0, 0, 0, 0, []),
  (108, .iaload, 1, 0, 0, 0, 0, 0, []),
  (109, .invokevirtual 172, 3, 121, 2, 1, 0, 0, [1]),
  (112, .if_icmp .le 13, 3, 64, 0, 0, 0, 0, []),
  (115, .iload 4, 2, 4, 0, 0, 0, 0, []),
  (117, .iload 5, 2, 5, 0, 0, 0, 0, []),
  (119, .invokestatic 262, 3, 36, 1, 1, 0, 0, []),
  (122, .ior, 1, 0, 0, 0, 0, 0, []),
  (123, .istore 4, 2, 4, 0, 0, 0, 0, []),
  (125, .iinc 5 1, 3, 5, 0, 0, 1, 0, []),
  (128, .goto (-72), 3, 32, 0, 0, 0, 0, []),
  (131, .iload 4, 2, 4, 0, 0, 0, 0, []),
  (133, .ireturn, 1, 0, 0, 0, 0, 0, [])]
def zp_24 : List (List Nat) := [[], [], [653, 655, 18, 62, 656], [], [254], [], [678, 640, 641, 64, 642], [], [], [], [], [254], [360, 361, 362, 64, 363], [], [818, 331, 62, 332], [], [], [], [], [], [356, 358, 4, 62, 359], [], [], [260], [], [254], [], [368, 369, 370, 66, 371], [], [], [], [], [], [], [254], [114], [], [], [], [819, 328, 62, 329], [], [], [254], [], [], [260], [164], [], [], [692, 385, 386, 64, 387], [], [254], [], [], [164], [], [], [692, 385, 386, 64, 387], [], [], [], [818, 331, 62, 332], [], [], [], [], [], []]
abbrev jX7_fewest : Nat := 25
def zd_25 : List zm_E := [(0, .aload_n 0, 1, 0, 0, 0, 0, 0, []),
  (1, .iload_n 1, 1, 1, 0, 0, 0, 0, []),
  (2, .invokevirtual 140, 3, 31, 1, 0, 0, 0, [7]),
  (5, .aload_n 0, 1, 0, 0, 0, 0, 0, []),
  (6, .iload_n 2, 1, 2, 0, 0, 0, 0, []),
  (7, .invokevirtual 169, 3, 32, 1, 0, 0, 0, [7]),
  (10, .aload_n 0, 1, 0, 0, 0, 0, 0, []),
  (11, .getfield 38, 3, 7, 5, 1, 0, 0, []),
  (14, .aload_n 0, 1, 0, 0, 0, 0, 0, []),
  (15, .getfield 19, 3, 7, 1, 1, 0, 0, []),
  (18, .invokevirtual 102, 3, 115, 1, 0, 0, 0, [1]),
  (21, .aload_n 0, 1, 0, 0, 0, 0, 0, []),
  (22, .getfield 61, 3, 7, 9, 1, 0, 0, []),
  (25, .aload_n 0, 1, 0, 0, 0, 0, 0, []),
  (26, .getfield 38, 3, 7, 5, 1, 0, 0, []),
  (29, .iload_n 1, 1, 1, 0, 0, 0, 0, []),
  (30, .iload_n 2, 1, 2, 0, 0, 0, 0, []),
  (31, .invokevirtual 273, 3, 147, 3, 1, 0, 0, [3]),
  (34, .ireturn, 1, 0, 0, 0, 0, 0, [])]
def zp_25 : List (List Nat) := [[], [], [653, 655, 18, 62, 656], [], [], [687, 689, 19, 62, 690], [], [258], [], [254], [601, 347, 348, 64, 349], [], [262], [], [258], [], [], [827, 828, 829, 68, 830], []]
abbrev jX7_runScript : Nat := 26
def zd_26 : List zm_E := [(0, .iload_n 1, 1, 1, 0, 0, 0, 0, []),
  (1, .iconst 1, 1, 0, 0, 0, 1, 0, []),
  (2, .if_icmp .lt 8, 3, 6, 0, 0, 0, 0, []),
  (5, .iload_n 1, 1, 1, 0, 0, 0, 0, []),
  (6, .iconst 4, 1, 0, 0, 0, 4, 0, []),
  (7, .if_icmp .le 14, 3, 11, 0, 0, 0, 0, []),
  (10, .new 72, 3, 0, 0, 1, 0, 0, [277, 76, 1, 14]),
  (13, .dup, 1, 0, 0, 0, 0, 0, []),
  (14, .ldc_w 277, 3, 0, 0, 1, 0, 0, []),
  (17, .invokespecial 76, 3, 1002, 1, 0, 0, 0, []),
  (20, .athrow, 1, 0, 0, 0, 0, 0, []),
  (21, .lload_n 2, 1, 2, 0, 0, 0, 0, []),
  (22, .lconst 0, 1, 0, 0, 0, 0, 0, []),
  (23, .lcmp, 1, 0, 0, 0, 0, 0, []),
  (24, .ifCond .lt 15, 3, 21, 0, 0, 0, 0, []),
  (27, .aload_n 0, 1, 0, 0, 0, 0, 0, []),
  (28, .getfield 68, 3, 7, 10, 1, 0, 0, []),
  (31, .iload_n 1, 1, 1, 0, 0, 0, 0, []),
  (32, .lload_n 2, 1, 2, 0, 0, 0, 0, []),
  (33, .invokevirtual 279, 3, 138, 2, 1, 0, 0, [2]),
  (36, .ifCond .ne 14, 3, 26, 0, 0, 0, 0, []),
  (39, .new 72, 3, 0, 0, 1, 0, 0, [283, 76, 1, 15]),
  (42, .dup, 1, 0, 0, 0, 0, 0, []),
  (43, .ldc_w 283, 3, 0, 0, 1, 0, 0, []),
  (46, .invokespecial 76, 3, 1002, 1, 0, 0, 0, []),
  (49, .athrow, 1, 0, 0, 0, 0, 0, []),
  (50, .aload_n 0, 1, 0, 0, 0, 0, 0, []),
  (51, .getfield 38, 3, 7, 5, 1, 0, 0, []),
  (54, .aload_n 0, 1, 0, 0, 0, 0, 0, []),
  (55, .getfield 19, 3, 7, 1, 1, 0, 0, []),
  (58, .invokevirtual 102, 3, 115, 1, 0, 0, 0, [1]),
  (61, .iconst 0, 1, 0, 0, 0, 0, 0, []),
  (62, .istore 4, 2, 4, 0, 0, 0, 0, []),
  (64, .iload 4, 2, 4, 0, 0, 0, 0, []),
  (66, .iload_n 1, 1, 1, 0, 0, 0, 0, []),
  (67, .if_icmp .ge 36, 3, 51, 0, 0, 0, 0, []),
  (70, .aload_n 0, 1, 0, 0, 0, 0, 0, []),
  (71, .getfield 68, 3, 7, 10, 1, 0, 0, []),
  (74, .iload 4, 2, 4, 0, 0, 0, 0, []),
  (76, .aload_n 0, 1, 0, 0, 0, 0, 0, []),
  (77, .getfield 38, 3, 7, 5, 1, 0, 0, []),
  (80, .aload_n 0, 1, 0, 0, 0, 0, 0, []),
  (81, .getfield 44, 3, 7, 6, 1, 0, 0, []),
  (84, .aload_n 0, 1, 0, 0, 0, 0, 0, []),
  (85, .getfield 54, 3, 7, 8, 1, 0, 0, []),
  (88, .invokevirtual 285, 3, 139, 4, 1, 0, 0, [2]),
  (91, .ifCond .ne 6, 3, 49, 0, 0, 0, 0, []),
  (94, .iload 4, 2, 4, 0, 0, 0, 0, []),
  (96, .ireturn, 1, 0, 0, 0, 0, 0, []),
  (97, .iinc 4 1, 3, 4, 0, 0, 1, 0, []),
  (100, .goto (-36), 3, 33, 0, 0, 0, 0, []),
  (103, .bipush (-9), 2, 0, 0, 0, (-9), 0, []),
  (105, .ireturn, 1, 0, 0, 0, 0, 0, [])]
def zp_26 : List (List Nat) := [[], [], [], [], [], [], [500, 74, 542], [], [], [], [], [], [], [], [], [], [263], [], [], [865, 866, 867, 69, 868], [], [500, 74, 542], [], [], [], [], [], [258], [], [254], [601, 347, 348, 64, 349], [], [], [], [], [], [], [263], [], [], [258], [], [259], [], [261], [872, 873, 874, 69, 875], [], [], [], [], [], [], []]
abbrev jX7_simulate : Nat := 27
def zd_27 : List zm_E := [(0, .iload_n 3, 1, 3, 0, 0, 0, 0, []),
  (1, .iconst 1, 1, 0, 0, 0, 1, 0, []),
  (2, .if_icmp .lt 9, 3, 6, 0, 0, 0, 0, []),
  (5, .iload_n 3, 1, 3, 0, 0, 0, 0, []),
  (6, .bipush 99, 2, 0, 0, 0, 99, 0, []),
  (8, .if_icmp .le 14, 3, 11, 0, 0, 0, 0, []),
  (11, .new 72, 3, 0, 0, 1, 0, 0, [289, 76, 1, 16]),
  (14, .dup, 1, 0, 0, 0, 0, 0, []),
  (15, .ldc_w 289, 3, 0, 0, 1, 0, 0, []),
  (18, .invokespecial 76, 3, 1002, 1, 0, 0, 0, []),
  (21, .athrow, 1, 0, 0, 0, 0, 0, []),
  (22, .aload_n 0, 1, 0, 0, 0, 0, 0, []),
  (23, .getfield 38, 3, 7, 5, 1, 0, 0, []),
  (26, .aload_n 0, 1, 0, 0, 0, 0, 0, []),
  (27, .getfield 19, 3, 7, 1, 1, 0, 0, []),
  (30, .invokevirtual 102, 3, 115, 1, 0, 0, 0, [1]),
  (33, .iconst 0, 1, 0, 0, 0, 0, 0, []),
  (34, .istore 4, 2, 4, 0, 0, 0, 0, []),
  (36, .lload_n 1, 1, 1, 0, 0, 0, 0, []),
  (37, .lstore 5, 2, 5, 0, 0, 0, 0, []),
  (39, .iconst 0, 1, 0, 0, 0, 0, 0, []),
  (40, .istore 7, 2, 7, 0, 0, 0, 0, []),
  (42, .iload 7, 2, 7, 0, 0, 0, 0, []),
  (44, .iload_n 3, 1, 3, 0, 0, 0, 0, []),
  (45, .if_icmp .ge 40, 3, 42, 0, 0, 0, 0, []),
  (48, .lload 5, 2, 5, 0, 0, 0, 0, []),
  (50, .ldc2_w 291, 3, 0, 0, 0, 0, 6364136223846793005, []),
  (53, .lmul, 1, 0, 0, 0, 0, 0, []),
  (54, .ldc2_w 293, 3, 0, 0, 0, 0, 1442695040888963407, []),
  (57, .ladd, 1, 0, 0, 0, 0, 0, []),
  (58, .lstore 5, 2, 5, 0, 0, 0, 0, []),
  (60, .aload_n 0, 1, 0, 0, 0, 0, 0, []),
  (61, .getfield 38, 3, 7, 5, 1, 0, 0, []),
  (64, .lload 5, 2, 5, 0, 0, 0, 0, []),
  (66, .bipush 33, 2, 0, 0, 0, 33, 0, []),
  (68, .lushr, 1, 0, 0, 0, 0, 0, []),
  (69, .l2i, 1, 0, 0, 0, 0, 0, []),
  (70, .invokestatic 295, 3, 35, 2, 1, 0, 0, []),
  (73, .ifCond .eq 6, 3, 40, 0, 0, 0, 0, []),
  (76, .iinc 4 1, 3, 4, 0, 0, 1, 0, []),
  (79, .iinc 7 1, 3, 7, 0, 0, 1, 0, []),
  (82, .goto (-40), 3, 22, 0, 0, 0, 0, []),
  (85, .sipush 1000, 3, 0, 0, 0, 1000, 0, []),
  (88, .iload 4, 2, 4, 0, 0, 0, 0, []),
  (90, .imul, 1, 0, 0, 0, 0, 0, []),
  (91, .bipush 100, 2, 0, 0, 0, 100, 0, []),
  (93, .aload_n 0, 1, 0, 0, 0, 0, 0, []),
  (94, .getfield 38, 3, 7, 5, 1, 0, 0, []),
  (97, .invokevirtual 109, 3, 120, 0, 1, 0, 0, [1]),
  (100, .imul, 1, 0, 0, 0, 0, 0, []),
  (101, .iadd, 1, 0, 0, 0, 0, 0, []),
  (102, .aload_n 0, 1, 0, 0, 0, 0, 0, []),
  (103, .getfield 38, 3, 7, 5, 1, 0, 0, []),
  (106, .invokevirtual 119, 3, 128, 0, 1, 0, 0, [1]),
  (109, .iadd, 1, 0, 0, 0, 0, 0, []),
  (110, .ireturn, 1, 0, 0, 0, 0, 0, [])]
def zp_27 : List (List Nat) := [[], [], [], [], [], [], [500, 74, 542], [], [], [], [], [], [258], [], [254], [601, 347, 348, 64, 349], [], [], [], [], [], [], [], [], [], [], [915], [], [916], [], [], [], [258], [], [], [], [], [917, 918, 62, 919], [], [], [], [], [], [], [], [], [], [258], [606, 607, 608, 64, 609], [], [], [], [258], [623, 624, 625, 64, 626], [], []]
abbrev jX7_save : Nat := 28
def zd_28 : List zm_E := [(0, .aload_n 0, 1, 0, 0, 0, 0, 0, []),
  (1, .iload_n 1, 1, 1, 0, 0, 0, 0, []),
  (2, .invokevirtual 299, 3, 33, 1, 0, 0, 0, [7]),
  (5, .aload_n 0, 1, 0, 0, 0, 0, 0, []),
  (6, .getfield 30, 3, 7, 3, 1, 0, 0, []),
  (9, .iload_n 1, 1, 1, 0, 0, 0, 0, []),
  (10, .aaload, 1, 0, 0, 0, 0, 0, []),
  (11, .aload_n 0, 1, 0, 0, 0, 0, 0, []),
  (12, .getfield 19, 3, 7, 1, 1, 0, 0, []),
  (15, .invokevirtual 102, 3, 115, 1, 0, 0, 0, [1]),
  (18, .aload_n 0, 1, 0, 0, 0, 0, 0, []),
  (19, .getfield 34, 3, 7, 4, 1, 0, 0, []),
  (22, .iload_n 1, 1, 1, 0, 0, 0, 0, []),
  (23, .iconst 1, 1, 0, 0, 0, 1, 0, []),
  (24, .bastore, 1, 0, 0, 0, 0, 0, []),
  (25, .aload_n 0, 1, 0, 0, 0, 0, 0, []),
  (26, .getfield 19, 3, 7, 1, 1, 0, 0, []),
  (29, .getfield 113, 3, 1, 0, 0, 0, 0, []),
  (32, .ireturn, 1, 0, 0, 0, 0, 0, [])]
def zp_28 : List (List Nat) := [[], [], [927, 929, 22, 62, 930], [], [256], [], [], [], [254], [601, 347, 348, 64, 349], [], [257], [], [], [], [], [254], [114], []]
abbrev jX7_restore : Nat := 29
def zd_29 : List zm_E := [(0, .aload_n 0, 1, 0, 0, 0, 0, 0, []),
  (1, .iload_n 1, 1, 1, 0, 0, 0, 0, []),
  (2, .invokevirtual 299, 3, 33, 1, 0, 0, 0, [7]),
  (5, .aload_n 0, 1, 0, 0, 0, 0, 0, []),
  (6, .getfield 34, 3, 7, 4, 1, 0, 0, []),
  (9, .iload_n 1, 1, 1, 0, 0, 0, 0, []),
  (10, .baload, 1, 0, 0, 0, 0, 0, []),
  (11, .ifCond .ne 14, 3, 13, 0, 0, 0, 0, []),
  (14, .new 83, 3, 1, 0, 1, 0, 0, [302, 87, 1, 18]),
  (17, .dup, 1, 0, 0, 0, 0, 0, []),
  (18, .ldc_w 302, 3, 0, 0, 1, 0, 0, []),
  (21, .invokespecial 87, 3, 1002, 1, 0, 0, 0, []),
  (24, .athrow, 1, 0, 0, 0, 0, 0, []),
  (25, .aload_n 0, 1, 0, 0, 0, 0, 0, []),
  (26, .getfield 19, 3, 7, 1, 1, 0, 0, []),
  (29, .aload_n 0, 1, 0, 0, 0, 0, 0, []),
  (30, .getfield 30, 3, 7, 3, 1, 0, 0, []),
  (33, .iload_n 1, 1, 1, 0, 0, 0, 0, []),
  (34, .aaload, 1, 0, 0, 0, 0, 0, []),
  (35, .invokevirtual 102, 3, 115, 1, 0, 0, 0, [1]),
  (38, .aload_n 0, 1, 0, 0, 0, 0, 0, []),
  (39, .getfield 26, 3, 7, 2, 1, 0, 0, []),
  (42, .invokevirtual 106, 3, 111, 0, 0, 0, 0, [0]),
  (45, .aload_n 0, 1, 0, 0, 0, 0, 0, []),
  (46, .getfield 19, 3, 7, 1, 1, 0, 0, []),
  (49, .getfield 113, 3, 1, 0, 0, 0, 0, []),
  (52, .ireturn, 1, 0, 0, 0, 0, 0, [])]
def zp_29 : List (List Nat) := [[], [], [927, 929, 22, 62, 930], [], [257], [], [], [], [572, 75, 582], [], [], [], [], [], [254], [], [256], [], [], [601, 347, 348, 64, 349], [], [255], [602, 603, 604, 65, 605], [], [254], [114], []]
abbrev jX7_presentTrading : Nat := 30
def zd_30 : List zm_E := [(0, .aload_n 0, 1, 0, 0, 0, 0, 0, []),
  (1, .getfield 44, 3, 7, 6, 1, 0, 0, []),
  (4, .aload_n 0, 1, 0, 0, 0, 0, 0, []),
  (5, .getfield 19, 3, 7, 1, 1, 0, 0, []),
  (8, .aload_n 0, 1, 0, 0, 0, 0, 0, []),
  (9, .getfield 19, 3, 7, 1, 1, 0, 0, []),
  (12, .invokevirtual 227, 3, 118, 0, 1, 0, 0, [1]),
  (15, .invokevirtual 265, 3, 175, 2, 0, 0, 0, [6]),
  (18, .aload_n 0, 1, 0, 0, 0, 0, 0, []),
  (19, .getfield 44, 3, 7, 6, 1, 0, 0, []),
  (22, .areturn, 1, 0, 0, 0, 0, 0, [])]
def zp_30 : List (List Nat) := [[], [259], [], [254], [], [254], [360, 361, 362, 64, 363], [368, 369, 370, 66, 371], [], [259], []]
abbrev jX7_needTrader : Nat := 31
def zd_31 : List zm_E := [(0, .aload_n 0, 1, 0, 0, 0, 0, 0, []),
  (1, .getfield 19, 3, 7, 1, 1, 0, 0, []),
  (4, .iload_n 1, 1, 1, 0, 0, 0, 0, []),
  (5, .invokevirtual 304, 3, 116, 1, 1, 0, 0, [1]),
  (8, .ifCond .ne 14, 3, 10, 0, 0, 0, 0, []),
  (11, .new 307, 3, 2, 0, 1, 0, 0, [309, 311, 1, 4]),
  (14, .dup, 1, 0, 0, 0, 0, 0, []),
  (15, .ldc_w 309, 3, 0, 0, 1, 0, 0, []),
  (18, .invokespecial 311, 3, 1002, 1, 0, 0, 0, []),
  (21, .athrow, 1, 0, 0, 0, 0, 0, []),
  (22, .return_, 1, 0, 0, 0, 0, 0, [])]
def zp_31 : List (List Nat) := [[], [254], [], [657, 658, 659, 64, 660], [], [661, 78, 671], [], [], [], [], []]
abbrev jX7_needThing : Nat := 32
def zd_32 : List zm_E := [(0, .aload_n 0, 1, 0, 0, 0, 0, 0, []),
  (1, .getfield 19, 3, 7, 1, 1, 0, 0, []),
  (4, .iload_n 1, 1, 1, 0, 0, 0, 0, []),
  (5, .invokevirtual 304, 3, 116, 1, 1, 0, 0, [1]),
  (8, .ifCond .ne 14, 3, 10, 0, 0, 0, 0, []),
  (11, .new 307, 3, 2, 0, 1, 0, 0, [312, 311, 1, 6]),
  (14, .dup, 1, 0, 0, 0, 0, 0, []),
  (15, .ldc_w 312, 3, 0, 0, 1, 0, 0, []),
  (18, .invokespecial 311, 3, 1002, 1, 0, 0, 0, []),
  (21, .athrow, 1, 0, 0, 0, 0, 0, []),
  (22, .return_, 1, 0, 0, 0, 0, 0, [])]
def zp_32 : List (List Nat) := [[], [254], [], [657, 658, 659, 64, 660], [], [661, 78, 671], [], [], [], [], []]
abbrev jX7_needSlot : Nat := 33
def zd_33 : List zm_E := [(0, .iload_n 1, 1, 1, 0, 0, 0, 0, []),
  (1, .ifCond .lt 12, 3, 7, 0, 0, 0, 0, []),
  (4, .iload_n 1, 1, 1, 0, 0, 0, 0, []),
  (5, .aload_n 0, 1, 0, 0, 0, 0, 0, []),
  (6, .getfield 30, 3, 7, 3, 1, 0, 0, []),
  (9, .arraylength, 1, 0, 0, 0, 0, 0, []),
  (10, .if_icmp .lt 14, 3, 12, 0, 0, 0, 0, []),
  (13, .new 307, 3, 2, 0, 1, 0, 0, [314, 311, 1, 17]),
  (16, .dup, 1, 0, 0, 0, 0, 0, []),
  (17, .ldc_w 314, 3, 0, 0, 1, 0, 0, []),
  (20, .invokespecial 311, 3, 1002, 1, 0, 0, 0, []),
  (23, .athrow, 1, 0, 0, 0, 0, 0, []),
  (24, .return_, 1, 0, 0, 0, 0, 0, [])]
def zp_33 : List (List Nat) := [[], [], [], [], [256], [], [], [661, 78, 671], [], [], [], [], []]
abbrev jX7_needRing : Nat := 34
def zd_34 : List zm_E := [(0, .aload_n 0, 1, 0, 0, 0, 0, 0, []),
  (1, .iload_n 1, 1, 1, 0, 0, 0, 0, []),
  (2, .invokevirtual 316, 3, 176, 1, 1, 0, 0, [6]),
  (5, .ifCond .ne 14, 3, 9, 0, 0, 0, 0, []),
  (8, .new 307, 3, 2, 0, 1, 0, 0, [319, 311, 1, 7]),
  (11, .dup, 1, 0, 0, 0, 0, 0, []),
  (12, .ldc_w 319, 3, 0, 0, 1, 0, 0, []),
  (15, .invokespecial 311, 3, 1002, 1, 0, 0, 0, []),
  (18, .athrow, 1, 0, 0, 0, 0, 0, []),
  (19, .return_, 1, 0, 0, 0, 0, 0, [])]
def zp_34 : List (List Nat) := [[], [], [714, 715, 716, 66, 717], [], [661, 78, 671], [], [], [], [], []]
abbrev jX7_meet : Nat := 35
def zd_35 : List zm_E := [(0, .aload_n 0, 1, 0, 0, 0, 0, 0, []),
  (1, .getfield 113, 3, 1, 0, 0, 0, 0, []),
  (4, .ifCond .ne 5, 3, 5, 0, 0, 0, 0, []),
  (7, .iconst 0, 1, 0, 0, 0, 0, 0, []),
  (8, .ireturn, 1, 1, 0, 0, 0, 0, []),
  (9, .iload_n 1, 1, 1, 0, 0, 0, 0, []),
  (10, .bipush 16, 2, 0, 0, 0, 16, 0, []),
  (12, .idiv, 1, 0, 0, 0, 0, 0, []),
  (13, .aload_n 0, 1, 0, 0, 0, 0, 0, []),
  (14, .getfield 113, 3, 1, 0, 0, 0, 0, []),
  (17, .irem, 1, 0, 0, 0, 0, 0, []),
  (18, .istore_n 2, 1, 2, 0, 0, 0, 0, []),
  (19, .iload_n 1, 1, 1, 0, 0, 0, 0, []),
  (20, .sipush 256, 3, 0, 0, 0, 256, 0, []),
  (23, .idiv, 1, 0, 0, 0, 0, 0, []),
  (24, .aload_n 0, 1, 0, 0, 0, 0, 0, []),
  (25, .getfield 113, 3, 1, 0, 0, 0, 0, []),
  (28, .irem, 1, 0, 0, 0, 0, 0, []),
  (29, .istore_n 3, 1, 3, 0, 0, 0, 0, []),
  (30, .aload_n 0, 1, 0, 0, 0, 0, 0, []),
  (31, .iload_n 2, 1, 2, 0, 0, 0, 0, []),
  (32, .iload_n 3, 1, 3, 0, 0, 0, 0, []),
  (33, .invokevirtual 200, 3, 130, 2, 1, 0, 0, [1]),
  (36, .ifCond .ne 7, 3, 26, 0, 0, 0, 0, []),
  (39, .iconst 1, 1, 0, 0, 0, 1, 0, []),
  (40, .goto 4, 3, 27, 0, 0, 0, 0, []),
  (43, .iconst 0, 1, 0, 0, 0, 0, 0, []),
  (44, .istore 4, 2, 4, 0, 0, 0, 0, []),
  (46, .iload 4, 2, 4, 0, 0, 0, 0, []),
  (48, .ifCond .eq 9, 3, 34, 0, 0, 0, 0, []),
  (51, .aload_n 0, 1, 0, 0, 0, 0, 0, []),
  (52, .iload_n 2, 1, 2, 0, 0, 0, 0, []),
  (53, .iload_n 3, 1, 3, 0, 0, 0, 0, []),
  (54, .invokevirtual 219, 3, 131, 2, 0, 0, 0, [1]),
  (57, .iload_n 1, 1, 1, 0, 0, 0, 0, []),
  (58, .bipush 16, 2, 0, 0, 0, 16, 0, []),
  (60, .irem, 1, 0, 0, 0, 0, 0, []),
  (61, .ifCond .ne 8, 3, 41, 0, 0, 0, 0, []),
  (64, .aload_n 0, 1, 0, 0, 0, 0, 0, []),
  (65, .iload_n 2, 1, 2, 0, 0, 0, 0, []),
  (66, .invokevirtual 232, 3, 133, 1, 0, 0, 0, [1]),
  (69, .iload 4, 2, 4, 0, 0, 0, 0, []),
  (71, .ireturn, 1, 1, 0, 0, 0, 0, [])]
def zp_35 : List (List Nat) := [[], [114], [], [], [], [], [], [], [], [114], [], [], [], [], [], [], [114], [], [], [], [], [], [733, 734, 735, 64, 736], [], [], [], [], [], [], [], [], [], [], [767, 768, 769, 64, 770], [], [], [], [], [], [], [786, 334, 335, 64, 336], [], []]
abbrev jX7_bit : Nat := 36
def zd_36 : List zm_E := [(0, .iconst 1, 1, 0, 0, 0, 1, 0, []),
  (1, .iload_n 0, 1, 0, 0, 0, 0, 0, []),
  (2, .ishl, 1, 0, 0, 0, 0, 0, []),
  (3, .ireturn, 1, 0, 0, 0, 0, 0, [])]
def zp_36 : List (List Nat) := [[], [], [], []]
abbrev jX7_contains : Nat := 37
def zd_37 : List zm_E := [(0, .iload_n 0, 1, 0, 0, 0, 0, 0, []),
  (1, .iload_n 1, 1, 1, 0, 0, 0, 0, []),
  (2, .ishr, 1, 0, 0, 0, 0, 0, []),
  (3, .iconst 1, 1, 0, 0, 0, 1, 0, []),
  (4, .iand, 1, 0, 0, 0, 0, 0, []),
  (5, .ifCond .eq 7, 3, 8, 0, 0, 0, 0, []),
  (8, .iconst 1, 1, 0, 0, 0, 1, 0, []),
  (9, .goto 4, 3, 9, 0, 0, 0, 0, []),
  (12, .iconst 0, 1, 0, 0, 0, 0, 0, []),
  (13, .ireturn, 1, 1, 0, 0, 0, 0, [])]
def zp_37 : List (List Nat) := [[], [], [], [], [], [], [], [], [], []]
abbrev jX8_init : Nat := 38
def zd_38 : List zm_E := [(0, .aload_n 0, 1, 0, 0, 0, 0, 0, []),
  (1, .invokespecial 1, 3, 1001, 0, 0, 0, 0, []),
  (4, .aload_n 0, 1, 0, 0, 0, 0, 0, []),
  (5, .bipush 58, 2, 0, 0, 0, 58, 0, []),
  (7, .newarray .int, 2, 0, 0, 0, 0, 0, []),
  (9, .putfield 7, 3, 8, 0, 1, 0, 0, []),
  (12, .aload_n 0, 1, 0, 0, 0, 0, 0, []),
  (13, .bipush 58, 2, 0, 0, 0, 58, 0, []),
  (15, .newarray .int, 2, 0, 0, 0, 0, 0, []),
  (17, .putfield 13, 3, 8, 1, 1, 0, 0, []),
  (20, .aload_n 0, 1, 0, 0, 0, 0, 0, []),
  (21, .sipush 812, 3, 0, 0, 0, 812, 0, []),
  (24, .newarray .int, 2, 0, 0, 0, 0, 0, []),
  (26, .putfield 16, 3, 8, 2, 1, 0, 0, []),
  (29, .aload_n 0, 1, 0, 0, 0, 0, 0, []),
  (30, .bipush 116, 2, 0, 0, 0, 116, 0, []),
  (32, .newarray .int, 2, 0, 0, 0, 0, 0, []),
  (34, .putfield 19, 3, 8, 4, 1, 0, 0, []),
  (37, .aload_n 0, 1, 0, 0, 0, 0, 0, []),
  (38, .iconst 2, 1, 0, 0, 0, 2, 0, []),
  (39, .newarray .boolean, 2, 2, 0, 0, 0, 0, []),
  (41, .putfield 22, 3, 8, 5, 1, 0, 0, []),
  (44, .aload_n 0, 1, 0, 0, 0, 0, 0, []),
  (45, .bipush 70, 2, 0, 0, 0, 70, 0, []),
  (47, .newarray .int, 2, 0, 0, 0, 0, 0, []),
  (49, .putfield 26, 3, 8, 6, 1, 0, 0, []),
  (52, .aload_n 0, 1, 0, 0, 0, 0, 0, []),
  (53, .bipush 7, 2, 0, 0, 0, 7, 0, []),
  (55, .newarray .int, 2, 0, 0, 0, 0, 0, []),
  (57, .putfield 29, 3, 8, 9, 1, 0, 0, []),
  (60, .aload_n 0, 1, 0, 0, 0, 0, 0, []),
  (61, .bipush 7, 2, 0, 0, 0, 7, 0, []),
  (63, .newarray .int, 2, 0, 0, 0, 0, 0, []),
  (65, .putfield 32, 3, 8, 10, 1, 0, 0, []),
  (68, .aload_n 0, 1, 0, 0, 0, 0, 0, []),
  (69, .bipush 7, 2, 0, 0, 0, 7, 0, []),
  (71, .newarray .int, 2, 0, 0, 0, 0, 0, []),
  (73, .putfield 35, 3, 8, 11, 1, 0, 0, []),
  (76, .aload_n 0, 1, 0, 0, 0, 0, 0, []),
  (77, .bipush 7, 2, 0, 0, 0, 7, 0, []),
  (79, .newarray .int, 2, 0, 0, 0, 0, 0, []),
  (81, .putfield 38, 3, 8, 12, 1, 0, 0, []),
  (84, .aload_n 0, 1, 0, 0, 0, 0, 0, []),
  (85, .bipush 7, 2, 0, 0, 0, 7, 0, []),
  (87, .newarray .int, 2, 0, 0, 0, 0, 0, []),
  (89, .putfield 41, 3, 8, 13, 1, 0, 0, []),
  (92, .aload_n 0, 1, 0, 0, 0, 0, 0, []),
  (93, .bipush 7, 2, 0, 0, 0, 7, 0, []),
  (95, .newarray .int, 2, 0, 0, 0, 0, 0, []),
  (97, .putfield 44, 3, 8, 14, 1, 0, 0, []),
  (100, .aload_n 0, 1, 0, 0, 0, 0, 0, []),
  (101, .bipush 7, 2, 0, 0, 0, 7, 0, []),
  (103, .newarray .int, 2, 0, 0, 0, 0, 0, []),
  (105, .putfield 47, 3, 8, 15, 1, 0, 0, []),
  (108, .aload_n 0, 1, 0, 0, 0, 0, 0, []),
  (109, .bipush 58, 2, 0, 0, 0, 58, 0, []),
  (111, .newarray .int, 2, 0, 0, 0, 0, 0, []),
  (113, .putfield 50, 3, 8, 20, 1, 0, 0, []),
  (116, .aload_n 0, 1, 0, 0, 0, 0, 0, []),
  (117, .sipush 128, 3, 0, 0, 0, 128, 0, []),
  (120, .newarray .int, 2, 0, 0, 0, 0, 0, []),
  (122, .putfield 53, 3, 8, 21, 1, 0, 0, []),
  (125, .aload_n 0, 1, 0, 0, 0, 0, 0, []),
  (126, .sipush 128, 3, 0, 0, 0, 128, 0, []),
  (129, .newarray .int, 2, 0, 0, 0, 0, 0, []),
  (131, .putfield 56, 3, 8, 22, 1, 0, 0, []),
  (134, .aload_n 0, 1, 0, 0, 0, 0, 0, []),
  (135, .bipush 7, 2, 0, 0, 0, 7, 0, []),
  (137, .newarray .int, 2, 0, 0, 0, 0, 0, []),
  (139, .putfield 59, 3, 8, 23, 1, 0, 0, []),
  (142, .aload_n 0, 1, 0, 0, 0, 0, 0, []),
  (143, .bipush 7, 2, 0, 0, 0, 7, 0, []),
  (145, .newarray .int, 2, 0, 0, 0, 0, 0, []),
  (147, .putfield 62, 3, 8, 24, 1, 0, 0, []),
  (150, .aload_n 0, 1, 0, 0, 0, 0, 0, []),
  (151, .sipush 5040, 3, 0, 0, 0, 5040, 0, []),
  (154, .newarray .int, 2, 0, 0, 0, 0, 0, []),
  (156, .putfield 65, 3, 8, 25, 1, 0, 0, []),
  (159, .aload_n 0, 1, 0, 0, 0, 0, 0, []),
  (160, .sipush 5040, 3, 0, 0, 0, 5040, 0, []),
  (163, .newarray .boolean, 2, 2, 0, 0, 0, 0, []),
  (165, .putfield 68, 3, 8, 26, 1, 0, 0, []),
  (168, .return_, 1, 0, 0, 0, 0, 0, [])]
def zp_38 : List (List Nat) := [[], [945, 87, 88], [], [], [103], [946], [], [], [103], [947], [], [], [103], [948], [], [], [103], [950], [], [], [197], [951], [], [], [103], [952], [], [], [103], [955], [], [], [103], [956], [], [], [103], [957], [], [], [103], [958], [], [], [103], [959], [], [], [103], [960], [], [], [103], [961], [], [], [103], [966], [], [], [103], [967], [], [], [103], [968], [], [], [103], [969], [], [], [103], [970], [], [], [103], [971], [], [], [197], [972], []]
abbrev jX8_thrown : Nat := 39
def zd_39 : List zm_E := [(0, .aload_n 0, 1, 0, 0, 0, 0, 0, []),
  (1, .getfield 71, 3, 8, 8, 0, 0, 0, []),
  (4, .ireturn, 1, 0, 0, 0, 0, 0, [])]
def zp_39 : List (List Nat) := [[], [954], []]
abbrev jX8_in : Nat := 40
def zd_40 : List zm_E := [(0, .lload_n 0, 1, 0, 0, 0, 0, 0, []),
  (1, .lload_n 2, 1, 2, 0, 0, 0, 0, []),
  (2, .lcmp, 1, 0, 0, 0, 0, 0, []),
  (3, .ifCond .lt 14, 3, 10, 0, 0, 0, 0, []),
  (6, .lload_n 0, 1, 0, 0, 0, 0, 0, []),
  (7, .lload 4, 2, 4, 0, 0, 0, 0, []),
  (9, .lcmp, 1, 0, 0, 0, 0, 0, []),
  (10, .ifCond .gt 7, 3, 10, 0, 0, 0, 0, []),
  (13, .iconst 1, 1, 0, 0, 0, 1, 0, []),
  (14, .goto 4, 3, 11, 0, 0, 0, 0, []),
  (17, .iconst 0, 1, 0, 0, 0, 0, 0, []),
  (18, .ireturn, 1, 1, 0, 0, 0, 0, [])]
def zp_40 : List (List Nat) := [[], [], [], [], [], [], [], [], [], [], [], []]
abbrev jX8_has : Nat := 41
def zd_41 : List zm_E := [(0, .iload_n 0, 1, 0, 0, 0, 0, 0, []),
  (1, .iload_n 1, 1, 1, 0, 0, 0, 0, []),
  (2, .ishr, 1, 0, 0, 0, 0, 0, []),
  (3, .iconst 1, 1, 0, 0, 0, 1, 0, []),
  (4, .iand, 1, 0, 0, 0, 0, 0, []),
  (5, .iconst 1, 1, 0, 0, 0, 1, 0, []),
  (6, .if_icmp .ne 7, 3, 9, 0, 0, 0, 0, []),
  (9, .iconst 1, 1, 0, 0, 0, 1, 0, []),
  (10, .goto 4, 3, 10, 0, 0, 0, 0, []),
  (13, .iconst 0, 1, 0, 0, 0, 0, 0, []),
  (14, .ireturn, 1, 1, 0, 0, 0, 0, [])]
def zp_41 : List (List Nat) := [[], [], [], [], [], [], [], [], [], [], []]
abbrev jX8_ones : Nat := 42
def zd_42 : List zm_E := [(0, .iconst 0, 1, 0, 0, 0, 0, 0, []),
  (1, .istore_n 1, 1, 1, 0, 0, 0, 0, []),
  (2, .iload_n 0, 1, 0, 0, 0, 0, 0, []),
  (3, .istore_n 2, 1, 2, 0, 0, 0, 0, []),
  (4, .iload_n 2, 1, 2, 0, 0, 0, 0, []),
  (5, .ifCond .eq 15, 3, 14, 0, 0, 0, 0, []),
  (8, .iinc 1 1, 3, 1, 0, 0, 1, 0, []),
  (11, .iload_n 2, 1, 2, 0, 0, 0, 0, []),
  (12, .iload_n 2, 1, 2, 0, 0, 0, 0, []),
  (13, .iconst 1, 1, 0, 0, 0, 1, 0, []),
  (14, .isub, 1, 0, 0, 0, 0, 0, []),
  (15, .iand, 1, 0, 0, 0, 0, 0, []),
  (16, .istore_n 2, 1, 2, 0, 0, 0, 0, []),
  (17, .goto (-13), 3, 4, 0, 0, 0, 0, []),
  (20, .iload_n 1, 1, 1, 0, 0, 0, 0, []),
  (21, .ireturn, 1, 0, 0, 0, 0, 0, [])]
def zp_42 : List (List Nat) := [[], [], [], [], [], [], [], [], [], [], [], [], [], [], [], []]
abbrev jX8_fails : Nat := 43
def zd_43 : List zm_E := [(0, .aload_n 0, 1, 0, 0, 0, 0, 0, []),
  (1, .iload_n 1, 1, 1, 0, 0, 0, 0, []),
  (2, .putfield 71, 3, 8, 8, 0, 0, 0, []),
  (5, .iconst 0, 1, 0, 0, 0, 0, 0, []),
  (6, .ireturn, 1, 0, 0, 0, 0, 0, [])]
def zp_43 : List (List Nat) := [[], [], [954], [], []]
abbrev jX8_keep : Nat := 44
def zd_44 : List zm_E := [(0, .iconst 0, 1, 0, 0, 0, 0, 0, []),
  (1, .istore_n 1, 1, 1, 0, 0, 0, 0, []),
  (2, .iload_n 1, 1, 1, 0, 0, 0, 0, []),
  (3, .bipush 58, 2, 0, 0, 0, 58, 0, []),
  (5, .if_icmp .ge 21, 3, 15, 0, 0, 0, 0, []),
  (8, .aload_n 0, 1, 0, 0, 0, 0, 0, []),
  (9, .getfield 13, 3, 8, 1, 1, 0, 0, []),
  (12, .iload_n 1, 1, 1, 0, 0, 0, 0, []),
  (13, .aload_n 0, 1, 0, 0, 0, 0, 0, []),
  (14, .getfield 7, 3, 8, 0, 1, 0, 0, []),
  (17, .iload_n 1, 1, 1, 0, 0, 0, 0, []),
  (18, .iaload, 1, 0, 0, 0, 0, 0, []),
  (19, .iastore, 1, 0, 0, 0, 0, 0, []),
  (20, .iinc 1 1, 3, 1, 0, 0, 1, 0, []),
  (23, .goto (-21), 3, 2, 0, 0, 0, 0, []),
  (26, .return_, 1, 0, 0, 0, 0, 0, [])]
def zp_44 : List (List Nat) := [[], [], [], [], [], [], [947], [], [], [946], [], [], [], [], [], []]
abbrev jX8_bringBack : Nat := 45
def zd_45 : List zm_E := [(0, .iconst 0, 1, 0, 0, 0, 0, 0, []),
  (1, .istore_n 1, 1, 1, 0, 0, 0, 0, []),
  (2, .iload_n 1, 1, 1, 0, 0, 0, 0, []),
  (3, .bipush 58, 2, 0, 0, 0, 58, 0, []),
  (5, .if_icmp .ge 21, 3, 15, 0, 0, 0, 0, []),
  (8, .aload_n 0, 1, 0, 0, 0, 0, 0, []),
  (9, .getfield 7, 3, 8, 0, 1, 0, 0, []),
  (12, .iload_n 1, 1, 1, 0, 0, 0, 0, []),
  (13, .aload_n 0, 1, 0, 0, 0, 0, 0, []),
  (14, .getfield 13, 3, 8, 1, 1, 0, 0, []),
  (17, .iload_n 1, 1, 1, 0, 0, 0, 0, []),
  (18, .iaload, 1, 0, 0, 0, 0, 0, []),
  (19, .iastore, 1, 0, 0, 0, 0, 0, []),
  (20, .iinc 1 1, 3, 1, 0, 0, 1, 0, []),
  (23, .goto (-21), 3, 2, 0, 0, 0, 0, []),
  (26, .return_, 1, 0, 0, 0, 0, 0, [])]
def zp_45 : List (List Nat) := [[], [], [], [], [], [], [946], [], [], [947], [], [], [], [], [], []]
abbrev jX8_remember : Nat := 46
def zd_46 : List zm_E := [(0, .aload_n 0, 1, 0, 0, 0, 0, 0, []),
  (1, .getfield 75, 3, 8, 3, 0, 0, 0, []),
  (4, .bipush 14, 2, 0, 0, 0, 14, 0, []),
  (6, .if_icmp .ne 43, 3, 27, 0, 0, 0, 0, []),
  (9, .iconst 0, 1, 0, 0, 0, 0, 0, []),
  (10, .istore_n 1, 1, 1, 0, 0, 0, 0, []),
  (11, .iload_n 1, 1, 1, 0, 0, 0, 0, []),
  (12, .sipush 754, 3, 0, 0, 0, 754, 0, []),
  (15, .if_icmp .ge 24, 3, 21, 0, 0, 0, 0, []),
  (18, .aload_n 0, 1, 0, 0, 0, 0, 0, []),
  (19, .getfield 16, 3, 8, 2, 1, 0, 0, []),
  (22, .iload_n 1, 1, 1, 0, 0, 0, 0, []),
  (23, .aload_n 0, 1, 0, 0, 0, 0, 0, []),
  (24, .getfield 16, 3, 8, 2, 1, 0, 0, []),
  (27, .iload_n 1, 1, 1, 0, 0, 0, 0, []),
  (28, .bipush 58, 2, 0, 0, 0, 58, 0, []),
  (30, .iadd, 1, 0, 0, 0, 0, 0, []),
  (31, .iaload, 1, 0, 0, 0, 0, 0, []),
  (32, .iastore, 1, 0, 0, 0, 0, 0, []),
  (33, .iinc 1 1, 3, 1, 0, 0, 1, 0, []),
  (36, .goto (-25), 3, 6, 0, 0, 0, 0, []),
  (39, .aload_n 0, 1, 0, 0, 0, 0, 0, []),
  (40, .dup, 1, 0, 0, 0, 0, 0, []),
  (41, .getfield 75, 3, 8, 3, 0, 0, 0, []),
  (44, .iconst 1, 1, 0, 0, 0, 1, 0, []),
  (45, .isub, 1, 0, 0, 0, 0, 0, []),
  (46, .putfield 75, 3, 8, 3, 0, 0, 0, []),
  (49, .iconst 0, 1, 0, 0, 0, 0, 0, []),
  (50, .istore_n 1, 1, 1, 0, 0, 0, 0, []),
  (51, .iload_n 1, 1, 1, 0, 0, 0, 0, []),
  (52, .bipush 58, 2, 0, 0, 0, 58, 0, []),
  (54, .if_icmp .ge 29, 3, 47, 0, 0, 0, 0, []),
  (57, .aload_n 0, 1, 0, 0, 0, 0, 0, []),
  (58, .getfield 16, 3, 8, 2, 1, 0, 0, []),
  (61, .bipush 58, 2, 0, 0, 0, 58, 0, []),
  (63, .aload_n 0, 1, 0, 0, 0, 0, 0, []),
  (64, .getfield 75, 3, 8, 3, 0, 0, 0, []),
  (67, .imul, 1, 0, 0, 0, 0, 0, []),
  (68, .iload_n 1, 1, 1, 0, 0, 0, 0, []),
  (69, .iadd, 1, 0, 0, 0, 0, 0, []),
  (70, .aload_n 0, 1, 0, 0, 0, 0, 0, []),
  (71, .getfield 7, 3, 8, 0, 1, 0, 0, []),
  (74, .iload_n 1, 1, 1, 0, 0, 0, 0, []),
  (75, .iaload, 1, 0, 0, 0, 0, 0, []),
  (76, .iastore, 1, 0, 0, 0, 0, 0, []),
  (77, .iinc 1 1, 3, 1, 0, 0, 1, 0, []),
  (80, .goto (-29), 3, 29, 0, 0, 0, 0, []),
  (83, .aload_n 0, 1, 0, 0, 0, 0, 0, []),
  (84, .dup, 1, 0, 0, 0, 0, 0, []),
  (85, .getfield 75, 3, 8, 3, 0, 0, 0, []),
  (88, .iconst 1, 1, 0, 0, 0, 1, 0, []),
  (89, .iadd, 1, 0, 0, 0, 0, 0, []),
  (90, .putfield 75, 3, 8, 3, 0, 0, 0, []),
  (93, .return_, 1, 0, 0, 0, 0, 0, [])]
def zp_46 : List (List Nat) := [[], [949], [], [], [], [], [], [], [], [], [948], [], [], [948], [], [], [], [], [], [], [], [], [], [949], [], [], [949], [], [], [], [], [], [], [948], [], [], [949], [], [], [], [], [946], [], [], [], [], [], [], [], [949], [], [], [949], []]
abbrev jX8_isOne : Nat := 47
def zd_47 : List zm_E := [(0, .iload_n 1, 1, 1, 0, 0, 0, 0, []),
  (1, .i2l, 1, 0, 0, 0, 0, 0, []),
  (2, .lconst 0, 1, 0, 0, 0, 0, 0, []),
  (3, .aload_n 0, 1, 0, 0, 0, 0, 0, []),
  (4, .getfield 7, 3, 8, 0, 1, 0, 0, []),
  (7, .iconst 0, 1, 0, 0, 0, 0, 0, []),
  (8, .iaload, 1, 0, 0, 0, 0, 0, []),
  (9, .iconst 1, 1, 0, 0, 0, 1, 0, []),
  (10, .isub, 1, 0, 0, 0, 0, 0, []),
  (11, .i2l, 1, 0, 0, 0, 0, 0, []),
  (12, .invokestatic 78, 3, 40, 3, 1, 0, 0, []),
  (15, .ireturn, 1, 1, 0, 0, 0, 0, [])]
def zp_47 : List (List Nat) := [[], [], [], [], [946], [], [], [], [], [], [1037, 1038, 70, 1039], []]
abbrev jX8_isPresent : Nat := 48
def zd_48 : List zm_E := [(0, .aload_n 0, 1, 0, 0, 0, 0, 0, []),
  (1, .getfield 7, 3, 8, 0, 1, 0, 0, []),
  (4, .iconst 1, 1, 0, 0, 0, 1, 0, []),
  (5, .iaload, 1, 0, 0, 0, 0, 0, []),
  (6, .iload_n 1, 1, 1, 0, 0, 0, 0, []),
  (7, .invokestatic 82, 3, 41, 2, 1, 0, 0, []),
  (10, .ifCond .ne 7, 3, 9, 0, 0, 0, 0, []),
  (13, .iconst 1, 1, 0, 0, 0, 1, 0, []),
  (14, .goto 4, 3, 10, 0, 0, 0, 0, []),
  (17, .iconst 0, 1, 0, 0, 0, 0, 0, []),
  (18, .ireturn, 1, 1, 0, 0, 0, 0, [])]
def zp_48 : List (List Nat) := [[], [946], [], [], [], [1068, 1069, 70, 1070], [], [], [], [], []]
abbrev jX8_rankOf : Nat := 49
def zd_49 : List zm_E := [(0, .aload_n 0, 1, 0, 0, 0, 0, 0, []),
  (1, .getfield 7, 3, 8, 0, 1, 0, 0, []),
  (4, .bipush 9, 2, 0, 0, 0, 9, 0, []),
  (6, .bipush 7, 2, 0, 0, 0, 7, 0, []),
  (8, .iload_n 1, 1, 1, 0, 0, 0, 0, []),
  (9, .imul, 1, 0, 0, 0, 0, 0, []),
  (10, .iadd, 1, 0, 0, 0, 0, 0, []),
  (11, .iload_n 2, 1, 2, 0, 0, 0, 0, []),
  (12, .iadd, 1, 0, 0, 0, 0, 0, []),
  (13, .iaload, 1, 0, 0, 0, 0, 0, []),
  (14, .ireturn, 1, 0, 0, 0, 0, 0, [])]
def zp_49 : List (List Nat) := [[], [946], [], [], [], [], [], [], [], [], []]
abbrev jX8_held : Nat := 50
def zd_50 : List zm_E := [(0, .aload_n 0, 1, 0, 0, 0, 0, 0, []),
  (1, .getfield 7, 3, 8, 0, 1, 0, 0, []),
  (4, .iconst 2, 1, 0, 0, 0, 2, 0, []),
  (5, .iload_n 1, 1, 1, 0, 0, 0, 0, []),
  (6, .iadd, 1, 0, 0, 0, 0, 0, []),
  (7, .iaload, 1, 0, 0, 0, 0, 0, []),
  (8, .ireturn, 1, 0, 0, 0, 0, 0, [])]
def zp_50 : List (List Nat) := [[], [946], [], [], [], [], []]
abbrev jX8_present : Nat := 51
def zd_51 : List zm_E := [(0, .aload_n 0, 1, 0, 0, 0, 0, 0, []),
  (1, .getfield 7, 3, 8, 0, 1, 0, 0, []),
  (4, .iconst 0, 1, 0, 0, 0, 0, 0, []),
  (5, .iaload, 1, 0, 0, 0, 0, 0, []),
  (6, .aload_n 0, 1, 0, 0, 0, 0, 0, []),
  (7, .getfield 7, 3, 8, 0, 1, 0, 0, []),
  (10, .iconst 1, 1, 0, 0, 0, 1, 0, []),
  (11, .iaload, 1, 0, 0, 0, 0, 0, []),
  (12, .invokestatic 86, 3, 42, 1, 1, 0, 0, []),
  (15, .isub, 1, 0, 0, 0, 0, 0, []),
  (16, .ireturn, 1, 0, 0, 0, 0, 0, [])]
def zp_51 : List (List Nat) := [[], [946], [], [], [], [946], [], [], [1079, 1080, 70, 1081], [], []]
abbrev jX8_allRanks : Nat := 52
def zd_52 : List zm_E := [(0, .iconst 0, 1, 0, 0, 0, 0, 0, []),
  (1, .istore_n 1, 1, 1, 0, 0, 0, 0, []),
  (2, .iconst 0, 1, 0, 0, 0, 0, 0, []),
  (3, .istore_n 2, 1, 2, 0, 0, 0, 0, []),
  (4, .iload_n 2, 1, 2, 0, 0, 0, 0, []),
  (5, .aload_n 0, 1, 0, 0, 0, 0, 0, []),
  (6, .getfield 7, 3, 8, 0, 1, 0, 0, []),
  (9, .iconst 0, 1, 0, 0, 0, 0, 0, []),
  (10, .iaload, 1, 0, 0, 0, 0, 0, []),
  (11, .if_icmp .ge 22, 3, 21, 0, 0, 0, 0, []),
  (14, .iload_n 1, 1, 1, 0, 0, 0, 0, []),
  (15, .aload_n 0, 1, 0, 0, 0, 0, 0, []),
  (16, .iload_n 2, 1, 2, 0, 0, 0, 0, []),
  (17, .aload_n 0, 1, 0, 0, 0, 0, 0, []),
  (18, .iload_n 2, 1, 2, 0, 0, 0, 0, []),
  (19, .invokevirtual 90, 3, 50, 1, 1, 0, 0, [8]),
  (22, .invokevirtual 93, 3, 49, 2, 1, 0, 0, [8]),
  (25, .iadd, 1, 0, 0, 0, 0, 0, []),
  (26, .istore_n 1, 1, 1, 0, 0, 0, 0, []),
  (27, .iinc 2 1, 3, 2, 0, 0, 1, 0, []),
  (30, .goto (-26), 3, 4, 0, 0, 0, 0, []),
  (33, .iload_n 1, 1, 1, 0, 0, 0, 0, []),
  (34, .ireturn, 1, 0, 0, 0, 0, 0, [])]
def zp_52 : List (List Nat) := [[], [], [], [], [], [], [946], [], [], [], [], [], [], [], [], [1098, 1100, 32, 70, 1101], [1102, 1104, 33, 70, 1105], [], [], [], [], [], []]
abbrev jX8_pointsAt : Nat := 53
def zd_53 : List zm_E := [(0, .iload_n 1, 1, 1, 0, 0, 0, 0, []),
  (1, .istore_n 3, 1, 3, 0, 0, 0, 0, []),
  (2, .aload_n 0, 1, 0, 0, 0, 0, 0, []),
  (3, .getfield 7, 3, 8, 0, 1, 0, 0, []),
  (6, .iconst 0, 1, 0, 0, 0, 0, 0, []),
  (7, .iaload, 1, 0, 0, 0, 0, 0, []),
  (8, .iconst 1, 1, 0, 0, 0, 1, 0, []),
  (9, .isub, 1, 0, 0, 0, 0, 0, []),
  (10, .istore 4, 2, 4, 0, 0, 0, 0, []),
  (12, .iload 4, 2, 4, 0, 0, 0, 0, []),
  (14, .ifCond .lt 111, 3, 66, 0, 0, 0, 0, []),
  (17, .iload_n 2, 1, 2, 0, 0, 0, 0, []),
  (18, .iload 4, 2, 4, 0, 0, 0, 0, []),
  (20, .invokestatic 82, 3, 41, 2, 1, 0, 0, []),
  (23, .ifCond .eq 31, 3, 30, 0, 0, 0, 0, []),
  (26, .aload_n 0, 1, 0, 0, 0, 0, 0, []),
  (27, .iload_n 1, 1, 1, 0, 0, 0, 0, []),
  (28, .aload_n 0, 1, 0, 0, 0, 0, 0, []),
  (29, .iload 4, 2, 4, 0, 0, 0, 0, []),
  (31, .invokevirtual 90, 3, 50, 1, 1, 0, 0, [8]),
  (34, .invokevirtual 93, 3, 49, 2, 1, 0, 0, [8]),
  (37, .aload_n 0, 1, 0, 0, 0, 0, 0, []),
  (38, .iload_n 1, 1, 1, 0, 0, 0, 0, []),
  (39, .aload_n 0, 1, 0, 0, 0, 0, 0, []),
  (40, .iload_n 3, 1, 3, 0, 0, 0, 0, []),
  (41, .invokevirtual 90, 3, 50, 1, 1, 0, 0, [8]),
  (44, .invokevirtual 93, 3, 49, 2, 1, 0, 0, [8]),
  (47, .if_icmp .ge 7, 3, 30, 0, 0, 0, 0, []),
  (50, .iconst 1, 1, 0, 0, 0, 1, 0, []),
  (51, .goto 4, 3, 31, 0, 0, 0, 0, []),
  (54, .iconst 0, 1, 0, 0, 0, 0, 0, []),
  (55, .istore 5, 2, 5, 0, 0, 0, 0, []),
  (57, .iload_n 2, 1, 2, 0, 0, 0, 0, []),
  (58, .iload 4, 2, 4, 0, 0, 0, 0, []),
  (60, .invokestatic 82, 3, 41, 2, 1, 0, 0, []),
  (63, .ifCond .eq 36, 3, 54, 0, 0, 0, 0, []),
  (66, .iload_n 3, 1, 3, 0, 0, 0, 0, []),
  (67, .iload_n 1, 1, 1, 0, 0, 0, 0, []),
  (68, .if_icmp .eq 31, 3, 54, 0, 0, 0, 0, []),
  (71, .aload_n 0, 1, 0, 0, 0, 0, 0, []),
  (72, .iload_n 1, 1, 1, 0, 0, 0, 0, []),
  (73, .aload_n 0, 1, 0, 0, 0, 0, 0, []),
  (74, .iload 4, 2, 4, 0, 0, 0, 0, []),
  (76, .invokevirtual 90, 3, 50, 1, 1, 0, 0, [8]),
  (79, .invokevirtual 93, 3, 49, 2, 1, 0, 0, [8]),
  (82, .aload_n 0, 1, 0, 0, 0, 0, 0, []),
  (83, .iload_n 1, 1, 1, 0, 0, 0, 0, []),
  (84, .aload_n 0, 1, 0, 0, 0, 0, 0, []),
  (85, .iload_n 3, 1, 3, 0, 0, 0, 0, []),
  (86, .invokevirtual 90, 3, 50, 1, 1, 0, 0, [8]),
  (89, .invokevirtual 93, 3, 49, 2, 1, 0, 0, [8]),
  (92, .if_icmp .ne 7, 3, 54, 0, 0, 0, 0, []),
  (95, .iconst 1, 1, 0, 0, 0, 1, 0, []),
  (96, .goto 4, 3, 55, 0, 0, 0, 0, []),
  (99, .iconst 0, 1, 0, 0, 0, 0, 0, []),
  (100, .istore 6, 2, 6, 0, 0, 0, 0, []),
  (102, .iload 5, 2, 5, 0, 0, 0, 0, []),
  (104, .ifCond .ne 8, 3, 60, 0, 0, 0, 0, []),
  (107, .iload 6, 2, 6, 0, 0, 0, 0, []),
  (109, .ifCond .eq 8, 3, 62, 0, 0, 0, 0, []),
  (112, .iload 4, 2, 4, 0, 0, 0, 0, []),
  (114, .goto 4, 3, 63, 0, 0, 0, 0, []),
  (117, .iload_n 3, 1, 3, 0, 0, 0, 0, []),
  (118, .istore_n 3, 1, 3, 0, 0, 0, 0, []),
  (119, .iinc 4 (-1), 3, 4, 0, 0, (-1), 0, []),
  (122, .goto (-110), 3, 9, 0, 0, 0, 0, []),
  (125, .iload_n 3, 1, 3, 0, 0, 0, 0, []),
  (126, .ireturn, 1, 0, 0, 0, 0, 0, [])]
def zp_53 : List (List Nat) := [[], [], [], [946], [], [], [], [], [], [], [], [], [], [1068, 1069, 70, 1070], [], [], [], [], [], [1098, 1100, 32, 70, 1101], [1102, 1104, 33, 70, 1105], [], [], [], [], [1098, 1100, 32, 70, 1101], [1102, 1104, 33, 70, 1105], [], [], [], [], [], [], [], [1068, 1069, 70, 1070], [], [], [], [], [], [], [], [], [1098, 1100, 32, 70, 1101], [1102, 1104, 33, 70, 1105], [], [], [], [], [1098, 1100, 32, 70, 1101], [1102, 1104, 33, 70, 1105], [], [], [], [], [], [], [], [], [], [], [], [], [], [], [], [], []]
abbrev jX8_ringWith : Nat := 54
def zd_54 : List zm_E := [(0, .iconst 0, 1, 0, 0, 0, 0, 0, []),
  (1, .istore_n 2, 1, 2, 0, 0, 0, 0, []),
  (2, .iload_n 1, 1, 1, 0, 0, 0, 0, []),
  (3, .istore_n 3, 1, 3, 0, 0, 0, 0, []),
  (4, .iconst 0, 1, 0, 0, 0, 0, 0, []),
  (5, .istore 4, 2, 4, 0, 0, 0, 0, []),
  (7, .iload 4, 2, 4, 0, 0, 0, 0, []),
  (9, .bipush 7, 2, 0, 0, 0, 7, 0, []),
  (11, .if_icmp .ge 30, 3, 26, 0, 0, 0, 0, []),
  (14, .iload_n 2, 1, 2, 0, 0, 0, 0, []),
  (15, .iload_n 3, 1, 3, 0, 0, 0, 0, []),
  (16, .invokestatic 82, 3, 41, 2, 1, 0, 0, []),
  (19, .ifCond .ne 22, 3, 26, 0, 0, 0, 0, []),
  (22, .iload_n 2, 1, 2, 0, 0, 0, 0, []),
  (23, .iconst 1, 1, 0, 0, 0, 1, 0, []),
  (24, .iload_n 3, 1, 3, 0, 0, 0, 0, []),
  (25, .ishl, 1, 0, 0, 0, 0, 0, []),
  (26, .ior, 1, 0, 0, 0, 0, 0, []),
  (27, .istore_n 2, 1, 2, 0, 0, 0, 0, []),
  (28, .aload_n 0, 1, 0, 0, 0, 0, 0, []),
  (29, .getfield 41, 3, 8, 13, 1, 0, 0, []),
  (32, .iload_n 3, 1, 3, 0, 0, 0, 0, []),
  (33, .iaload, 1, 0, 0, 0, 0, 0, []),
  (34, .istore_n 3, 1, 3, 0, 0, 0, 0, []),
  (35, .iinc 4 1, 3, 4, 0, 0, 1, 0, []),
  (38, .goto (-31), 3, 6, 0, 0, 0, 0, []),
  (41, .iload_n 3, 1, 3, 0, 0, 0, 0, []),
  (42, .iload_n 1, 1, 1, 0, 0, 0, 0, []),
  (43, .if_icmp .ne 7, 3, 31, 0, 0, 0, 0, []),
  (46, .iload_n 2, 1, 2, 0, 0, 0, 0, []),
  (47, .goto 4, 3, 32, 0, 0, 0, 0, []),
  (50, .iconst 0, 1, 0, 0, 0, 0, 0, []),
  (51, .ireturn, 1, 0, 0, 0, 0, 0, [])]
def zp_54 : List (List Nat) := [[], [], [], [], [], [], [], [], [], [], [], [1068, 1069, 70, 1070], [], [], [], [], [], [], [], [], [959], [], [], [], [], [], [], [], [], [], [], [], []]
abbrev jX8_findTrading : Nat := 55
def zd_55 : List zm_E := [(0, .iconst 0, 1, 0, 0, 0, 0, 0, []),
  (1, .istore_n 1, 1, 1, 0, 0, 0, 0, []),
  (2, .iconst 0, 1, 0, 0, 0, 0, 0, []),
  (3, .istore_n 2, 1, 2, 0, 0, 0, 0, []),
  (4, .iload_n 2, 1, 2, 0, 0, 0, 0, []),
  (5, .aload_n 0, 1, 0, 0, 0, 0, 0, []),
  (6, .getfield 7, 3, 8, 0, 1, 0, 0, []),
  (9, .iconst 0, 1, 0, 0, 0, 0, 0, []),
  (10, .iaload, 1, 0, 0, 0, 0, 0, []),
  (11, .if_icmp .ge 59, 3, 44, 0, 0, 0, 0, []),
  (14, .iload_n 1, 1, 1, 0, 0, 0, 0, []),
  (15, .aload_n 0, 1, 0, 0, 0, 0, 0, []),
  (16, .iload_n 2, 1, 2, 0, 0, 0, 0, []),
  (17, .invokevirtual 97, 3, 48, 1, 1, 0, 0, [8]),
  (20, .ifCond .eq 9, 3, 19, 0, 0, 0, 0, []),
  (23, .iconst 1, 1, 0, 0, 0, 1, 0, []),
  (24, .iload_n 2, 1, 2, 0, 0, 0, 0, []),
  (25, .ishl, 1, 0, 0, 0, 0, 0, []),
  (26, .goto 4, 3, 20, 0, 0, 0, 0, []),
  (29, .iconst 0, 1, 0, 0, 0, 0, 0, []),
  (30, .ior, 1, 0, 0, 0, 0, 0, []),
  (31, .istore_n 1, 1, 1, 0, 0, 0, 0, []),
  (32, .aload_n 0, 1, 0, 0, 0, 0, 0, []),
  (33, .getfield 29, 3, 8, 9, 1, 0, 0, []),
  (36, .iload_n 2, 1, 2, 0, 0, 0, 0, []),
  (37, .bipush (-9), 2, 0, 0, 0, (-9), 0, []),
  (39, .iastore, 1, 0, 0, 0, 0, 0, []),
  (40, .aload_n 0, 1, 0, 0, 0, 0, 0, []),
  (41, .getfield 32, 3, 8, 10, 1, 0, 0, []),
  (44, .iload_n 2, 1, 2, 0, 0, 0, 0, []),
  (45, .bipush (-9), 2, 0, 0, 0, (-9), 0, []),
  (47, .iastore, 1, 0, 0, 0, 0, 0, []),
  (48, .aload_n 0, 1, 0, 0, 0, 0, 0, []),
  (49, .getfield 35, 3, 8, 11, 1, 0, 0, []),
  (52, .iload_n 2, 1, 2, 0, 0, 0, 0, []),
  (53, .bipush (-9), 2, 0, 0, 0, (-9), 0, []),
  (55, .iastore, 1, 0, 0, 0, 0, 0, []),
  (56, .aload_n 0, 1, 0, 0, 0, 0, 0, []),
  (57, .getfield 38, 3, 8, 12, 1, 0, 0, []),
  (60, .iload_n 2, 1, 2, 0, 0, 0, 0, []),
  (61, .bipush (-9), 2, 0, 0, 0, (-9), 0, []),
  (63, .iastore, 1, 0, 0, 0, 0, 0, []),
  (64, .iinc 2 1, 3, 2, 0, 0, 1, 0, []),
  (67, .goto (-63), 3, 4, 0, 0, 0, 0, []),
  (70, .aload_n 0, 1, 0, 0, 0, 0, 0, []),
  (71, .iconst 0, 1, 0, 0, 0, 0, 0, []),
  (72, .putfield 101, 3, 8, 16, 0, 0, 0, []),
  (75, .aload_n 0, 1, 0, 0, 0, 0, 0, []),
  (76, .iconst 0, 1, 0, 0, 0, 0, 0, []),
  (77, .putfield 104, 3, 8, 17, 0, 0, 0, []),
  (80, .iload_n 1, 1, 1, 0, 0, 0, 0, []),
  (81, .ifCond .eq 197, 3, 163, 0, 0, 0, 0, []),
  (84, .iconst 0, 1, 0, 0, 0, 0, 0, []),
  (85, .istore_n 2, 1, 2, 0, 0, 0, 0, []),
  (86, .iload_n 2, 1, 2, 0, 0, 0, 0, []),
  (87, .aload_n 0, 1, 0, 0, 0, 0, 0, []),
  (88, .getfield 7, 3, 8, 0, 1, 0, 0, []),
  (91, .iconst 0, 1, 0, 0, 0, 0, 0, []),
  (92, .iaload, 1, 0, 0, 0, 0, 0, []),
  (93, .if_icmp .ge 69, 3, 96, 0, 0, 0, 0, []),
  (96, .aload_n 0, 1, 0, 0, 0, 0, 0, []),
  (97, .getfield 41, 3, 8, 13, 1, 0, 0, []),
  (100, .iload_n 2, 1, 2, 0, 0, 0, 0, []),
  (101, .iload_n 1, 1, 1, 0, 0, 0, 0, []),
  (102, .iload_n 2, 1, 2, 0, 0, 0, 0, []),
  (103, .invokestatic 82, 3, 41, 2, 1, 0, 0, []),
  (106, .ifCond .eq 12, 3, 72, 0, 0, 0, 0, []),
  (109, .aload_n 0, 1, 0, 0, 0, 0, 0, []),
  (110, .iload_n 2, 1, 2, 0, 0, 0, 0, []),
  (111, .iload_n 1, 1, 1, 0, 0, 0, 0, []),
  (112, .invokevirtual 107, 3, 53, 2, 1, 0, 0, [8]),
  (115, .goto 4, 3, 73, 0, 0, 0, 0, []),
  (118, .iload_n 2, 1, 2, 0, 0, 0, 0, []),
  (119, .iastore, 1, 0, 0, 0, 0, 0, []),
  (120, .aload_n 0, 1, 0, 0, 0, 0, 0, []),
  (121, .getfield 38, 3, 8, 12, 1, 0, 0, []),
  (124, .iload_n 2, 1, 2, 0, 0, 0, 0, []),
  (125, .aload_n 0, 1, 0, 0, 0, 0, 0, []),
  (126, .getfield 104, 3, 8, 17, 0, 0, 0, []),
  (129, .ifCond .ne 20, 3, 89, 0, 0, 0, 0, []),
  (132, .iload_n 1, 1, 1, 0, 0, 0, 0, []),
  (133, .iload_n 2, 1, 2, 0, 0, 0, 0, []),
  (134, .invokestatic 82, 3, 41, 2, 1, 0, 0, []),
  (137, .ifCond .eq 12, 3, 89, 0, 0, 0, 0, []),
  (140, .aload_n 0, 1, 0, 0, 0, 0, 0, []),
  (141, .getfield 41, 3, 8, 13, 1, 0, 0, []),
  (144, .iload_n 2, 1, 2, 0, 0, 0, 0, []),
  (145, .iaload, 1, 0, 0, 0, 0, 0, []),
  (146, .goto 9, 3, 93, 0, 0, 0, 0, []),
  (149, .aload_n 0, 1, 0, 0, 0, 0, 0, []),
  (150, .getfield 38, 3, 8, 12, 1, 0, 0, []),
  (153, .iload_n 2, 1, 2, 0, 0, 0, 0, []),
  (154, .iaload, 1, 0, 0, 0, 0, 0, []),
  (155, .iastore, 1, 0, 0, 0, 0, 0, []),
  (156, .iinc 2 1, 3, 2, 0, 0, 1, 0, []),
  (159, .goto (-73), 3, 54, 0, 0, 0, 0, []),
  (162, .iconst 0, 1, 0, 0, 0, 0, 0, []),
  (163, .istore_n 2, 1, 2, 0, 0, 0, 0, []),
  (164, .iconst 0, 1, 0, 0, 0, 0, 0, []),
  (165, .istore_n 3, 1, 3, 0, 0, 0, 0, []),
  (166, .iload_n 3, 1, 3, 0, 0, 0, 0, []),
  (167, .aload_n 0, 1, 0, 0, 0, 0, 0, []),
  (168, .getfield 7, 3, 8, 0, 1, 0, 0, []),
  (171, .iconst 0, 1, 0, 0, 0, 0, 0, []),
  (172, .iaload, 1, 0, 0, 0, 0, 0, []),
  (173, .if_icmp .ge 86, 3, 150, 0, 0, 0, 0, []),
  (176, .iload_n 1, 1, 1, 0, 0, 0, 0, []),
  (177, .iload_n 3, 1, 3, 0, 0, 0, 0, []),
  (178, .invokestatic 82, 3, 41, 2, 1, 0, 0, []),
  (181, .ifCond .eq 19, 3, 118, 0, 0, 0, 0, []),
  (184, .iload_n 2, 1, 2, 0, 0, 0, 0, []),
  (185, .iload_n 3, 1, 3, 0, 0, 0, 0, []),
  (186, .invokestatic 82, 3, 41, 2, 1, 0, 0, []),
  (189, .ifCond .ne 11, 3, 118, 0, 0, 0, 0, []),
  (192, .aload_n 0, 1, 0, 0, 0, 0, 0, []),
  (193, .iload_n 3, 1, 3, 0, 0, 0, 0, []),
  (194, .invokevirtual 110, 3, 54, 1, 1, 0, 0, [8]),
  (197, .goto 4, 3, 119, 0, 0, 0, 0, []),
  (200, .iconst 0, 1, 0, 0, 0, 0, 0, []),
  (201, .istore 4, 2, 4, 0, 0, 0, 0, []),
  (203, .iload 4, 2, 4, 0, 0, 0, 0, []),
  (205, .ifCond .eq 48, 3, 148, 0, 0, 0, 0, []),
  (208, .aload_n 0, 1, 0, 0, 0, 0, 0, []),
  (209, .getfield 44, 3, 8, 14, 1, 0, 0, []),
  (212, .aload_n 0, 1, 0, 0, 0, 0, 0, []),
  (213, .getfield 101, 3, 8, 16, 0, 0, 0, []),
  (216, .iload 4, 2, 4, 0, 0, 0, 0, []),
  (218, .iastore, 1, 0, 0, 0, 0, 0, []),
  (219, .aload_n 0, 1, 0, 0, 0, 0, 0, []),
  (220, .getfield 47, 3, 8, 15, 1, 0, 0, []),
  (223, .aload_n 0, 1, 0, 0, 0, 0, 0, []),
  (224, .getfield 101, 3, 8, 16, 0, 0, 0, []),
  (227, .aload_n 0, 1, 0, 0, 0, 0, 0, []),
  (228, .getfield 104, 3, 8, 17, 0, 0, 0, []),
  (231, .iastore, 1, 0, 0, 0, 0, 0, []),
  (232, .aload_n 0, 1, 0, 0, 0, 0, 0, []),
  (233, .iload 4, 2, 4, 0, 0, 0, 0, []),
  (235, .invokevirtual 113, 3, 56, 1, 0, 0, 0, [8]),
  (238, .iload_n 2, 1, 2, 0, 0, 0, 0, []),
  (239, .iload 4, 2, 4, 0, 0, 0, 0, []),
  (241, .ior, 1, 0, 0, 0, 0, 0, []),
  (242, .istore_n 2, 1, 2, 0, 0, 0, 0, []),
  (243, .aload_n 0, 1, 0, 0, 0, 0, 0, []),
  (244, .dup, 1, 0, 0, 0, 0, 0, []),
  (245, .getfield 101, 3, 8, 16, 0, 0, 0, []),
  (248, .iconst 1, 1, 0, 0, 0, 1, 0, []),
  (249, .iadd, 1, 0, 0, 0, 0, 0, []),
  (250, .putfield 101, 3, 8, 16, 0, 0, 0, []),
  (253, .iinc 3 1, 3, 3, 0, 0, 1, 0, []),
  (256, .goto (-90), 3, 100, 0, 0, 0, 0, []),
  (259, .iload_n 1, 1, 1, 0, 0, 0, 0, []),
  (260, .iload_n 2, 1, 2, 0, 0, 0, 0, []),
  (261, .iconst (-1), 1, 0, 0, 0, (-1), 0, []),
  (262, .ixor, 1, 0, 0, 0, 0, 0, []),
  (263, .iand, 1, 0, 0, 0, 0, 0, []),
  (264, .istore_n 1, 1, 1, 0, 0, 0, 0, []),
  (265, .aload_n 0, 1, 0, 0, 0, 0, 0, []),
  (266, .dup, 1, 0, 0, 0, 0, 0, []),
  (267, .getfield 104, 3, 8, 17, 0, 0, 0, []),
  (270, .iconst 1, 1, 0, 0, 0, 1, 0, []),
  (271, .iadd, 1, 0, 0, 0, 0, 0, []),
  (272, .putfield 104, 3, 8, 17, 0, 0, 0, []),
  (275, .goto (-195), 3, 50, 0, 0, 0, 0, []),
  (278, .return_, 1, 0, 0, 0, 0, 0, [])]
def zp_55 : List (List Nat) := [[], [], [], [], [], [], [946], [], [], [], [], [], [], [1090, 1092, 30, 70, 1093], [], [], [], [], [], [], [], [], [], [955], [], [], [], [], [956], [], [], [], [], [957], [], [], [], [], [958], [], [], [], [], [], [], [], [962], [], [], [963], [], [], [], [], [], [], [946], [], [], [], [], [959], [], [], [], [1068, 1069, 70, 1070], [], [], [], [], [1094, 1096, 31, 70, 1097], [], [], [], [], [958], [], [], [963], [], [], [], [1068, 1069, 70, 1070], [], [], [959], [], [], [], [], [958], [], [], [], [], [], [], [], [], [], [], [], [946], [], [], [], [], [], [1068, 1069, 70, 1070], [], [], [], [1068, 1069, 70, 1070], [], [], [], [1106, 1108, 34, 70, 1109], [], [], [], [], [], [], [960], [], [962], [], [], [], [961], [], [962], [], [963], [], [], [], [1110, 1112, 35, 70, 1113], [], [], [], [], [], [], [962], [], [], [962], [], [], [], [], [], [], [], [], [], [], [963], [], [], [963], [], []]
abbrev jX8_finish : Nat := 56
def zd_56 : List zm_E := [(0, .iconst 0, 1, 0, 0, 0, 0, 0, []),
  (1, .istore_n 2, 1, 2, 0, 0, 0, 0, []),
  (2, .iload_n 2, 1, 2, 0, 0, 0, 0, []),
  (3, .aload_n 0, 1, 0, 0, 0, 0, 0, []),
  (4, .getfield 7, 3, 8, 0, 1, 0, 0, []),
  (7, .iconst 0, 1, 0, 0, 0, 0, 0, []),
  (8, .iaload, 1, 0, 0, 0, 0, 0, []),
  (9, .if_icmp .ge 53, 3, 36, 0, 0, 0, 0, []),
  (12, .iload_n 1, 1, 1, 0, 0, 0, 0, []),
  (13, .iload_n 2, 1, 2, 0, 0, 0, 0, []),
  (14, .invokestatic 82, 3, 41, 2, 1, 0, 0, []),
  (17, .ifCond .eq 39, 3, 34, 0, 0, 0, 0, []),
  (20, .aload_n 0, 1, 0, 0, 0, 0, 0, []),
  (21, .getfield 29, 3, 8, 9, 1, 0, 0, []),
  (24, .iload_n 2, 1, 2, 0, 0, 0, 0, []),
  (25, .aload_n 0, 1, 0, 0, 0, 0, 0, []),
  (26, .aload_n 0, 1, 0, 0, 0, 0, 0, []),
  (27, .getfield 41, 3, 8, 13, 1, 0, 0, []),
  (30, .iload_n 2, 1, 2, 0, 0, 0, 0, []),
  (31, .iaload, 1, 0, 0, 0, 0, 0, []),
  (32, .invokevirtual 90, 3, 50, 1, 1, 0, 0, [8]),
  (35, .iastore, 1, 0, 0, 0, 0, 0, []),
  (36, .aload_n 0, 1, 0, 0, 0, 0, 0, []),
  (37, .getfield 32, 3, 8, 10, 1, 0, 0, []),
  (40, .iload_n 2, 1, 2, 0, 0, 0, 0, []),
  (41, .aload_n 0, 1, 0, 0, 0, 0, 0, []),
  (42, .getfield 104, 3, 8, 17, 0, 0, 0, []),
  (45, .iastore, 1, 0, 0, 0, 0, 0, []),
  (46, .aload_n 0, 1, 0, 0, 0, 0, 0, []),
  (47, .getfield 35, 3, 8, 11, 1, 0, 0, []),
  (50, .iload_n 2, 1, 2, 0, 0, 0, 0, []),
  (51, .aload_n 0, 1, 0, 0, 0, 0, 0, []),
  (52, .getfield 101, 3, 8, 16, 0, 0, 0, []),
  (55, .iastore, 1, 0, 0, 0, 0, 0, []),
  (56, .iinc 2 1, 3, 2, 0, 0, 1, 0, []),
  (59, .goto (-57), 3, 2, 0, 0, 0, 0, []),
  (62, .return_, 1, 0, 0, 0, 0, 0, [])]
def zp_56 : List (List Nat) := [[], [], [], [], [946], [], [], [], [], [], [1068, 1069, 70, 1070], [], [], [955], [], [], [], [959], [], [], [1098, 1100, 32, 70, 1101], [], [], [956], [], [], [963], [], [], [957], [], [], [962], [], [], [], []]
abbrev jX8_append : Nat := 57
def zd_57 : List zm_E := [(0, .aload_n 0, 1, 0, 0, 0, 0, 0, []),
  (1, .iconst 0, 1, 0, 0, 0, 0, 0, []),
  (2, .putfield 71, 3, 8, 8, 0, 0, 0, []),
  (5, .iload_n 1, 1, 1, 0, 0, 0, 0, []),
  (6, .i2l, 1, 0, 0, 0, 0, 0, []),
  (7, .lconst 0, 1, 0, 0, 0, 0, 0, []),
  (8, .ldc2_w 117, 3, 0, 0, 0, 0, 255, []),
  (11, .invokestatic 78, 3, 40, 3, 1, 0, 0, []),
  (14, .ifCond .ne 9, 3, 13, 0, 0, 0, 0, []),
  (17, .aload_n 0, 1, 0, 0, 0, 0, 0, []),
  (18, .iconst 1, 1, 0, 0, 0, 1, 0, []),
  (19, .invokevirtual 119, 3, 43, 1, 1, 0, 0, [8]),
  (22, .ireturn, 1, 0, 0, 0, 0, 0, []),
  (23, .aload_n 0, 1, 0, 0, 0, 0, 0, []),
  (24, .getfield 122, 3, 8, 7, 0, 0, 0, []),
  (27, .bipush 70, 2, 0, 0, 0, 70, 0, []),
  (29, .if_icmp .ne 9, 3, 21, 0, 0, 0, 0, []),
  (32, .aload_n 0, 1, 0, 0, 0, 0, 0, []),
  (33, .iconst 2, 1, 0, 0, 0, 2, 0, []),
  (34, .invokevirtual 119, 3, 43, 1, 1, 0, 0, [8]),
  (37, .ireturn, 1, 0, 0, 0, 0, 0, []),
  (38, .aload_n 0, 1, 0, 0, 0, 0, 0, []),
  (39, .getfield 26, 3, 8, 6, 1, 0, 0, []),
  (42, .aload_n 0, 1, 0, 0, 0, 0, 0, []),
  (43, .getfield 122, 3, 8, 7, 0, 0, 0, []),
  (46, .iload_n 1, 1, 1, 0, 0, 0, 0, []),
  (47, .iastore, 1, 0, 0, 0, 0, 0, []),
  (48, .aload_n 0, 1, 0, 0, 0, 0, 0, []),
  (49, .dup, 1, 0, 0, 0, 0, 0, []),
  (50, .getfield 122, 3, 8, 7, 0, 0, 0, []),
  (53, .iconst 1, 1, 0, 0, 0, 1, 0, []),
  (54, .iadd, 1, 0, 0, 0, 0, 0, []),
  (55, .putfield 122, 3, 8, 7, 0, 0, 0, []),
  (58, .aload_n 0, 1, 0, 0, 0, 0, 0, []),
  (59, .getfield 122, 3, 8, 7, 0, 0, 0, []),
  (62, .ireturn, 1, 0, 0, 0, 0, 0, [])]
def zp_57 : List (List Nat) := [[], [], [954], [], [], [], [1036], [1037, 1038, 70, 1039], [], [], [], [1040, 1042, 23, 70, 1043], [], [], [953], [], [], [], [], [1040, 1042, 23, 70, 1043], [], [], [952], [], [953], [], [], [], [], [953], [], [], [953], [], [953], []]
abbrev jX8_clearText : Nat := 58
def zd_58 : List zm_E := [(0, .aload_n 0, 1, 0, 0, 0, 0, 0, []),
  (1, .iconst 0, 1, 0, 0, 0, 0, 0, []),
  (2, .putfield 71, 3, 8, 8, 0, 0, 0, []),
  (5, .aload_n 0, 1, 0, 0, 0, 0, 0, []),
  (6, .getfield 122, 3, 8, 7, 0, 0, 0, []),
  (9, .istore_n 1, 1, 1, 0, 0, 0, 0, []),
  (10, .aload_n 0, 1, 0, 0, 0, 0, 0, []),
  (11, .iconst 0, 1, 0, 0, 0, 0, 0, []),
  (12, .putfield 122, 3, 8, 7, 0, 0, 0, []),
  (15, .iload_n 1, 1, 1, 0, 0, 0, 0, []),
  (16, .ireturn, 1, 0, 0, 0, 0, 0, [])]
def zp_58 : List (List Nat) := [[], [], [954], [], [953], [], [], [], [953], [], []]
abbrev jX8_sign : Nat := 59
def zd_59 : List zm_E := [(0, .aload_n 0, 1, 0, 0, 0, 0, 0, []),
  (1, .getfield 125, 3, 8, 18, 0, 0, 0, []),
  (4, .aload_n 0, 1, 0, 0, 0, 0, 0, []),
  (5, .getfield 122, 3, 8, 7, 0, 0, 0, []),
  (8, .if_icmp .ge 20, 3, 14, 0, 0, 0, 0, []),
  (11, .aload_n 0, 1, 0, 0, 0, 0, 0, []),
  (12, .getfield 26, 3, 8, 6, 1, 0, 0, []),
  (15, .aload_n 0, 1, 0, 0, 0, 0, 0, []),
  (16, .getfield 125, 3, 8, 18, 0, 0, 0, []),
  (19, .iaload, 1, 0, 0, 0, 0, 0, []),
  (20, .iload_n 1, 1, 1, 0, 0, 0, 0, []),
  (21, .if_icmp .ne 7, 3, 14, 0, 0, 0, 0, []),
  (24, .iconst 1, 1, 0, 0, 0, 1, 0, []),
  (25, .goto 4, 3, 15, 0, 0, 0, 0, []),
  (28, .iconst 0, 1, 0, 0, 0, 0, 0, []),
  (29, .istore_n 2, 1, 2, 0, 0, 0, 0, []),
  (30, .aload_n 0, 1, 0, 0, 0, 0, 0, []),
  (31, .dup, 1, 0, 0, 0, 0, 0, []),
  (32, .getfield 125, 3, 8, 18, 0, 0, 0, []),
  (35, .iload_n 2, 1, 2, 0, 0, 0, 0, []),
  (36, .ifCond .eq 7, 3, 23, 0, 0, 0, 0, []),
  (39, .iconst 1, 1, 0, 0, 0, 1, 0, []),
  (40, .goto 4, 3, 24, 0, 0, 0, 0, []),
  (43, .iconst 0, 1, 0, 0, 0, 0, 0, []),
  (44, .iadd, 1, 0, 0, 0, 0, 0, []),
  (45, .putfield 125, 3, 8, 18, 0, 0, 0, []),
  (48, .iload_n 2, 1, 2, 0, 0, 0, 0, []),
  (49, .ireturn, 1, 1, 0, 0, 0, 0, [])]
def zp_59 : List (List Nat) := [[], [964], [], [953], [], [], [952], [], [964], [], [], [], [], [], [], [], [], [], [964], [], [], [], [], [], [], [964], [], []]
abbrev jX8_digitTo : Nat := 60
def zd_60 : List zm_E := [(0, .aload_n 0, 1, 0, 0, 0, 0, 0, []),
  (1, .aload_n 0, 1, 0, 0, 0, 0, 0, []),
  (2, .getfield 125, 3, 8, 18, 0, 0, 0, []),
  (5, .aload_n 0, 1, 0, 0, 0, 0, 0, []),
  (6, .getfield 122, 3, 8, 7, 0, 0, 0, []),
  (9, .if_icmp .ge 18, 3, 14, 0, 0, 0, 0, []),
  (12, .aload_n 0, 1, 0, 0, 0, 0, 0, []),
  (13, .getfield 26, 3, 8, 6, 1, 0, 0, []),
  (16, .aload_n 0, 1, 0, 0, 0, 0, 0, []),
  (17, .getfield 125, 3, 8, 18, 0, 0, 0, []),
  (20, .iaload, 1, 0, 0, 0, 0, 0, []),
  (21, .bipush 48, 2, 0, 0, 0, 48, 0, []),
  (23, .isub, 1, 0, 0, 0, 0, 0, []),
  (24, .goto 4, 3, 15, 0, 0, 0, 0, []),
  (27, .iconst (-1), 1, 0, 0, 0, (-1), 0, []),
  (28, .putfield 128, 3, 8, 19, 0, 0, 0, []),
  (31, .aload_n 0, 1, 0, 0, 0, 0, 0, []),
  (32, .getfield 128, 3, 8, 19, 0, 0, 0, []),
  (35, .i2l, 1, 0, 0, 0, 0, 0, []),
  (36, .iload_n 1, 1, 1, 0, 0, 0, 0, []),
  (37, .i2l, 1, 0, 0, 0, 0, 0, []),
  (38, .iload_n 2, 1, 2, 0, 0, 0, 0, []),
  (39, .i2l, 1, 0, 0, 0, 0, 0, []),
  (40, .invokestatic 78, 3, 40, 3, 1, 0, 0, []),
  (43, .istore_n 3, 1, 3, 0, 0, 0, 0, []),
  (44, .aload_n 0, 1, 0, 0, 0, 0, 0, []),
  (45, .dup, 1, 0, 0, 0, 0, 0, []),
  (46, .getfield 125, 3, 8, 18, 0, 0, 0, []),
  (49, .iload_n 3, 1, 3, 0, 0, 0, 0, []),
  (50, .ifCond .eq 7, 3, 32, 0, 0, 0, 0, []),
  (53, .iconst 1, 1, 0, 0, 0, 1, 0, []),
  (54, .goto 4, 3, 33, 0, 0, 0, 0, []),
  (57, .iconst 0, 1, 0, 0, 0, 0, 0, []),
  (58, .iadd, 1, 0, 0, 0, 0, 0, []),
  (59, .putfield 125, 3, 8, 18, 0, 0, 0, []),
  (62, .iload_n 3, 1, 3, 0, 0, 0, 0, []),
  (63, .ireturn, 1, 1, 0, 0, 0, 0, [])]
def zp_60 : List (List Nat) := [[], [], [964], [], [953], [], [], [952], [], [964], [], [], [], [], [], [965], [], [965], [], [], [], [], [], [1037, 1038, 70, 1039], [], [], [], [964], [], [], [], [], [], [], [964], [], []]
abbrev jX8_readHolders : Nat := 61
def zd_61 : List zm_E := [(0, .iconst 0, 1, 0, 0, 0, 0, 0, []),
  (1, .istore_n 2, 1, 2, 0, 0, 0, 0, []),
  (2, .iconst 0, 1, 0, 0, 0, 0, 0, []),
  (3, .istore_n 3, 1, 3, 0, 0, 0, 0, []),
  (4, .iload_n 3, 1, 3, 0, 0, 0, 0, []),
  (5, .iload_n 1, 1, 1, 0, 0, 0, 0, []),
  (6, .if_icmp .ge 91, 3, 60, 0, 0, 0, 0, []),
  (9, .aload_n 0, 1, 0, 0, 0, 0, 0, []),
  (10, .getfield 125, 3, 8, 18, 0, 0, 0, []),
  (13, .istore 4, 2, 4, 0, 0, 0, 0, []),
  (15, .aload_n 0, 1, 0, 0, 0, 0, 0, []),
  (16, .iconst 0, 1, 0, 0, 0, 0, 0, []),
  (17, .iload_n 1, 1, 1, 0, 0, 0, 0, []),
  (18, .iconst 1, 1, 0, 0, 0, 1, 0, []),
  (19, .isub, 1, 0, 0, 0, 0, 0, []),
  (20, .invokevirtual 131, 3, 60, 2, 1, 0, 0, [8]),
  (23, .ifCond .eq 14, 3, 22, 0, 0, 0, 0, []),
  (26, .iload_n 2, 1, 2, 0, 0, 0, 0, []),
  (27, .aload_n 0, 1, 0, 0, 0, 0, 0, []),
  (28, .getfield 128, 3, 8, 19, 0, 0, 0, []),
  (31, .invokestatic 82, 3, 41, 2, 1, 0, 0, []),
  (34, .ifCond .eq 11, 3, 27, 0, 0, 0, 0, []),
  (37, .aload_n 0, 1, 0, 0, 0, 0, 0, []),
  (38, .iload 4, 2, 4, 0, 0, 0, 0, []),
  (40, .putfield 125, 3, 8, 18, 0, 0, 0, []),
  (43, .iconst 0, 1, 0, 0, 0, 0, 0, []),
  (44, .ireturn, 1, 1, 0, 0, 0, 0, []),
  (45, .iload_n 2, 1, 2, 0, 0, 0, 0, []),
  (46, .iconst 1, 1, 0, 0, 0, 1, 0, []),
  (47, .aload_n 0, 1, 0, 0, 0, 0, 0, []),
  (48, .getfield 128, 3, 8, 19, 0, 0, 0, []),
  (51, .ishl, 1, 0, 0, 0, 0, 0, []),
  (52, .ior, 1, 0, 0, 0, 0, 0, []),
  (53, .istore_n 2, 1, 2, 0, 0, 0, 0, []),
  (54, .aload_n 0, 1, 0, 0, 0, 0, 0, []),
  (55, .getfield 50, 3, 8, 20, 1, 0, 0, []),
  (58, .iconst 2, 1, 0, 0, 0, 2, 0, []),
  (59, .iload_n 3, 1, 3, 0, 0, 0, 0, []),
  (60, .iadd, 1, 0, 0, 0, 0, 0, []),
  (61, .aload_n 0, 1, 0, 0, 0, 0, 0, []),
  (62, .getfield 128, 3, 8, 19, 0, 0, 0, []),
  (65, .iastore, 1, 0, 0, 0, 0, 0, []),
  (66, .aload_n 0, 1, 0, 0, 0, 0, 0, []),
  (67, .getfield 50, 3, 8, 20, 1, 0, 0, []),
  (70, .iconst 1, 1, 0, 0, 0, 1, 0, []),
  (71, .dup2, 1, 0, 0, 0, 0, 0, []),
  (72, .iaload, 1, 0, 0, 0, 0, 0, []),
  (73, .aload_n 0, 1, 0, 0, 0, 0, 0, []),
  (74, .bipush 33, 2, 0, 0, 0, 33, 0, []),
  (76, .invokevirtual 134, 3, 59, 1, 1, 0, 0, [8]),
  (79, .ifCond .eq 9, 3, 55, 0, 0, 0, 0, []),
  (82, .iconst 1, 1, 0, 0, 0, 1, 0, []),
  (83, .iload_n 3, 1, 3, 0, 0, 0, 0, []),
  (84, .ishl, 1, 0, 0, 0, 0, 0, []),
  (85, .goto 4, 3, 56, 0, 0, 0, 0, []),
  (88, .iconst 0, 1, 0, 0, 0, 0, 0, []),
  (89, .ior, 1, 0, 0, 0, 0, 0, []),
  (90, .iastore, 1, 0, 0, 0, 0, 0, []),
  (91, .iinc 3 1, 3, 3, 0, 0, 1, 0, []),
  (94, .goto (-90), 3, 4, 0, 0, 0, 0, []),
  (97, .iconst 1, 1, 0, 0, 0, 1, 0, []),
  (98, .ireturn, 1, 1, 0, 0, 0, 0, [])]
def zp_61 : List (List Nat) := [[], [], [], [], [], [], [], [], [964], [], [], [], [], [], [], [1060, 1062, 26, 70, 1063], [], [], [], [965], [1068, 1069, 70, 1070], [], [], [], [964], [], [], [], [], [], [965], [], [], [], [], [966], [], [], [], [], [965], [], [], [966], [], [], [], [], [], [1056, 1058, 25, 70, 1059], [], [], [], [], [], [], [], [], [], [], [], []]
abbrev jX8_readMarket : Nat := 62
def zd_62 : List zm_E := [(0, .aload_n 0, 1, 0, 0, 0, 0, 0, []),
  (1, .iconst 0, 1, 0, 0, 0, 0, 0, []),
  (2, .putfield 125, 3, 8, 18, 0, 0, 0, []),
  (5, .aload_n 0, 1, 0, 0, 0, 0, 0, []),
  (6, .getfield 50, 3, 8, 20, 1, 0, 0, []),
  (9, .iconst 1, 1, 0, 0, 0, 1, 0, []),
  (10, .iconst 0, 1, 0, 0, 0, 0, 0, []),
  (11, .iastore, 1, 0, 0, 0, 0, 0, []),
  (12, .aload_n 0, 1, 0, 0, 0, 0, 0, []),
  (13, .bipush 77, 2, 0, 0, 0, 77, 0, []),
  (15, .invokevirtual 134, 3, 59, 1, 1, 0, 0, [8]),
  (18, .ifCond .eq 13, 3, 17, 0, 0, 0, 0, []),
  (21, .aload_n 0, 1, 0, 0, 0, 0, 0, []),
  (22, .iconst 1, 1, 0, 0, 0, 1, 0, []),
  (23, .bipush 7, 2, 0, 0, 0, 7, 0, []),
  (25, .invokevirtual 131, 3, 60, 2, 1, 0, 0, [8]),
  (28, .ifCond .ne 5, 3, 19, 0, 0, 0, 0, []),
  (31, .iconst 0, 1, 0, 0, 0, 0, 0, []),
  (32, .ireturn, 1, 1, 0, 0, 0, 0, []),
  (33, .aload_n 0, 1, 0, 0, 0, 0, 0, []),
  (34, .getfield 128, 3, 8, 19, 0, 0, 0, []),
  (37, .istore_n 1, 1, 1, 0, 0, 0, 0, []),
  (38, .aload_n 0, 1, 0, 0, 0, 0, 0, []),
  (39, .getfield 50, 3, 8, 20, 1, 0, 0, []),
  (42, .iconst 0, 1, 0, 0, 0, 0, 0, []),
  (43, .iload_n 1, 1, 1, 0, 0, 0, 0, []),
  (44, .iastore, 1, 0, 0, 0, 0, 0, []),
  (45, .iconst 0, 1, 0, 0, 0, 0, 0, []),
  (46, .istore_n 2, 1, 2, 0, 0, 0, 0, []),
  (47, .iload_n 2, 1, 2, 0, 0, 0, 0, []),
  (48, .iload_n 1, 1, 1, 0, 0, 0, 0, []),
  (49, .iload_n 1, 1, 1, 0, 0, 0, 0, []),
  (50, .imul, 1, 0, 0, 0, 0, 0, []),
  (51, .if_icmp .ge 43, 3, 59, 0, 0, 0, 0, []),
  (54, .aload_n 0, 1, 0, 0, 0, 0, 0, []),
  (55, .iconst 0, 1, 0, 0, 0, 0, 0, []),
  (56, .bipush 9, 2, 0, 0, 0, 9, 0, []),
  (58, .invokevirtual 131, 3, 60, 2, 1, 0, 0, [8]),
  (61, .ifCond .ne 5, 3, 41, 0, 0, 0, 0, []),
  (64, .iconst 0, 1, 0, 0, 0, 0, 0, []),
  (65, .ireturn, 1, 1, 0, 0, 0, 0, []),
  (66, .aload_n 0, 1, 0, 0, 0, 0, 0, []),
  (67, .getfield 50, 3, 8, 20, 1, 0, 0, []),
  (70, .bipush 9, 2, 0, 0, 0, 9, 0, []),
  (72, .bipush 7, 2, 0, 0, 0, 7, 0, []),
  (74, .iload_n 2, 1, 2, 0, 0, 0, 0, []),
  (75, .iload_n 1, 1, 1, 0, 0, 0, 0, []),
  (76, .idiv, 1, 0, 0, 0, 0, 0, []),
  (77, .imul, 1, 0, 0, 0, 0, 0, []),
  (78, .iadd, 1, 0, 0, 0, 0, 0, []),
  (79, .iload_n 2, 1, 2, 0, 0, 0, 0, []),
  (80, .iload_n 1, 1, 1, 0, 0, 0, 0, []),
  (81, .irem, 1, 0, 0, 0, 0, 0, []),
  (82, .iadd, 1, 0, 0, 0, 0, 0, []),
  (83, .aload_n 0, 1, 0, 0, 0, 0, 0, []),
  (84, .getfield 128, 3, 8, 19, 0, 0, 0, []),
  (87, .iastore, 1, 0, 0, 0, 0, 0, []),
  (88, .iinc 2 1, 3, 2, 0, 0, 1, 0, []),
  (91, .goto (-44), 3, 29, 0, 0, 0, 0, []),
  (94, .iconst 0, 1, 0, 0, 0, 0, 0, []),
  (95, .istore_n 2, 1, 2, 0, 0, 0, 0, []),
  (96, .iload_n 2, 1, 2, 0, 0, 0, 0, []),
  (97, .iload_n 1, 1, 1, 0, 0, 0, 0, []),
  (98, .if_icmp .ge 18, 3, 73, 0, 0, 0, 0, []),
  (101, .aload_n 0, 1, 0, 0, 0, 0, 0, []),
  (102, .getfield 50, 3, 8, 20, 1, 0, 0, []),
  (105, .iconst 2, 1, 0, 0, 0, 2, 0, []),
  (106, .iload_n 2, 1, 2, 0, 0, 0, 0, []),
  (107, .iadd, 1, 0, 0, 0, 0, 0, []),
  (108, .iload_n 2, 1, 2, 0, 0, 0, 0, []),
  (109, .iastore, 1, 0, 0, 0, 0, 0, []),
  (110, .iinc 2 1, 3, 2, 0, 0, 1, 0, []),
  (113, .goto (-17), 3, 61, 0, 0, 0, 0, []),
  (116, .aload_n 0, 1, 0, 0, 0, 0, 0, []),
  (117, .bipush 47, 2, 0, 0, 0, 47, 0, []),
  (119, .invokevirtual 134, 3, 59, 1, 1, 0, 0, [8]),
  (122, .ifCond .eq 13, 3, 83, 0, 0, 0, 0, []),
  (125, .aload_n 0, 1, 0, 0, 0, 0, 0, []),
  (126, .iload_n 1, 1, 1, 0, 0, 0, 0, []),
  (127, .invokevirtual 137, 3, 61, 1, 1, 0, 0, [8]),
  (130, .ifCond .ne 5, 3, 83, 0, 0, 0, 0, []),
  (133, .iconst 0, 1, 0, 0, 0, 0, 0, []),
  (134, .ireturn, 1, 1, 0, 0, 0, 0, []),
  (135, .aload_n 0, 1, 0, 0, 0, 0, 0, []),
  (136, .getfield 125, 3, 8, 18, 0, 0, 0, []),
  (139, .aload_n 0, 1, 0, 0, 0, 0, 0, []),
  (140, .getfield 122, 3, 8, 7, 0, 0, 0, []),
  (143, .if_icmp .ne 7, 3, 90, 0, 0, 0, 0, []),
  (146, .iconst 1, 1, 0, 0, 0, 1, 0, []),
  (147, .goto 4, 3, 91, 0, 0, 0, 0, []),
  (150, .iconst 0, 1, 0, 0, 0, 0, 0, []),
  (151, .ireturn, 1, 1, 0, 0, 0, 0, [])]
def zp_62 : List (List Nat) := [[], [], [964], [], [966], [], [], [], [], [], [1056, 1058, 25, 70, 1059], [], [], [], [], [1060, 1062, 26, 70, 1063], [], [], [], [], [965], [], [], [966], [], [], [], [], [], [], [], [], [], [], [], [], [], [1060, 1062, 26, 70, 1063], [], [], [], [], [966], [], [], [], [], [], [], [], [], [], [], [], [], [965], [], [], [], [], [], [], [], [], [], [966], [], [], [], [], [], [], [], [], [], [1056, 1058, 25, 70, 1059], [], [], [], [1064, 1066, 27, 70, 1067], [], [], [], [], [964], [], [953], [], [], [], [], []]
abbrev jX8_errorPosition : Nat := 63
def zd_63 : List zm_E := [(0, .aload_n 0, 1, 0, 0, 0, 0, 0, []),
  (1, .iconst 0, 1, 0, 0, 0, 0, 0, []),
  (2, .putfield 71, 3, 8, 8, 0, 0, 0, []),
  (5, .aload_n 0, 1, 0, 0, 0, 0, 0, []),
  (6, .invokevirtual 140, 3, 62, 0, 1, 0, 0, [8]),
  (9, .ifCond .eq 8, 3, 8, 0, 0, 0, 0, []),
  (12, .bipush (-9), 2, 0, 0, 0, (-9), 0, []),
  (14, .goto 7, 3, 10, 0, 0, 0, 0, []),
  (17, .aload_n 0, 1, 0, 0, 0, 0, 0, []),
  (18, .getfield 125, 3, 8, 18, 0, 0, 0, []),
  (21, .ireturn, 1, 0, 0, 0, 0, 0, [])]
def zp_63 : List (List Nat) := [[], [], [954], [], [1052, 1054, 24, 70, 1055], [], [], [], [], [964], []]
abbrev jX8_load : Nat := 64
def zd_64 : List zm_E := [(0, .aload_n 0, 1, 0, 0, 0, 0, 0, []),
  (1, .iconst 0, 1, 0, 0, 0, 0, 0, []),
  (2, .putfield 71, 3, 8, 8, 0, 0, 0, []),
  (5, .aload_n 0, 1, 0, 0, 0, 0, 0, []),
  (6, .invokevirtual 140, 3, 62, 0, 1, 0, 0, [8]),
  (9, .ifCond .ne 9, 3, 10, 0, 0, 0, 0, []),
  (12, .aload_n 0, 1, 0, 0, 0, 0, 0, []),
  (13, .iconst 1, 1, 0, 0, 0, 1, 0, []),
  (14, .invokevirtual 119, 3, 43, 1, 1, 0, 0, [8]),
  (17, .ireturn, 1, 0, 0, 0, 0, 0, []),
  (18, .iconst 0, 1, 0, 0, 0, 0, 0, []),
  (19, .istore_n 1, 1, 1, 0, 0, 0, 0, []),
  (20, .iload_n 1, 1, 1, 0, 0, 0, 0, []),
  (21, .bipush 58, 2, 0, 0, 0, 58, 0, []),
  (23, .if_icmp .ge 21, 3, 25, 0, 0, 0, 0, []),
  (26, .aload_n 0, 1, 0, 0, 0, 0, 0, []),
  (27, .getfield 7, 3, 8, 0, 1, 0, 0, []),
  (30, .iload_n 1, 1, 1, 0, 0, 0, 0, []),
  (31, .aload_n 0, 1, 0, 0, 0, 0, 0, []),
  (32, .getfield 50, 3, 8, 20, 1, 0, 0, []),
  (35, .iload_n 1, 1, 1, 0, 0, 0, 0, []),
  (36, .iaload, 1, 0, 0, 0, 0, 0, []),
  (37, .iastore, 1, 0, 0, 0, 0, 0, []),
  (38, .iinc 1 1, 3, 1, 0, 0, 1, 0, []),
  (41, .goto (-21), 3, 12, 0, 0, 0, 0, []),
  (44, .aload_n 0, 1, 0, 0, 0, 0, 0, []),
  (45, .iconst 0, 1, 0, 0, 0, 0, 0, []),
  (46, .putfield 75, 3, 8, 3, 0, 0, 0, []),
  (49, .aload_n 0, 1, 0, 0, 0, 0, 0, []),
  (50, .getfield 22, 3, 8, 5, 1, 0, 0, []),
  (53, .iconst 0, 1, 0, 0, 0, 0, 0, []),
  (54, .iconst 0, 1, 0, 0, 0, 0, 0, []),
  (55, .bastore, 1, 0, 0, 0, 0, 0, []),
  (56, .aload_n 0, 1, 0, 0, 0, 0, 0, []),
  (57, .getfield 22, 3, 8, 5, 1, 0, 0, []),
  (60, .iconst 1, 1, 0, 0, 0, 1, 0, []),
  (61, .iconst 0, 1, 0, 0, 0, 0, 0, []),
  (62, .bastore, 1, 0, 0, 0, 0, 0, []),
  (63, .aload_n 0, 1, 0, 0, 0, 0, 0, []),
  (64, .invokevirtual 144, 3, 51, 0, 1, 0, 0, [8]),
  (67, .ireturn, 1, 0, 0, 0, 0, 0, [])]
def zp_64 : List (List Nat) := [[], [], [954], [], [1052, 1054, 24, 70, 1055], [], [], [], [1040, 1042, 23, 70, 1043], [], [], [], [], [], [], [], [946], [], [], [966], [], [], [], [], [], [], [], [949], [], [951], [], [], [], [], [951], [], [], [], [], [1075, 1077, 28, 70, 1078], []]
abbrev jX8_envies : Nat := 65
def zd_65 : List zm_E := [(0, .aload_n 0, 1, 0, 0, 0, 0, 0, []),
  (1, .iload_n 1, 1, 1, 0, 0, 0, 0, []),
  (2, .invokevirtual 97, 3, 48, 1, 1, 0, 0, [8]),
  (5, .ifCond .eq 38, 3, 23, 0, 0, 0, 0, []),
  (8, .aload_n 0, 1, 0, 0, 0, 0, 0, []),
  (9, .iload_n 2, 1, 2, 0, 0, 0, 0, []),
  (10, .invokevirtual 97, 3, 48, 1, 1, 0, 0, [8]),
  (13, .ifCond .eq 30, 3, 23, 0, 0, 0, 0, []),
  (16, .aload_n 0, 1, 0, 0, 0, 0, 0, []),
  (17, .iload_n 1, 1, 1, 0, 0, 0, 0, []),
  (18, .aload_n 0, 1, 0, 0, 0, 0, 0, []),
  (19, .iload_n 2, 1, 2, 0, 0, 0, 0, []),
  (20, .invokevirtual 90, 3, 50, 1, 1, 0, 0, [8]),
  (23, .invokevirtual 93, 3, 49, 2, 1, 0, 0, [8]),
  (26, .aload_n 0, 1, 0, 0, 0, 0, 0, []),
  (27, .iload_n 1, 1, 1, 0, 0, 0, 0, []),
  (28, .aload_n 0, 1, 0, 0, 0, 0, 0, []),
  (29, .iload_n 1, 1, 1, 0, 0, 0, 0, []),
  (30, .invokevirtual 90, 3, 50, 1, 1, 0, 0, [8]),
  (33, .invokevirtual 93, 3, 49, 2, 1, 0, 0, [8]),
  (36, .if_icmp .ge 7, 3, 23, 0, 0, 0, 0, []),
  (39, .iconst 1, 1, 0, 0, 0, 1, 0, []),
  (40, .goto 4, 3, 24, 0, 0, 0, 0, []),
  (43, .iconst 0, 1, 0, 0, 0, 0, 0, []),
  (44, .ireturn, 1, 1, 0, 0, 0, 0, [])]
def zp_65 : List (List Nat) := [[], [], [1090, 1092, 30, 70, 1093], [], [], [], [1090, 1092, 30, 70, 1093], [], [], [], [], [], [1098, 1100, 32, 70, 1101], [1102, 1104, 33, 70, 1105], [], [], [], [], [1098, 1100, 32, 70, 1101], [1102, 1104, 33, 70, 1105], [], [], [], [], []]
abbrev jX8_about : Nat := 66
def zd_66 : List zm_E := [(0, .aload_n 0, 1, 0, 0, 0, 0, 0, []),
  (1, .iconst 0, 1, 0, 0, 0, 0, 0, []),
  (2, .putfield 71, 3, 8, 8, 0, 0, 0, []),
  (5, .aload_n 0, 1, 0, 0, 0, 0, 0, []),
  (6, .invokevirtual 148, 3, 55, 0, 0, 0, 0, [8]),
  (9, .iconst 0, 1, 0, 0, 0, 0, 0, []),
  (10, .istore_n 2, 1, 2, 0, 0, 0, 0, []),
  (11, .iconst 0, 1, 0, 0, 0, 0, 0, []),
  (12, .istore_n 3, 1, 3, 0, 0, 0, 0, []),
  (13, .iconst 0, 1, 0, 0, 0, 0, 0, []),
  (14, .istore 4, 2, 4, 0, 0, 0, 0, []),
  (16, .iconst 0, 1, 0, 0, 0, 0, 0, []),
  (17, .istore 5, 2, 5, 0, 0, 0, 0, []),
  (19, .iload 5, 2, 5, 0, 0, 0, 0, []),
  (21, .aload_n 0, 1, 0, 0, 0, 0, 0, []),
  (22, .getfield 7, 3, 8, 0, 1, 0, 0, []),
  (25, .iconst 0, 1, 0, 0, 0, 0, 0, []),
  (26, .iaload, 1, 0, 0, 0, 0, 0, []),
  (27, .if_icmp .ge 102, 3, 71, 0, 0, 0, 0, []),
  (30, .iload_n 2, 1, 2, 0, 0, 0, 0, []),
  (31, .aload_n 0, 1, 0, 0, 0, 0, 0, []),
  (32, .iload 5, 2, 5, 0, 0, 0, 0, []),
  (34, .invokevirtual 90, 3, 50, 1, 1, 0, 0, [8]),
  (37, .iload 5, 2, 5, 0, 0, 0, 0, []),
  (39, .if_icmp .ne 7, 3, 27, 0, 0, 0, 0, []),
  (42, .iconst 1, 1, 0, 0, 0, 1, 0, []),
  (43, .goto 4, 3, 28, 0, 0, 0, 0, []),
  (46, .iconst 0, 1, 0, 0, 0, 0, 0, []),
  (47, .iadd, 1, 0, 0, 0, 0, 0, []),
  (48, .istore_n 2, 1, 2, 0, 0, 0, 0, []),
  (49, .iload_n 3, 1, 3, 0, 0, 0, 0, []),
  (50, .aload_n 0, 1, 0, 0, 0, 0, 0, []),
  (51, .iload 5, 2, 5, 0, 0, 0, 0, []),
  (53, .invokevirtual 97, 3, 48, 1, 1, 0, 0, [8]),
  (56, .ifCond .eq 23, 3, 45, 0, 0, 0, 0, []),
  (59, .aload_n 0, 1, 0, 0, 0, 0, 0, []),
  (60, .getfield 29, 3, 8, 9, 1, 0, 0, []),
  (63, .iload 5, 2, 5, 0, 0, 0, 0, []),
  (65, .iaload, 1, 0, 0, 0, 0, 0, []),
  (66, .aload_n 0, 1, 0, 0, 0, 0, 0, []),
  (67, .iload 5, 2, 5, 0, 0, 0, 0, []),
  (69, .invokevirtual 90, 3, 50, 1, 1, 0, 0, [8]),
  (72, .if_icmp .eq 7, 3, 45, 0, 0, 0, 0, []),
  (75, .iconst 1, 1, 0, 0, 0, 1, 0, []),
  (76, .goto 4, 3, 46, 0, 0, 0, 0, []),
  (79, .iconst 0, 1, 0, 0, 0, 0, 0, []),
  (80, .iadd, 1, 0, 0, 0, 0, 0, []),
  (81, .istore_n 3, 1, 3, 0, 0, 0, 0, []),
  (82, .iconst 0, 1, 0, 0, 0, 0, 0, []),
  (83, .istore 6, 2, 6, 0, 0, 0, 0, []),
  (85, .iload 6, 2, 6, 0, 0, 0, 0, []),
  (87, .aload_n 0, 1, 0, 0, 0, 0, 0, []),
  (88, .getfield 7, 3, 8, 0, 1, 0, 0, []),
  (91, .iconst 0, 1, 0, 0, 0, 0, 0, []),
  (92, .iaload, 1, 0, 0, 0, 0, 0, []),
  (93, .if_icmp .ge 30, 3, 69, 0, 0, 0, 0, []),
  (96, .iload 4, 2, 4, 0, 0, 0, 0, []),
  (98, .aload_n 0, 1, 0, 0, 0, 0, 0, []),
  (99, .iload 5, 2, 5, 0, 0, 0, 0, []),
  (101, .iload 6, 2, 6, 0, 0, 0, 0, []),
  (103, .invokevirtual 151, 3, 65, 2, 1, 0, 0, [8]),
  (106, .ifCond .eq 7, 3, 64, 0, 0, 0, 0, []),
  (109, .iconst 1, 1, 0, 0, 0, 1, 0, []),
  (110, .goto 4, 3, 65, 0, 0, 0, 0, []),
  (113, .iconst 0, 1, 0, 0, 0, 0, 0, []),
  (114, .iadd, 1, 0, 0, 0, 0, 0, []),
  (115, .istore 4, 2, 4, 0, 0, 0, 0, []),
  (117, .iinc 6 1, 3, 6, 0, 0, 1, 0, []),
  (120, .goto (-35), 3, 50, 0, 0, 0, 0, []),
  (123, .iinc 5 1, 3, 5, 0, 0, 1, 0, []),
  (126, .goto (-107), 3, 13, 0, 0, 0, 0, []),
  (129, .iload_n 1, 1, 1, 0, 0, 0, 0, []),
  (130, .tableswitch 80 0 7 #[46, 53, 58, 60, 65, 70, 75, 77], 46, 96, 0, 0, 0, 0, [73, 78, 81, 83, 86, 89, 92, 94]),
  (176, .aload_n 0, 1, 0, 0, 0, 0, 0, []),
  (177, .getfield 7, 3, 8, 0, 1, 0, 0, []),
  (180, .iconst 0, 1, 0, 0, 0, 0, 0, []),
  (181, .iaload, 1, 0, 0, 0, 0, 0, []),
  (182, .ireturn, 1, 0, 0, 0, 0, 0, []),
  (183, .aload_n 0, 1, 0, 0, 0, 0, 0, []),
  (184, .invokevirtual 144, 3, 51, 0, 1, 0, 0, [8]),
  (187, .ireturn, 1, 0, 0, 0, 0, 0, []),
  (188, .iload_n 2, 1, 2, 0, 0, 0, 0, []),
  (189, .ireturn, 1, 0, 0, 0, 0, 0, []),
  (190, .aload_n 0, 1, 0, 0, 0, 0, 0, []),
  (191, .invokevirtual 154, 3, 52, 0, 1, 0, 0, [8]),
  (194, .ireturn, 1, 0, 0, 0, 0, 0, []),
  (195, .aload_n 0, 1, 0, 0, 0, 0, 0, []),
  (196, .getfield 101, 3, 8, 16, 0, 0, 0, []),
  (199, .ireturn, 1, 0, 0, 0, 0, 0, []),
  (200, .aload_n 0, 1, 0, 0, 0, 0, 0, []),
  (201, .getfield 104, 3, 8, 17, 0, 0, 0, []),
  (204, .ireturn, 1, 0, 0, 0, 0, 0, []),
  (205, .iload_n 3, 1, 3, 0, 0, 0, 0, []),
  (206, .ireturn, 1, 0, 0, 0, 0, 0, []),
  (207, .iload 4, 2, 4, 0, 0, 0, 0, []),
  (209, .ireturn, 1, 0, 0, 0, 0, 0, []),
  (210, .aload_n 0, 1, 0, 0, 0, 0, 0, []),
  (211, .iconst 1, 1, 0, 0, 0, 1, 0, []),
  (212, .invokevirtual 119, 3, 43, 1, 1, 0, 0, [8]),
  (215, .ireturn, 1, 0, 0, 0, 0, 0, [])]
def zp_66 : List (List Nat) := [[], [], [954], [], [1086, 1088, 29, 70, 1089], [], [], [], [], [], [], [], [], [], [], [946], [], [], [], [], [], [], [1098, 1100, 32, 70, 1101], [], [], [], [], [], [], [], [], [], [], [1090, 1092, 30, 70, 1093], [], [], [955], [], [], [], [], [1098, 1100, 32, 70, 1101], [], [], [], [], [], [], [], [], [], [], [946], [], [], [], [], [], [], [], [1114, 1116, 36, 70, 1117], [], [], [], [], [], [], [], [], [], [], [], [], [], [946], [], [], [], [], [1075, 1077, 28, 70, 1078], [], [], [], [], [1118, 1120, 37, 70, 1121], [], [], [962], [], [], [963], [], [], [], [], [], [], [], [1040, 1042, 23, 70, 1043], []]
abbrev jX8_trader : Nat := 67
def zd_67 : List zm_E := [(0, .aload_n 0, 1, 0, 0, 0, 0, 0, []),
  (1, .iconst 0, 1, 0, 0, 0, 0, 0, []),
  (2, .putfield 71, 3, 8, 8, 0, 0, 0, []),
  (5, .aload_n 0, 1, 0, 0, 0, 0, 0, []),
  (6, .iload_n 1, 1, 1, 0, 0, 0, 0, []),
  (7, .invokevirtual 157, 3, 47, 1, 1, 0, 0, [8]),
  (10, .ifCond .ne 9, 3, 11, 0, 0, 0, 0, []),
  (13, .aload_n 0, 1, 0, 0, 0, 0, 0, []),
  (14, .iconst 1, 1, 0, 0, 0, 1, 0, []),
  (15, .invokevirtual 119, 3, 43, 1, 1, 0, 0, [8]),
  (18, .ireturn, 1, 0, 0, 0, 0, 0, []),
  (19, .aload_n 0, 1, 0, 0, 0, 0, 0, []),
  (20, .invokevirtual 148, 3, 55, 0, 0, 0, 0, [8]),
  (23, .iload_n 2, 1, 2, 0, 0, 0, 0, []),
  (24, .tableswitch 103 0 6 #[44, 50, 61, 75, 82, 89, 96], 44, 54, 0, 0, 0, 0, [15, 19, 26, 34, 39, 44, 49]),
  (68, .aload_n 0, 1, 0, 0, 0, 0, 0, []),
  (69, .iload_n 1, 1, 1, 0, 0, 0, 0, []),
  (70, .invokevirtual 90, 3, 50, 1, 1, 0, 0, [8]),
  (73, .ireturn, 1, 0, 0, 0, 0, 0, []),
  (74, .aload_n 0, 1, 0, 0, 0, 0, 0, []),
  (75, .iload_n 1, 1, 1, 0, 0, 0, 0, []),
  (76, .aload_n 0, 1, 0, 0, 0, 0, 0, []),
  (77, .iload_n 1, 1, 1, 0, 0, 0, 0, []),
  (78, .invokevirtual 90, 3, 50, 1, 1, 0, 0, [8]),
  (81, .invokevirtual 93, 3, 49, 2, 1, 0, 0, [8]),
  (84, .ireturn, 1, 0, 0, 0, 0, 0, []),
  (85, .aload_n 0, 1, 0, 0, 0, 0, 0, []),
  (86, .iload_n 1, 1, 1, 0, 0, 0, 0, []),
  (87, .invokevirtual 97, 3, 48, 1, 1, 0, 0, [8]),
  (90, .ifCond .eq 7, 3, 32, 0, 0, 0, 0, []),
  (93, .iconst 1, 1, 0, 0, 0, 1, 0, []),
  (94, .goto 4, 3, 33, 0, 0, 0, 0, []),
  (97, .iconst 0, 1, 0, 0, 0, 0, 0, []),
  (98, .ireturn, 1, 0, 0, 0, 0, 0, []),
  (99, .aload_n 0, 1, 0, 0, 0, 0, 0, []),
  (100, .getfield 29, 3, 8, 9, 1, 0, 0, []),
  (103, .iload_n 1, 1, 1, 0, 0, 0, 0, []),
  (104, .iaload, 1, 0, 0, 0, 0, 0, []),
  (105, .ireturn, 1, 0, 0, 0, 0, 0, []),
  (106, .aload_n 0, 1, 0, 0, 0, 0, 0, []),
  (107, .getfield 32, 3, 8, 10, 1, 0, 0, []),
  (110, .iload_n 1, 1, 1, 0, 0, 0, 0, []),
  (111, .iaload, 1, 0, 0, 0, 0, 0, []),
  (112, .ireturn, 1, 0, 0, 0, 0, 0, []),
  (113, .aload_n 0, 1, 0, 0, 0, 0, 0, []),
  (114, .getfield 35, 3, 8, 11, 1, 0, 0, []),
  (117, .iload_n 1, 1, 1, 0, 0, 0, 0, []),
  (118, .iaload, 1, 0, 0, 0, 0, 0, []),
  (119, .ireturn, 1, 0, 0, 0, 0, 0, []),
  (120, .aload_n 0, 1, 0, 0, 0, 0, 0, []),
  (121, .getfield 38, 3, 8, 12, 1, 0, 0, []),
  (124, .iload_n 1, 1, 1, 0, 0, 0, 0, []),
  (125, .iaload, 1, 0, 0, 0, 0, 0, []),
  (126, .ireturn, 1, 0, 0, 0, 0, 0, []),
  (127, .aload_n 0, 1, 0, 0, 0, 0, 0, []),
  (128, .iconst 2, 1, 0, 0, 0, 2, 0, []),
  (129, .invokevirtual 119, 3, 43, 1, 1, 0, 0, [8]),
  (132, .ireturn, 1, 0, 0, 0, 0, 0, [])]
def zp_67 : List (List Nat) := [[], [], [954], [], [], [1126, 1128, 38, 70, 1129], [], [], [], [1040, 1042, 23, 70, 1043], [], [], [1086, 1088, 29, 70, 1089], [], [], [], [], [1098, 1100, 32, 70, 1101], [], [], [], [], [], [1098, 1100, 32, 70, 1101], [1102, 1104, 33, 70, 1105], [], [], [], [1090, 1092, 30, 70, 1093], [], [], [], [], [], [], [955], [], [], [], [], [956], [], [], [], [], [957], [], [], [], [], [958], [], [], [], [], [], [1040, 1042, 23, 70, 1043], []]
abbrev jX8_rank : Nat := 68
def zd_68 : List zm_E := [(0, .aload_n 0, 1, 0, 0, 0, 0, 0, []),
  (1, .iconst 0, 1, 0, 0, 0, 0, 0, []),
  (2, .putfield 71, 3, 8, 8, 0, 0, 0, []),
  (5, .aload_n 0, 1, 0, 0, 0, 0, 0, []),
  (6, .iload_n 1, 1, 1, 0, 0, 0, 0, []),
  (7, .invokevirtual 157, 3, 47, 1, 1, 0, 0, [8]),
  (10, .ifCond .eq 20, 3, 16, 0, 0, 0, 0, []),
  (13, .aload_n 0, 1, 0, 0, 0, 0, 0, []),
  (14, .iload_n 2, 1, 2, 0, 0, 0, 0, []),
  (15, .invokevirtual 157, 3, 47, 1, 1, 0, 0, [8]),
  (18, .ifCond .eq 12, 3, 16, 0, 0, 0, 0, []),
  (21, .aload_n 0, 1, 0, 0, 0, 0, 0, []),
  (22, .iload_n 1, 1, 1, 0, 0, 0, 0, []),
  (23, .iload_n 2, 1, 2, 0, 0, 0, 0, []),
  (24, .invokevirtual 93, 3, 49, 2, 1, 0, 0, [8]),
  (27, .goto 8, 3, 19, 0, 0, 0, 0, []),
  (30, .aload_n 0, 1, 0, 0, 0, 0, 0, []),
  (31, .iconst 1, 1, 0, 0, 0, 1, 0, []),
  (32, .invokevirtual 119, 3, 43, 1, 1, 0, 0, [8]),
  (35, .ireturn, 1, 0, 0, 0, 0, 0, [])]
def zp_68 : List (List Nat) := [[], [], [954], [], [], [1126, 1128, 38, 70, 1129], [], [], [], [1126, 1128, 38, 70, 1129], [], [], [], [], [1102, 1104, 33, 70, 1105], [], [], [], [1040, 1042, 23, 70, 1043], []]
abbrev jX8_holder : Nat := 69
def zd_69 : List zm_E := [(0, .aload_n 0, 1, 0, 0, 0, 0, 0, []),
  (1, .iconst 0, 1, 0, 0, 0, 0, 0, []),
  (2, .putfield 71, 3, 8, 8, 0, 0, 0, []),
  (5, .aload_n 0, 1, 0, 0, 0, 0, 0, []),
  (6, .iload_n 1, 1, 1, 0, 0, 0, 0, []),
  (7, .invokevirtual 157, 3, 47, 1, 1, 0, 0, [8]),
  (10, .ifCond .ne 9, 3, 11, 0, 0, 0, 0, []),
  (13, .aload_n 0, 1, 0, 0, 0, 0, 0, []),
  (14, .iconst 1, 1, 0, 0, 0, 1, 0, []),
  (15, .invokevirtual 119, 3, 43, 1, 1, 0, 0, [8]),
  (18, .ireturn, 1, 0, 0, 0, 0, 0, []),
  (19, .iconst 0, 1, 0, 0, 0, 0, 0, []),
  (20, .istore_n 2, 1, 2, 0, 0, 0, 0, []),
  (21, .aload_n 0, 1, 0, 0, 0, 0, 0, []),
  (22, .iload_n 2, 1, 2, 0, 0, 0, 0, []),
  (23, .invokevirtual 90, 3, 50, 1, 1, 0, 0, [8]),
  (26, .iload_n 1, 1, 1, 0, 0, 0, 0, []),
  (27, .if_icmp .eq 9, 3, 20, 0, 0, 0, 0, []),
  (30, .iinc 2 1, 3, 2, 0, 0, 1, 0, []),
  (33, .goto (-12), 3, 13, 0, 0, 0, 0, []),
  (36, .iload_n 2, 1, 2, 0, 0, 0, 0, []),
  (37, .ireturn, 1, 0, 0, 0, 0, 0, [])]
def zp_69 : List (List Nat) := [[], [], [954], [], [], [1126, 1128, 38, 70, 1129], [], [], [], [1040, 1042, 23, 70, 1043], [], [], [], [], [], [1098, 1100, 32, 70, 1101], [], [], [], [], [], []]
abbrev jX8_ring : Nat := 70
def zd_70 : List zm_E := [(0, .aload_n 0, 1, 0, 0, 0, 0, 0, []),
  (1, .iconst 0, 1, 0, 0, 0, 0, 0, []),
  (2, .putfield 71, 3, 8, 8, 0, 0, 0, []),
  (5, .aload_n 0, 1, 0, 0, 0, 0, 0, []),
  (6, .invokevirtual 148, 3, 55, 0, 0, 0, 0, [8]),
  (9, .iload_n 1, 1, 1, 0, 0, 0, 0, []),
  (10, .i2l, 1, 0, 0, 0, 0, 0, []),
  (11, .lconst 0, 1, 0, 0, 0, 0, 0, []),
  (12, .aload_n 0, 1, 0, 0, 0, 0, 0, []),
  (13, .getfield 101, 3, 8, 16, 0, 0, 0, []),
  (16, .iconst 1, 1, 0, 0, 0, 1, 0, []),
  (17, .isub, 1, 0, 0, 0, 0, 0, []),
  (18, .i2l, 1, 0, 0, 0, 0, 0, []),
  (19, .invokestatic 78, 3, 40, 3, 1, 0, 0, []),
  (22, .ifCond .ne 9, 3, 19, 0, 0, 0, 0, []),
  (25, .aload_n 0, 1, 0, 0, 0, 0, 0, []),
  (26, .iconst 1, 1, 0, 0, 0, 1, 0, []),
  (27, .invokevirtual 119, 3, 43, 1, 1, 0, 0, [8]),
  (30, .ireturn, 1, 0, 0, 0, 0, 0, []),
  (31, .iload_n 2, 1, 2, 0, 0, 0, 0, []),
  (32, .i2l, 1, 0, 0, 0, 0, 0, []),
  (33, .lconst 0, 1, 0, 0, 0, 0, 0, []),
  (34, .ldc2_w 160, 3, 0, 0, 0, 0, 3, []),
  (37, .invokestatic 78, 3, 40, 3, 1, 0, 0, []),
  (40, .ifCond .ne 9, 3, 29, 0, 0, 0, 0, []),
  (43, .aload_n 0, 1, 0, 0, 0, 0, 0, []),
  (44, .iconst 2, 1, 0, 0, 0, 2, 0, []),
  (45, .invokevirtual 119, 3, 43, 1, 1, 0, 0, [8]),
  (48, .ireturn, 1, 0, 0, 0, 0, 0, []),
  (49, .iconst 0, 1, 0, 0, 0, 0, 0, []),
  (50, .istore_n 3, 1, 3, 0, 0, 0, 0, []),
  (51, .iconst 0, 1, 0, 0, 0, 0, 0, []),
  (52, .istore 4, 2, 4, 0, 0, 0, 0, []),
  (54, .iload 4, 2, 4, 0, 0, 0, 0, []),
  (56, .aload_n 0, 1, 0, 0, 0, 0, 0, []),
  (57, .getfield 7, 3, 8, 0, 1, 0, 0, []),
  (60, .iconst 0, 1, 0, 0, 0, 0, 0, []),
  (61, .iaload, 1, 0, 0, 0, 0, 0, []),
  (62, .if_icmp .ge 56, 3, 67, 0, 0, 0, 0, []),
  (65, .iload_n 3, 1, 3, 0, 0, 0, 0, []),
  (66, .aload_n 0, 1, 0, 0, 0, 0, 0, []),
  (67, .getfield 44, 3, 8, 14, 1, 0, 0, []),
  (70, .iload_n 1, 1, 1, 0, 0, 0, 0, []),
  (71, .iaload, 1, 0, 0, 0, 0, 0, []),
  (72, .iload 4, 2, 4, 0, 0, 0, 0, []),
  (74, .invokestatic 82, 3, 41, 2, 1, 0, 0, []),
  (77, .ifCond .eq 32, 3, 62, 0, 0, 0, 0, []),
  (80, .aload_n 0, 1, 0, 0, 0, 0, 0, []),
  (81, .iload 4, 2, 4, 0, 0, 0, 0, []),
  (83, .aload_n 0, 1, 0, 0, 0, 0, 0, []),
  (84, .iload 4, 2, 4, 0, 0, 0, 0, []),
  (86, .invokevirtual 90, 3, 50, 1, 1, 0, 0, [8]),
  (89, .invokevirtual 93, 3, 49, 2, 1, 0, 0, [8]),
  (92, .aload_n 0, 1, 0, 0, 0, 0, 0, []),
  (93, .iload 4, 2, 4, 0, 0, 0, 0, []),
  (95, .aload_n 0, 1, 0, 0, 0, 0, 0, []),
  (96, .getfield 29, 3, 8, 9, 1, 0, 0, []),
  (99, .iload 4, 2, 4, 0, 0, 0, 0, []),
  (101, .iaload, 1, 0, 0, 0, 0, 0, []),
  (102, .invokevirtual 93, 3, 49, 2, 1, 0, 0, [8]),
  (105, .isub, 1, 0, 0, 0, 0, 0, []),
  (106, .goto 4, 3, 63, 0, 0, 0, 0, []),
  (109, .iconst 0, 1, 0, 0, 0, 0, 0, []),
  (110, .iadd, 1, 0, 0, 0, 0, 0, []),
  (111, .istore_n 3, 1, 3, 0, 0, 0, 0, []),
  (112, .iinc 4 1, 3, 4, 0, 0, 1, 0, []),
  (115, .goto (-61), 3, 33, 0, 0, 0, 0, []),
  (118, .iload_n 2, 1, 2, 0, 0, 0, 0, []),
  (119, .ifCond .ne 12, 3, 74, 0, 0, 0, 0, []),
  (122, .aload_n 0, 1, 0, 0, 0, 0, 0, []),
  (123, .getfield 44, 3, 8, 14, 1, 0, 0, []),
  (126, .iload_n 1, 1, 1, 0, 0, 0, 0, []),
  (127, .iaload, 1, 0, 0, 0, 0, 0, []),
  (128, .goto 35, 3, 92, 0, 0, 0, 0, []),
  (131, .iload_n 2, 1, 2, 0, 0, 0, 0, []),
  (132, .iconst 1, 1, 0, 0, 0, 1, 0, []),
  (133, .if_icmp .ne 15, 3, 83, 0, 0, 0, 0, []),
  (136, .aload_n 0, 1, 0, 0, 0, 0, 0, []),
  (137, .getfield 44, 3, 8, 14, 1, 0, 0, []),
  (140, .iload_n 1, 1, 1, 0, 0, 0, 0, []),
  (141, .iaload, 1, 0, 0, 0, 0, 0, []),
  (142, .invokestatic 86, 3, 42, 1, 1, 0, 0, []),
  (145, .goto 18, 3, 92, 0, 0, 0, 0, []),
  (148, .iload_n 2, 1, 2, 0, 0, 0, 0, []),
  (149, .iconst 2, 1, 0, 0, 0, 2, 0, []),
  (150, .if_icmp .ne 12, 3, 91, 0, 0, 0, 0, []),
  (153, .aload_n 0, 1, 0, 0, 0, 0, 0, []),
  (154, .getfield 47, 3, 8, 15, 1, 0, 0, []),
  (157, .iload_n 1, 1, 1, 0, 0, 0, 0, []),
  (158, .iaload, 1, 0, 0, 0, 0, 0, []),
  (159, .goto 4, 3, 92, 0, 0, 0, 0, []),
  (162, .iload_n 3, 1, 3, 0, 0, 0, 0, []),
  (163, .ireturn, 1, 0, 0, 0, 0, 0, [])]
def zp_70 : List (List Nat) := [[], [], [954], [], [1086, 1088, 29, 70, 1089], [], [], [], [], [962], [], [], [], [1037, 1038, 70, 1039], [], [], [], [1040, 1042, 23, 70, 1043], [], [], [], [], [1142], [1037, 1038, 70, 1039], [], [], [], [1040, 1042, 23, 70, 1043], [], [], [], [], [], [], [], [946], [], [], [], [], [], [960], [], [], [], [1068, 1069, 70, 1070], [], [], [], [], [], [1098, 1100, 32, 70, 1101], [1102, 1104, 33, 70, 1105], [], [], [], [955], [], [], [1102, 1104, 33, 70, 1105], [], [], [], [], [], [], [], [], [], [], [960], [], [], [], [], [], [], [], [960], [], [], [1079, 1080, 70, 1081], [], [], [], [], [], [961], [], [], [], [], []]
abbrev jX8_against : Nat := 71
def zd_71 : List zm_E := [(0, .iload_n 1, 1, 1, 0, 0, 0, 0, []),
  (1, .iload_n 2, 1, 2, 0, 0, 0, 0, []),
  (2, .if_icmp .eq 11, 3, 7, 0, 0, 0, 0, []),
  (5, .aload_n 0, 1, 0, 0, 0, 0, 0, []),
  (6, .iload_n 1, 1, 1, 0, 0, 0, 0, []),
  (7, .invokevirtual 97, 3, 48, 1, 1, 0, 0, [8]),
  (10, .ifCond .ne 14, 3, 14, 0, 0, 0, 0, []),
  (13, .iload_n 1, 1, 1, 0, 0, 0, 0, []),
  (14, .iload_n 2, 1, 2, 0, 0, 0, 0, []),
  (15, .if_icmp .ne 7, 3, 12, 0, 0, 0, 0, []),
  (18, .iconst 1, 1, 0, 0, 0, 1, 0, []),
  (19, .goto 4, 3, 13, 0, 0, 0, 0, []),
  (22, .iconst 2, 1, 0, 0, 0, 2, 0, []),
  (23, .ireturn, 1, 0, 0, 0, 0, 0, []),
  (24, .aload_n 0, 1, 0, 0, 0, 0, 0, []),
  (25, .iload_n 2, 1, 2, 0, 0, 0, 0, []),
  (26, .invokevirtual 97, 3, 48, 1, 1, 0, 0, [8]),
  (29, .ifCond .ne 5, 3, 20, 0, 0, 0, 0, []),
  (32, .iconst 3, 1, 0, 0, 0, 3, 0, []),
  (33, .ireturn, 1, 0, 0, 0, 0, 0, []),
  (34, .aload_n 0, 1, 0, 0, 0, 0, 0, []),
  (35, .iload_n 1, 1, 1, 0, 0, 0, 0, []),
  (36, .aload_n 0, 1, 0, 0, 0, 0, 0, []),
  (37, .iload_n 2, 1, 2, 0, 0, 0, 0, []),
  (38, .invokevirtual 90, 3, 50, 1, 1, 0, 0, [8]),
  (41, .invokevirtual 93, 3, 49, 2, 1, 0, 0, [8]),
  (44, .aload_n 0, 1, 0, 0, 0, 0, 0, []),
  (45, .iload_n 1, 1, 1, 0, 0, 0, 0, []),
  (46, .aload_n 0, 1, 0, 0, 0, 0, 0, []),
  (47, .iload_n 1, 1, 1, 0, 0, 0, 0, []),
  (48, .invokevirtual 90, 3, 50, 1, 1, 0, 0, [8]),
  (51, .invokevirtual 93, 3, 49, 2, 1, 0, 0, [8]),
  (54, .isub, 1, 0, 0, 0, 0, 0, []),
  (55, .istore_n 3, 1, 3, 0, 0, 0, 0, []),
  (56, .aload_n 0, 1, 0, 0, 0, 0, 0, []),
  (57, .iload_n 2, 1, 2, 0, 0, 0, 0, []),
  (58, .aload_n 0, 1, 0, 0, 0, 0, 0, []),
  (59, .iload_n 1, 1, 1, 0, 0, 0, 0, []),
  (60, .invokevirtual 90, 3, 50, 1, 1, 0, 0, [8]),
  (63, .invokevirtual 93, 3, 49, 2, 1, 0, 0, [8]),
  (66, .aload_n 0, 1, 0, 0, 0, 0, 0, []),
  (67, .iload_n 2, 1, 2, 0, 0, 0, 0, []),
  (68, .aload_n 0, 1, 0, 0, 0, 0, 0, []),
  (69, .iload_n 2, 1, 2, 0, 0, 0, 0, []),
  (70, .invokevirtual 90, 3, 50, 1, 1, 0, 0, [8]),
  (73, .invokevirtual 93, 3, 49, 2, 1, 0, 0, [8]),
  (76, .isub, 1, 0, 0, 0, 0, 0, []),
  (77, .istore 4, 2, 4, 0, 0, 0, 0, []),
  (79, .iload_n 3, 1, 3, 0, 0, 0, 0, []),
  (80, .ifCond .le 7, 3, 52, 0, 0, 0, 0, []),
  (83, .iconst 4, 1, 0, 0, 0, 4, 0, []),
  (84, .goto 27, 3, 63, 0, 0, 0, 0, []),
  (87, .iload 4, 2, 4, 0, 0, 0, 0, []),
  (89, .ifCond .le 7, 3, 56, 0, 0, 0, 0, []),
  (92, .iconst 5, 1, 0, 0, 0, 5, 0, []),
  (93, .goto 18, 3, 63, 0, 0, 0, 0, []),
  (96, .iload_n 3, 1, 3, 0, 0, 0, 0, []),
  (97, .ifCond .ne 13, 3, 62, 0, 0, 0, 0, []),
  (100, .iload 4, 2, 4, 0, 0, 0, 0, []),
  (102, .ifCond .ne 8, 3, 62, 0, 0, 0, 0, []),
  (105, .bipush 6, 2, 0, 0, 0, 6, 0, []),
  (107, .goto 4, 3, 63, 0, 0, 0, 0, []),
  (110, .iconst 0, 1, 0, 0, 0, 0, 0, []),
  (111, .ireturn, 1, 0, 0, 0, 0, 0, [])]
def zp_71 : List (List Nat) := [[], [], [], [], [], [1090, 1092, 30, 70, 1093], [], [], [], [], [], [], [], [], [], [], [1090, 1092, 30, 70, 1093], [], [], [], [], [], [], [], [1098, 1100, 32, 70, 1101], [1102, 1104, 33, 70, 1105], [], [], [], [], [1098, 1100, 32, 70, 1101], [1102, 1104, 33, 70, 1105], [], [], [], [], [], [], [1098, 1100, 32, 70, 1101], [1102, 1104, 33, 70, 1105], [], [], [], [], [1098, 1100, 32, 70, 1101], [1102, 1104, 33, 70, 1105], [], [], [], [], [], [], [], [], [], [], [], [], [], [], [], [], [], []]
abbrev jX8_whyNot : Nat := 72
def zd_72 : List zm_E := [(0, .aload_n 0, 1, 0, 0, 0, 0, 0, []),
  (1, .iconst 0, 1, 0, 0, 0, 0, 0, []),
  (2, .putfield 71, 3, 8, 8, 0, 0, 0, []),
  (5, .aload_n 0, 1, 0, 0, 0, 0, 0, []),
  (6, .iload_n 1, 1, 1, 0, 0, 0, 0, []),
  (7, .invokevirtual 157, 3, 47, 1, 1, 0, 0, [8]),
  (10, .ifCond .eq 20, 3, 16, 0, 0, 0, 0, []),
  (13, .aload_n 0, 1, 0, 0, 0, 0, 0, []),
  (14, .iload_n 2, 1, 2, 0, 0, 0, 0, []),
  (15, .invokevirtual 157, 3, 47, 1, 1, 0, 0, [8]),
  (18, .ifCond .eq 12, 3, 16, 0, 0, 0, 0, []),
  (21, .aload_n 0, 1, 0, 0, 0, 0, 0, []),
  (22, .iload_n 1, 1, 1, 0, 0, 0, 0, []),
  (23, .iload_n 2, 1, 2, 0, 0, 0, 0, []),
  (24, .invokevirtual 162, 3, 71, 2, 1, 0, 0, [8]),
  (27, .goto 8, 3, 19, 0, 0, 0, 0, []),
  (30, .aload_n 0, 1, 0, 0, 0, 0, 0, []),
  (31, .iconst 1, 1, 0, 0, 0, 1, 0, []),
  (32, .invokevirtual 119, 3, 43, 1, 1, 0, 0, [8]),
  (35, .ireturn, 1, 0, 0, 0, 0, 0, [])]
def zp_72 : List (List Nat) := [[], [], [954], [], [], [1126, 1128, 38, 70, 1129], [], [], [], [1126, 1128, 38, 70, 1129], [], [], [], [], [1147, 1149, 39, 70, 1150], [], [], [], [1040, 1042, 23, 70, 1043], []]
abbrev jX8_addTrader : Nat := 73
def zd_73 : List zm_E := [(0, .aload_n 0, 1, 0, 0, 0, 0, 0, []),
  (1, .iconst 0, 1, 0, 0, 0, 0, 0, []),
  (2, .putfield 71, 3, 8, 8, 0, 0, 0, []),
  (5, .aload_n 0, 1, 0, 0, 0, 0, 0, []),
  (6, .getfield 7, 3, 8, 0, 1, 0, 0, []),
  (9, .iconst 0, 1, 0, 0, 0, 0, 0, []),
  (10, .iaload, 1, 0, 0, 0, 0, 0, []),
  (11, .istore_n 1, 1, 1, 0, 0, 0, 0, []),
  (12, .iload_n 1, 1, 1, 0, 0, 0, 0, []),
  (13, .bipush 7, 2, 0, 0, 0, 7, 0, []),
  (15, .if_icmp .ne 9, 3, 15, 0, 0, 0, 0, []),
  (18, .aload_n 0, 1, 0, 0, 0, 0, 0, []),
  (19, .iconst 1, 1, 0, 0, 0, 1, 0, []),
  (20, .invokevirtual 119, 3, 43, 1, 1, 0, 0, [8]),
  (23, .ireturn, 1, 0, 0, 0, 0, 0, []),
  (24, .aload_n 0, 1, 0, 0, 0, 0, 0, []),
  (25, .invokevirtual 165, 3, 46, 0, 0, 0, 0, [8]),
  (28, .iconst 0, 1, 0, 0, 0, 0, 0, []),
  (29, .istore_n 2, 1, 2, 0, 0, 0, 0, []),
  (30, .iload_n 2, 1, 2, 0, 0, 0, 0, []),
  (31, .iload_n 1, 1, 1, 0, 0, 0, 0, []),
  (32, .if_icmp .ge 39, 3, 46, 0, 0, 0, 0, []),
  (35, .aload_n 0, 1, 0, 0, 0, 0, 0, []),
  (36, .getfield 7, 3, 8, 0, 1, 0, 0, []),
  (39, .bipush 9, 2, 0, 0, 0, 9, 0, []),
  (41, .bipush 7, 2, 0, 0, 0, 7, 0, []),
  (43, .iload_n 1, 1, 1, 0, 0, 0, 0, []),
  (44, .imul, 1, 0, 0, 0, 0, 0, []),
  (45, .iadd, 1, 0, 0, 0, 0, 0, []),
  (46, .iload_n 2, 1, 2, 0, 0, 0, 0, []),
  (47, .iadd, 1, 0, 0, 0, 0, 0, []),
  (48, .iconst 5, 1, 0, 0, 0, 5, 0, []),
  (49, .iastore, 1, 0, 0, 0, 0, 0, []),
  (50, .aload_n 0, 1, 0, 0, 0, 0, 0, []),
  (51, .getfield 7, 3, 8, 0, 1, 0, 0, []),
  (54, .bipush 9, 2, 0, 0, 0, 9, 0, []),
  (56, .bipush 7, 2, 0, 0, 0, 7, 0, []),
  (58, .iload_n 2, 1, 2, 0, 0, 0, 0, []),
  (59, .imul, 1, 0, 0, 0, 0, 0, []),
  (60, .iadd, 1, 0, 0, 0, 0, 0, []),
  (61, .iload_n 1, 1, 1, 0, 0, 0, 0, []),
  (62, .iadd, 1, 0, 0, 0, 0, 0, []),
  (63, .iconst 5, 1, 0, 0, 0, 5, 0, []),
  (64, .iastore, 1, 0, 0, 0, 0, 0, []),
  (65, .iinc 2 1, 3, 2, 0, 0, 1, 0, []),
  (68, .goto (-38), 3, 19, 0, 0, 0, 0, []),
  (71, .aload_n 0, 1, 0, 0, 0, 0, 0, []),
  (72, .getfield 7, 3, 8, 0, 1, 0, 0, []),
  (75, .bipush 9, 2, 0, 0, 0, 9, 0, []),
  (77, .bipush 7, 2, 0, 0, 0, 7, 0, []),
  (79, .iload_n 1, 1, 1, 0, 0, 0, 0, []),
  (80, .imul, 1, 0, 0, 0, 0, 0, []),
  (81, .iadd, 1, 0, 0, 0, 0, 0, []),
  (82, .iload_n 1, 1, 1, 0, 0, 0, 0, []),
  (83, .iadd, 1, 0, 0, 0, 0, 0, []),
  (84, .bipush 6, 2, 0, 0, 0, 6, 0, []),
  (86, .iastore, 1, 0, 0, 0, 0, 0, []),
  (87, .aload_n 0, 1, 0, 0, 0, 0, 0, []),
  (88, .getfield 7, 3, 8, 0, 1, 0, 0, []),
  (91, .iconst 2, 1, 0, 0, 0, 2, 0, []),
  (92, .iload_n 1, 1, 1, 0, 0, 0, 0, []),
  (93, .iadd, 1, 0, 0, 0, 0, 0, []),
  (94, .iload_n 1, 1, 1, 0, 0, 0, 0, []),
  (95, .iastore, 1, 0, 0, 0, 0, 0, []),
  (96, .aload_n 0, 1, 0, 0, 0, 0, 0, []),
  (97, .getfield 7, 3, 8, 0, 1, 0, 0, []),
  (100, .iconst 0, 1, 0, 0, 0, 0, 0, []),
  (101, .dup2, 1, 0, 0, 0, 0, 0, []),
  (102, .iaload, 1, 0, 0, 0, 0, 0, []),
  (103, .iconst 1, 1, 0, 0, 0, 1, 0, []),
  (104, .iadd, 1, 0, 0, 0, 0, 0, []),
  (105, .iastore, 1, 0, 0, 0, 0, 0, []),
  (106, .iload_n 1, 1, 1, 0, 0, 0, 0, []),
  (107, .ireturn, 1, 0, 0, 0, 0, 0, [])]
def zp_73 : List (List Nat) := [[], [], [954], [], [946], [], [], [], [], [], [], [], [], [1040, 1042, 23, 70, 1043], [], [], [1155, 1157, 40, 70, 1158], [], [], [], [], [], [], [946], [], [], [], [], [], [], [], [], [], [], [946], [], [], [], [], [], [], [], [], [], [], [], [], [946], [], [], [], [], [], [], [], [], [], [], [946], [], [], [], [], [], [], [946], [], [], [], [], [], [], [], []]
abbrev jX8_ranks : Nat := 74
def zd_74 : List zm_E := [(0, .aload_n 0, 1, 0, 0, 0, 0, 0, []),
  (1, .iload_n 1, 1, 1, 0, 0, 0, 0, []),
  (2, .iload_n 2, 1, 2, 0, 0, 0, 0, []),
  (3, .invokevirtual 93, 3, 49, 2, 1, 0, 0, [8]),
  (6, .istore 4, 2, 4, 0, 0, 0, 0, []),
  (8, .aload_n 0, 1, 0, 0, 0, 0, 0, []),
  (9, .getfield 7, 3, 8, 0, 1, 0, 0, []),
  (12, .bipush 9, 2, 0, 0, 0, 9, 0, []),
  (14, .bipush 7, 2, 0, 0, 0, 7, 0, []),
  (16, .iload_n 1, 1, 1, 0, 0, 0, 0, []),
  (17, .imul, 1, 0, 0, 0, 0, 0, []),
  (18, .iadd, 1, 0, 0, 0, 0, 0, []),
  (19, .iload_n 2, 1, 2, 0, 0, 0, 0, []),
  (20, .iadd, 1, 0, 0, 0, 0, 0, []),
  (21, .iload_n 3, 1, 3, 0, 0, 0, 0, []),
  (22, .iastore, 1, 0, 0, 0, 0, 0, []),
  (23, .iload 4, 2, 4, 0, 0, 0, 0, []),
  (25, .ireturn, 1, 0, 0, 0, 0, 0, [])]
def zp_74 : List (List Nat) := [[], [], [], [1102, 1104, 33, 70, 1105], [], [], [946], [], [], [], [], [], [], [], [], [], [], []]
abbrev jX8_setRank : Nat := 75
def zd_75 : List zm_E := [(0, .aload_n 0, 1, 0, 0, 0, 0, 0, []),
  (1, .iconst 0, 1, 0, 0, 0, 0, 0, []),
  (2, .putfield 71, 3, 8, 8, 0, 0, 0, []),
  (5, .aload_n 0, 1, 0, 0, 0, 0, 0, []),
  (6, .iload_n 1, 1, 1, 0, 0, 0, 0, []),
  (7, .invokevirtual 157, 3, 47, 1, 1, 0, 0, [8]),
  (10, .ifCond .eq 11, 3, 11, 0, 0, 0, 0, []),
  (13, .aload_n 0, 1, 0, 0, 0, 0, 0, []),
  (14, .iload_n 2, 1, 2, 0, 0, 0, 0, []),
  (15, .invokevirtual 157, 3, 47, 1, 1, 0, 0, [8]),
  (18, .ifCond .ne 9, 3, 15, 0, 0, 0, 0, []),
  (21, .aload_n 0, 1, 0, 0, 0, 0, 0, []),
  (22, .iconst 1, 1, 0, 0, 0, 1, 0, []),
  (23, .invokevirtual 119, 3, 43, 1, 1, 0, 0, [8]),
  (26, .ireturn, 1, 0, 0, 0, 0, 0, []),
  (27, .iload_n 3, 1, 3, 0, 0, 0, 0, []),
  (28, .i2l, 1, 0, 0, 0, 0, 0, []),
  (29, .lconst 0, 1, 0, 0, 0, 0, 0, []),
  (30, .ldc2_w 168, 3, 0, 0, 0, 0, 9, []),
  (33, .invokestatic 78, 3, 40, 3, 1, 0, 0, []),
  (36, .ifCond .ne 9, 3, 25, 0, 0, 0, 0, []),
  (39, .aload_n 0, 1, 0, 0, 0, 0, 0, []),
  (40, .iconst 2, 1, 0, 0, 0, 2, 0, []),
  (41, .invokevirtual 119, 3, 43, 1, 1, 0, 0, [8]),
  (44, .ireturn, 1, 0, 0, 0, 0, 0, []),
  (45, .aload_n 0, 1, 0, 0, 0, 0, 0, []),
  (46, .invokevirtual 165, 3, 46, 0, 0, 0, 0, [8]),
  (49, .aload_n 0, 1, 0, 0, 0, 0, 0, []),
  (50, .iload_n 1, 1, 1, 0, 0, 0, 0, []),
  (51, .iload_n 2, 1, 2, 0, 0, 0, 0, []),
  (52, .iload_n 3, 1, 3, 0, 0, 0, 0, []),
  (53, .invokevirtual 170, 3, 74, 3, 1, 0, 0, [8]),
  (56, .ireturn, 1, 0, 0, 0, 0, 0, [])]
def zp_75 : List (List Nat) := [[], [], [954], [], [], [1126, 1128, 38, 70, 1129], [], [], [], [1126, 1128, 38, 70, 1129], [], [], [], [1040, 1042, 23, 70, 1043], [], [], [], [], [1163], [1037, 1038, 70, 1039], [], [], [], [1040, 1042, 23, 70, 1043], [], [], [1155, 1157, 40, 70, 1158], [], [], [], [], [1164, 1166, 41, 70, 1167], []]
abbrev jX8_exchanges : Nat := 76
def zd_76 : List zm_E := [(0, .aload_n 0, 1, 0, 0, 0, 0, 0, []),
  (1, .iload_n 1, 1, 1, 0, 0, 0, 0, []),
  (2, .invokevirtual 90, 3, 50, 1, 1, 0, 0, [8]),
  (5, .istore_n 3, 1, 3, 0, 0, 0, 0, []),
  (6, .aload_n 0, 1, 0, 0, 0, 0, 0, []),
  (7, .getfield 7, 3, 8, 0, 1, 0, 0, []),
  (10, .iconst 2, 1, 0, 0, 0, 2, 0, []),
  (11, .iload_n 1, 1, 1, 0, 0, 0, 0, []),
  (12, .iadd, 1, 0, 0, 0, 0, 0, []),
  (13, .aload_n 0, 1, 0, 0, 0, 0, 0, []),
  (14, .iload_n 2, 1, 2, 0, 0, 0, 0, []),
  (15, .invokevirtual 90, 3, 50, 1, 1, 0, 0, [8]),
  (18, .iastore, 1, 0, 0, 0, 0, 0, []),
  (19, .aload_n 0, 1, 0, 0, 0, 0, 0, []),
  (20, .getfield 7, 3, 8, 0, 1, 0, 0, []),
  (23, .iconst 2, 1, 0, 0, 0, 2, 0, []),
  (24, .iload_n 2, 1, 2, 0, 0, 0, 0, []),
  (25, .iadd, 1, 0, 0, 0, 0, 0, []),
  (26, .iload_n 3, 1, 3, 0, 0, 0, 0, []),
  (27, .iastore, 1, 0, 0, 0, 0, 0, []),
  (28, .aload_n 0, 1, 0, 0, 0, 0, 0, []),
  (29, .iload_n 1, 1, 1, 0, 0, 0, 0, []),
  (30, .invokevirtual 90, 3, 50, 1, 1, 0, 0, [8]),
  (33, .ireturn, 1, 0, 0, 0, 0, 0, [])]
def zp_76 : List (List Nat) := [[], [], [1098, 1100, 32, 70, 1101], [], [], [946], [], [], [], [], [], [1098, 1100, 32, 70, 1101], [], [], [946], [], [], [], [], [], [], [], [1098, 1100, 32, 70, 1101], []]
abbrev jX8_exchange : Nat := 77
def zd_77 : List zm_E := [(0, .aload_n 0, 1, 0, 0, 0, 0, 0, []),
  (1, .iconst 0, 1, 0, 0, 0, 0, 0, []),
  (2, .putfield 71, 3, 8, 8, 0, 0, 0, []),
  (5, .aload_n 0, 1, 0, 0, 0, 0, 0, []),
  (6, .iload_n 1, 1, 1, 0, 0, 0, 0, []),
  (7, .invokevirtual 157, 3, 47, 1, 1, 0, 0, [8]),
  (10, .ifCond .eq 11, 3, 11, 0, 0, 0, 0, []),
  (13, .aload_n 0, 1, 0, 0, 0, 0, 0, []),
  (14, .iload_n 2, 1, 2, 0, 0, 0, 0, []),
  (15, .invokevirtual 157, 3, 47, 1, 1, 0, 0, [8]),
  (18, .ifCond .ne 9, 3, 15, 0, 0, 0, 0, []),
  (21, .aload_n 0, 1, 0, 0, 0, 0, 0, []),
  (22, .iconst 1, 1, 0, 0, 0, 1, 0, []),
  (23, .invokevirtual 119, 3, 43, 1, 1, 0, 0, [8]),
  (26, .ireturn, 1, 0, 0, 0, 0, 0, []),
  (27, .aload_n 0, 1, 0, 0, 0, 0, 0, []),
  (28, .iload_n 1, 1, 1, 0, 0, 0, 0, []),
  (29, .iload_n 2, 1, 2, 0, 0, 0, 0, []),
  (30, .invokevirtual 162, 3, 71, 2, 1, 0, 0, [8]),
  (33, .ifCond .eq 9, 3, 24, 0, 0, 0, 0, []),
  (36, .aload_n 0, 1, 0, 0, 0, 0, 0, []),
  (37, .iconst 2, 1, 0, 0, 0, 2, 0, []),
  (38, .invokevirtual 119, 3, 43, 1, 1, 0, 0, [8]),
  (41, .ireturn, 1, 0, 0, 0, 0, 0, []),
  (42, .aload_n 0, 1, 0, 0, 0, 0, 0, []),
  (43, .invokevirtual 165, 3, 46, 0, 0, 0, 0, [8]),
  (46, .aload_n 0, 1, 0, 0, 0, 0, 0, []),
  (47, .iload_n 1, 1, 1, 0, 0, 0, 0, []),
  (48, .iload_n 2, 1, 2, 0, 0, 0, 0, []),
  (49, .invokevirtual 174, 3, 76, 2, 1, 0, 0, [8]),
  (52, .ireturn, 1, 0, 0, 0, 0, 0, [])]
def zp_77 : List (List Nat) := [[], [], [954], [], [], [1126, 1128, 38, 70, 1129], [], [], [], [1126, 1128, 38, 70, 1129], [], [], [], [1040, 1042, 23, 70, 1043], [], [], [], [], [1147, 1149, 39, 70, 1150], [], [], [], [1040, 1042, 23, 70, 1043], [], [], [1155, 1157, 40, 70, 1158], [], [], [], [1172, 1174, 42, 70, 1175], []]
abbrev jX8_takes : Nat := 78
def zd_78 : List zm_E := [(0, .iconst 0, 1, 0, 0, 0, 0, 0, []),
  (1, .istore_n 2, 1, 2, 0, 0, 0, 0, []),
  (2, .iconst 0, 1, 0, 0, 0, 0, 0, []),
  (3, .istore_n 3, 1, 3, 0, 0, 0, 0, []),
  (4, .iload_n 3, 1, 3, 0, 0, 0, 0, []),
  (5, .aload_n 0, 1, 0, 0, 0, 0, 0, []),
  (6, .getfield 7, 3, 8, 0, 1, 0, 0, []),
  (9, .iconst 0, 1, 0, 0, 0, 0, 0, []),
  (10, .iaload, 1, 0, 0, 0, 0, 0, []),
  (11, .if_icmp .ge 53, 3, 40, 0, 0, 0, 0, []),
  (14, .iload_n 1, 1, 1, 0, 0, 0, 0, []),
  (15, .iload_n 3, 1, 3, 0, 0, 0, 0, []),
  (16, .invokestatic 82, 3, 41, 2, 1, 0, 0, []),
  (19, .ifCond .eq 39, 3, 38, 0, 0, 0, 0, []),
  (22, .iload_n 2, 1, 2, 0, 0, 0, 0, []),
  (23, .aload_n 0, 1, 0, 0, 0, 0, 0, []),
  (24, .iload_n 3, 1, 3, 0, 0, 0, 0, []),
  (25, .invokevirtual 90, 3, 50, 1, 1, 0, 0, [8]),
  (28, .aload_n 0, 1, 0, 0, 0, 0, 0, []),
  (29, .getfield 29, 3, 8, 9, 1, 0, 0, []),
  (32, .iload_n 3, 1, 3, 0, 0, 0, 0, []),
  (33, .iaload, 1, 0, 0, 0, 0, 0, []),
  (34, .if_icmp .eq 7, 3, 25, 0, 0, 0, 0, []),
  (37, .iconst 1, 1, 0, 0, 0, 1, 0, []),
  (38, .goto 4, 3, 26, 0, 0, 0, 0, []),
  (41, .iconst 0, 1, 0, 0, 0, 0, 0, []),
  (42, .iadd, 1, 0, 0, 0, 0, 0, []),
  (43, .istore_n 2, 1, 2, 0, 0, 0, 0, []),
  (44, .aload_n 0, 1, 0, 0, 0, 0, 0, []),
  (45, .getfield 7, 3, 8, 0, 1, 0, 0, []),
  (48, .iconst 2, 1, 0, 0, 0, 2, 0, []),
  (49, .iload_n 3, 1, 3, 0, 0, 0, 0, []),
  (50, .iadd, 1, 0, 0, 0, 0, 0, []),
  (51, .aload_n 0, 1, 0, 0, 0, 0, 0, []),
  (52, .getfield 29, 3, 8, 9, 1, 0, 0, []),
  (55, .iload_n 3, 1, 3, 0, 0, 0, 0, []),
  (56, .iaload, 1, 0, 0, 0, 0, 0, []),
  (57, .iastore, 1, 0, 0, 0, 0, 0, []),
  (58, .iinc 3 1, 3, 3, 0, 0, 1, 0, []),
  (61, .goto (-57), 3, 4, 0, 0, 0, 0, []),
  (64, .iload_n 2, 1, 2, 0, 0, 0, 0, []),
  (65, .ireturn, 1, 0, 0, 0, 0, 0, [])]
def zp_78 : List (List Nat) := [[], [], [], [], [], [], [946], [], [], [], [], [], [1068, 1069, 70, 1070], [], [], [], [], [1098, 1100, 32, 70, 1101], [], [955], [], [], [], [], [], [], [], [], [], [946], [], [], [], [], [955], [], [], [], [], [], [], []]
abbrev jX8_doRing : Nat := 79
def zd_79 : List zm_E := [(0, .aload_n 0, 1, 0, 0, 0, 0, 0, []),
  (1, .iconst 0, 1, 0, 0, 0, 0, 0, []),
  (2, .putfield 71, 3, 8, 8, 0, 0, 0, []),
  (5, .aload_n 0, 1, 0, 0, 0, 0, 0, []),
  (6, .invokevirtual 148, 3, 55, 0, 0, 0, 0, [8]),
  (9, .iload_n 1, 1, 1, 0, 0, 0, 0, []),
  (10, .i2l, 1, 0, 0, 0, 0, 0, []),
  (11, .lconst 0, 1, 0, 0, 0, 0, 0, []),
  (12, .aload_n 0, 1, 0, 0, 0, 0, 0, []),
  (13, .getfield 101, 3, 8, 16, 0, 0, 0, []),
  (16, .iconst 1, 1, 0, 0, 0, 1, 0, []),
  (17, .isub, 1, 0, 0, 0, 0, 0, []),
  (18, .i2l, 1, 0, 0, 0, 0, 0, []),
  (19, .invokestatic 78, 3, 40, 3, 1, 0, 0, []),
  (22, .ifCond .ne 9, 3, 19, 0, 0, 0, 0, []),
  (25, .aload_n 0, 1, 0, 0, 0, 0, 0, []),
  (26, .iconst 1, 1, 0, 0, 0, 1, 0, []),
  (27, .invokevirtual 119, 3, 43, 1, 1, 0, 0, [8]),
  (30, .ireturn, 1, 0, 0, 0, 0, 0, []),
  (31, .aload_n 0, 1, 0, 0, 0, 0, 0, []),
  (32, .invokevirtual 165, 3, 46, 0, 0, 0, 0, [8]),
  (35, .aload_n 0, 1, 0, 0, 0, 0, 0, []),
  (36, .aload_n 0, 1, 0, 0, 0, 0, 0, []),
  (37, .getfield 44, 3, 8, 14, 1, 0, 0, []),
  (40, .iload_n 1, 1, 1, 0, 0, 0, 0, []),
  (41, .iaload, 1, 0, 0, 0, 0, 0, []),
  (42, .invokevirtual 177, 3, 78, 1, 1, 0, 0, [8]),
  (45, .ireturn, 1, 0, 0, 0, 0, 0, [])]
def zp_79 : List (List Nat) := [[], [], [954], [], [1086, 1088, 29, 70, 1089], [], [], [], [], [962], [], [], [], [1037, 1038, 70, 1039], [], [], [], [1040, 1042, 23, 70, 1043], [], [], [1155, 1157, 40, 70, 1158], [], [], [960], [], [], [1180, 1182, 43, 70, 1183], []]
abbrev jX8_trades : Nat := 80
def zd_80 : List zm_E := [(0, .aload_n 0, 1, 0, 0, 0, 0, 0, []),
  (1, .invokevirtual 148, 3, 55, 0, 0, 0, 0, [8]),
  (4, .aload_n 0, 1, 0, 0, 0, 0, 0, []),
  (5, .iconst 1, 1, 0, 0, 0, 1, 0, []),
  (6, .aload_n 0, 1, 0, 0, 0, 0, 0, []),
  (7, .getfield 7, 3, 8, 0, 1, 0, 0, []),
  (10, .iconst 0, 1, 0, 0, 0, 0, 0, []),
  (11, .iaload, 1, 0, 0, 0, 0, 0, []),
  (12, .ishl, 1, 0, 0, 0, 0, 0, []),
  (13, .iconst 1, 1, 0, 0, 0, 1, 0, []),
  (14, .isub, 1, 0, 0, 0, 0, 0, []),
  (15, .aload_n 0, 1, 0, 0, 0, 0, 0, []),
  (16, .getfield 7, 3, 8, 0, 1, 0, 0, []),
  (19, .iconst 1, 1, 0, 0, 0, 1, 0, []),
  (20, .iaload, 1, 0, 0, 0, 0, 0, []),
  (21, .iconst (-1), 1, 0, 0, 0, (-1), 0, []),
  (22, .ixor, 1, 0, 0, 0, 0, 0, []),
  (23, .iand, 1, 0, 0, 0, 0, 0, []),
  (24, .invokevirtual 177, 3, 78, 1, 1, 0, 0, [8]),
  (27, .ireturn, 1, 0, 0, 0, 0, 0, [])]
def zp_80 : List (List Nat) := [[], [1086, 1088, 29, 70, 1089], [], [], [], [946], [], [], [], [], [], [], [946], [], [], [], [], [], [1180, 1182, 43, 70, 1183], []]
abbrev jX8_trade : Nat := 81
def zd_81 : List zm_E := [(0, .aload_n 0, 1, 0, 0, 0, 0, 0, []),
  (1, .iconst 0, 1, 0, 0, 0, 0, 0, []),
  (2, .putfield 71, 3, 8, 8, 0, 0, 0, []),
  (5, .aload_n 0, 1, 0, 0, 0, 0, 0, []),
  (6, .invokevirtual 165, 3, 46, 0, 0, 0, 0, [8]),
  (9, .aload_n 0, 1, 0, 0, 0, 0, 0, []),
  (10, .invokevirtual 180, 3, 80, 0, 1, 0, 0, [8]),
  (13, .ireturn, 1, 0, 0, 0, 0, 0, [])]
def zp_81 : List (List Nat) := [[], [], [954], [], [1155, 1157, 40, 70, 1158], [], [1188, 1190, 44, 70, 1191], []]
abbrev jX8_leave : Nat := 82
def zd_82 : List zm_E := [(0, .aload_n 0, 1, 0, 0, 0, 0, 0, []),
  (1, .iconst 0, 1, 0, 0, 0, 0, 0, []),
  (2, .putfield 71, 3, 8, 8, 0, 0, 0, []),
  (5, .aload_n 0, 1, 0, 0, 0, 0, 0, []),
  (6, .iload_n 1, 1, 1, 0, 0, 0, 0, []),
  (7, .invokevirtual 157, 3, 47, 1, 1, 0, 0, [8]),
  (10, .ifCond .ne 9, 3, 11, 0, 0, 0, 0, []),
  (13, .aload_n 0, 1, 0, 0, 0, 0, 0, []),
  (14, .iconst 1, 1, 0, 0, 0, 1, 0, []),
  (15, .invokevirtual 119, 3, 43, 1, 1, 0, 0, [8]),
  (18, .ireturn, 1, 0, 0, 0, 0, 0, []),
  (19, .aload_n 0, 1, 0, 0, 0, 0, 0, []),
  (20, .iload_n 1, 1, 1, 0, 0, 0, 0, []),
  (21, .invokevirtual 97, 3, 48, 1, 1, 0, 0, [8]),
  (24, .ifCond .ne 9, 3, 19, 0, 0, 0, 0, []),
  (27, .aload_n 0, 1, 0, 0, 0, 0, 0, []),
  (28, .iconst 2, 1, 0, 0, 0, 2, 0, []),
  (29, .invokevirtual 119, 3, 43, 1, 1, 0, 0, [8]),
  (32, .ireturn, 1, 0, 0, 0, 0, 0, []),
  (33, .aload_n 0, 1, 0, 0, 0, 0, 0, []),
  (34, .invokevirtual 165, 3, 46, 0, 0, 0, 0, [8]),
  (37, .aload_n 0, 1, 0, 0, 0, 0, 0, []),
  (38, .getfield 7, 3, 8, 0, 1, 0, 0, []),
  (41, .iconst 1, 1, 0, 0, 0, 1, 0, []),
  (42, .dup2, 1, 0, 0, 0, 0, 0, []),
  (43, .iaload, 1, 0, 0, 0, 0, 0, []),
  (44, .iconst 1, 1, 0, 0, 0, 1, 0, []),
  (45, .iload_n 1, 1, 1, 0, 0, 0, 0, []),
  (46, .ishl, 1, 0, 0, 0, 0, 0, []),
  (47, .ior, 1, 0, 0, 0, 0, 0, []),
  (48, .iastore, 1, 0, 0, 0, 0, 0, []),
  (49, .aload_n 0, 1, 0, 0, 0, 0, 0, []),
  (50, .invokevirtual 144, 3, 51, 0, 1, 0, 0, [8]),
  (53, .ireturn, 1, 0, 0, 0, 0, 0, [])]
def zp_82 : List (List Nat) := [[], [], [954], [], [], [1126, 1128, 38, 70, 1129], [], [], [], [1040, 1042, 23, 70, 1043], [], [], [], [1090, 1092, 30, 70, 1093], [], [], [], [1040, 1042, 23, 70, 1043], [], [], [1155, 1157, 40, 70, 1158], [], [946], [], [], [], [], [], [], [], [], [], [1075, 1077, 28, 70, 1078], []]
abbrev jX8_home : Nat := 83
def zd_83 : List zm_E := [(0, .iconst 0, 1, 0, 0, 0, 0, 0, []),
  (1, .istore_n 1, 1, 1, 0, 0, 0, 0, []),
  (2, .iconst 0, 1, 0, 0, 0, 0, 0, []),
  (3, .istore_n 2, 1, 2, 0, 0, 0, 0, []),
  (4, .iload_n 2, 1, 2, 0, 0, 0, 0, []),
  (5, .aload_n 0, 1, 0, 0, 0, 0, 0, []),
  (6, .getfield 7, 3, 8, 0, 1, 0, 0, []),
  (9, .iconst 0, 1, 0, 0, 0, 0, 0, []),
  (10, .iaload, 1, 0, 0, 0, 0, 0, []),
  (11, .if_icmp .ge 35, 3, 30, 0, 0, 0, 0, []),
  (14, .iload_n 1, 1, 1, 0, 0, 0, 0, []),
  (15, .aload_n 0, 1, 0, 0, 0, 0, 0, []),
  (16, .iload_n 2, 1, 2, 0, 0, 0, 0, []),
  (17, .invokevirtual 90, 3, 50, 1, 1, 0, 0, [8]),
  (20, .iload_n 2, 1, 2, 0, 0, 0, 0, []),
  (21, .if_icmp .eq 7, 3, 18, 0, 0, 0, 0, []),
  (24, .iconst 1, 1, 0, 0, 0, 1, 0, []),
  (25, .goto 4, 3, 19, 0, 0, 0, 0, []),
  (28, .iconst 0, 1, 0, 0, 0, 0, 0, []),
  (29, .iadd, 1, 0, 0, 0, 0, 0, []),
  (30, .istore_n 1, 1, 1, 0, 0, 0, 0, []),
  (31, .aload_n 0, 1, 0, 0, 0, 0, 0, []),
  (32, .getfield 7, 3, 8, 0, 1, 0, 0, []),
  (35, .iconst 2, 1, 0, 0, 0, 2, 0, []),
  (36, .iload_n 2, 1, 2, 0, 0, 0, 0, []),
  (37, .iadd, 1, 0, 0, 0, 0, 0, []),
  (38, .iload_n 2, 1, 2, 0, 0, 0, 0, []),
  (39, .iastore, 1, 0, 0, 0, 0, 0, []),
  (40, .iinc 2 1, 3, 2, 0, 0, 1, 0, []),
  (43, .goto (-39), 3, 4, 0, 0, 0, 0, []),
  (46, .aload_n 0, 1, 0, 0, 0, 0, 0, []),
  (47, .getfield 7, 3, 8, 0, 1, 0, 0, []),
  (50, .iconst 1, 1, 0, 0, 0, 1, 0, []),
  (51, .iconst 0, 1, 0, 0, 0, 0, 0, []),
  (52, .iastore, 1, 0, 0, 0, 0, 0, []),
  (53, .iload_n 1, 1, 1, 0, 0, 0, 0, []),
  (54, .ireturn, 1, 0, 0, 0, 0, 0, [])]
def zp_83 : List (List Nat) := [[], [], [], [], [], [], [946], [], [], [], [], [], [], [1098, 1100, 32, 70, 1101], [], [], [], [], [], [], [], [], [946], [], [], [], [], [], [], [], [], [946], [], [], [], [], []]
abbrev jX8_goHome : Nat := 84
def zd_84 : List zm_E := [(0, .aload_n 0, 1, 0, 0, 0, 0, 0, []),
  (1, .iconst 0, 1, 0, 0, 0, 0, 0, []),
  (2, .putfield 71, 3, 8, 8, 0, 0, 0, []),
  (5, .aload_n 0, 1, 0, 0, 0, 0, 0, []),
  (6, .invokevirtual 165, 3, 46, 0, 0, 0, 0, [8]),
  (9, .aload_n 0, 1, 0, 0, 0, 0, 0, []),
  (10, .invokevirtual 183, 3, 83, 0, 1, 0, 0, [8]),
  (13, .ireturn, 1, 0, 0, 0, 0, 0, [])]
def zp_84 : List (List Nat) := [[], [], [954], [], [1155, 1157, 40, 70, 1158], [], [1200, 1202, 45, 70, 1203], []]
abbrev jX8_undo : Nat := 85
def zd_85 : List zm_E := [(0, .aload_n 0, 1, 0, 0, 0, 0, 0, []),
  (1, .iconst 0, 1, 0, 0, 0, 0, 0, []),
  (2, .putfield 71, 3, 8, 8, 0, 0, 0, []),
  (5, .aload_n 0, 1, 0, 0, 0, 0, 0, []),
  (6, .getfield 75, 3, 8, 3, 0, 0, 0, []),
  (9, .ifCond .ne 9, 3, 10, 0, 0, 0, 0, []),
  (12, .aload_n 0, 1, 0, 0, 0, 0, 0, []),
  (13, .iconst 1, 1, 0, 0, 0, 1, 0, []),
  (14, .invokevirtual 119, 3, 43, 1, 1, 0, 0, [8]),
  (17, .ireturn, 1, 0, 0, 0, 0, 0, []),
  (18, .aload_n 0, 1, 0, 0, 0, 0, 0, []),
  (19, .dup, 1, 0, 0, 0, 0, 0, []),
  (20, .getfield 75, 3, 8, 3, 0, 0, 0, []),
  (23, .iconst 1, 1, 0, 0, 0, 1, 0, []),
  (24, .isub, 1, 0, 0, 0, 0, 0, []),
  (25, .putfield 75, 3, 8, 3, 0, 0, 0, []),
  (28, .iconst 0, 1, 0, 0, 0, 0, 0, []),
  (29, .istore_n 1, 1, 1, 0, 0, 0, 0, []),
  (30, .iload_n 1, 1, 1, 0, 0, 0, 0, []),
  (31, .bipush 58, 2, 0, 0, 0, 58, 0, []),
  (33, .if_icmp .ge 29, 3, 36, 0, 0, 0, 0, []),
  (36, .aload_n 0, 1, 0, 0, 0, 0, 0, []),
  (37, .getfield 7, 3, 8, 0, 1, 0, 0, []),
  (40, .iload_n 1, 1, 1, 0, 0, 0, 0, []),
  (41, .aload_n 0, 1, 0, 0, 0, 0, 0, []),
  (42, .getfield 16, 3, 8, 2, 1, 0, 0, []),
  (45, .bipush 58, 2, 0, 0, 0, 58, 0, []),
  (47, .aload_n 0, 1, 0, 0, 0, 0, 0, []),
  (48, .getfield 75, 3, 8, 3, 0, 0, 0, []),
  (51, .imul, 1, 0, 0, 0, 0, 0, []),
  (52, .iload_n 1, 1, 1, 0, 0, 0, 0, []),
  (53, .iadd, 1, 0, 0, 0, 0, 0, []),
  (54, .iaload, 1, 0, 0, 0, 0, 0, []),
  (55, .iastore, 1, 0, 0, 0, 0, 0, []),
  (56, .iinc 1 1, 3, 1, 0, 0, 1, 0, []),
  (59, .goto (-29), 3, 18, 0, 0, 0, 0, []),
  (62, .aload_n 0, 1, 0, 0, 0, 0, 0, []),
  (63, .getfield 75, 3, 8, 3, 0, 0, 0, []),
  (66, .ireturn, 1, 0, 0, 0, 0, 0, [])]
def zp_85 : List (List Nat) := [[], [], [954], [], [949], [], [], [], [1040, 1042, 23, 70, 1043], [], [], [], [949], [], [], [949], [], [], [], [], [], [], [946], [], [], [948], [], [], [949], [], [], [], [], [], [], [], [], [949], []]
abbrev jX8_waysOf : Nat := 86
def zd_86 : List zm_E := [(0, .aload_n 0, 1, 0, 0, 0, 0, 0, []),
  (1, .getfield 53, 3, 8, 21, 1, 0, 0, []),
  (4, .iconst 0, 1, 0, 0, 0, 0, 0, []),
  (5, .iconst 1, 1, 0, 0, 0, 1, 0, []),
  (6, .iastore, 1, 0, 0, 0, 0, 0, []),
  (7, .iconst 1, 1, 0, 0, 0, 1, 0, []),
  (8, .istore 4, 2, 4, 0, 0, 0, 0, []),
  (10, .iload 4, 2, 4, 0, 0, 0, 0, []),
  (12, .sipush 128, 3, 0, 0, 0, 128, 0, []),
  (15, .if_icmp .ge 17, 3, 17, 0, 0, 0, 0, []),
  (18, .aload_n 0, 1, 0, 0, 0, 0, 0, []),
  (19, .getfield 53, 3, 8, 21, 1, 0, 0, []),
  (22, .iload 4, 2, 4, 0, 0, 0, 0, []),
  (24, .iconst 0, 1, 0, 0, 0, 0, 0, []),
  (25, .iastore, 1, 0, 0, 0, 0, 0, []),
  (26, .iinc 4 1, 3, 4, 0, 0, 1, 0, []),
  (29, .goto (-19), 3, 7, 0, 0, 0, 0, []),
  (32, .iconst 0, 1, 0, 0, 0, 0, 0, []),
  (33, .istore 4, 2, 4, 0, 0, 0, 0, []),
  (35, .iconst 0, 1, 0, 0, 0, 0, 0, []),
  (36, .istore 5, 2, 5, 0, 0, 0, 0, []),
  (38, .iload 5, 2, 5, 0, 0, 0, 0, []),
  (40, .aload_n 0, 1, 0, 0, 0, 0, 0, []),
  (41, .getfield 7, 3, 8, 0, 1, 0, 0, []),
  (44, .iconst 0, 1, 0, 0, 0, 0, 0, []),
  (45, .iaload, 1, 0, 0, 0, 0, 0, []),
  (46, .if_icmp .ge 31, 3, 40, 0, 0, 0, 0, []),
  (49, .iload_n 1, 1, 1, 0, 0, 0, 0, []),
  (50, .iload 5, 2, 5, 0, 0, 0, 0, []),
  (52, .invokestatic 82, 3, 41, 2, 1, 0, 0, []),
  (55, .ifCond .eq 16, 3, 38, 0, 0, 0, 0, []),
  (58, .aload_n 0, 1, 0, 0, 0, 0, 0, []),
  (59, .iload 5, 2, 5, 0, 0, 0, 0, []),
  (61, .iload_n 2, 1, 2, 0, 0, 0, 0, []),
  (62, .iload_n 3, 1, 3, 0, 0, 0, 0, []),
  (63, .iload 4, 2, 4, 0, 0, 0, 0, []),
  (65, .invokevirtual 186, 3, 87, 4, 0, 0, 0, [8]),
  (68, .iinc 4 1, 3, 4, 0, 0, 1, 0, []),
  (71, .iinc 5 1, 3, 5, 0, 0, 1, 0, []),
  (74, .goto (-36), 3, 21, 0, 0, 0, 0, []),
  (77, .aload_n 0, 1, 0, 0, 0, 0, 0, []),
  (78, .getfield 53, 3, 8, 21, 1, 0, 0, []),
  (81, .iload_n 2, 1, 2, 0, 0, 0, 0, []),
  (82, .iaload, 1, 0, 0, 0, 0, 0, []),
  (83, .ireturn, 1, 0, 0, 0, 0, 0, [])]
def zp_86 : List (List Nat) := [[], [967], [], [], [], [], [], [], [], [], [], [967], [], [], [], [], [], [], [], [], [], [], [], [946], [], [], [], [], [], [1068, 1069, 70, 1070], [], [], [], [], [], [], [1220, 1222, 48, 70, 1223], [], [], [], [], [967], [], [], []]
abbrev jX8_spread : Nat := 87
def zd_87 : List zm_E := [(0, .bipush 127, 2, 0, 0, 0, 127, 0, []),
  (2, .istore 5, 2, 5, 0, 0, 0, 0, []),
  (4, .iload 5, 2, 5, 0, 0, 0, 0, []),
  (6, .ifCond .lt 170, 3, 93, 0, 0, 0, 0, []),
  (9, .iload 5, 2, 5, 0, 0, 0, 0, []),
  (11, .iload_n 2, 1, 2, 0, 0, 0, 0, []),
  (12, .iconst (-1), 1, 0, 0, 0, (-1), 0, []),
  (13, .ixor, 1, 0, 0, 0, 0, 0, []),
  (14, .iand, 1, 0, 0, 0, 0, 0, []),
  (15, .ifCond .ne 155, 3, 91, 0, 0, 0, 0, []),
  (18, .iload 5, 2, 5, 0, 0, 0, 0, []),
  (20, .invokestatic 86, 3, 42, 1, 1, 0, 0, []),
  (23, .iload 4, 2, 4, 0, 0, 0, 0, []),
  (25, .if_icmp .ne 145, 3, 91, 0, 0, 0, 0, []),
  (28, .aload_n 0, 1, 0, 0, 0, 0, 0, []),
  (29, .getfield 53, 3, 8, 21, 1, 0, 0, []),
  (32, .iload 5, 2, 5, 0, 0, 0, 0, []),
  (34, .iaload, 1, 0, 0, 0, 0, 0, []),
  (35, .ifCond .le 135, 3, 91, 0, 0, 0, 0, []),
  (38, .iconst 0, 1, 0, 0, 0, 0, 0, []),
  (39, .istore 6, 2, 6, 0, 0, 0, 0, []),
  (41, .iload 6, 2, 6, 0, 0, 0, 0, []),
  (43, .aload_n 0, 1, 0, 0, 0, 0, 0, []),
  (44, .getfield 7, 3, 8, 0, 1, 0, 0, []),
  (47, .iconst 0, 1, 0, 0, 0, 0, 0, []),
  (48, .iaload, 1, 0, 0, 0, 0, 0, []),
  (49, .if_icmp .ge 121, 3, 91, 0, 0, 0, 0, []),
  (52, .aload_n 0, 1, 0, 0, 0, 0, 0, []),
  (53, .iload_n 1, 1, 1, 0, 0, 0, 0, []),
  (54, .iload 6, 2, 6, 0, 0, 0, 0, []),
  (56, .invokevirtual 93, 3, 49, 2, 1, 0, 0, [8]),
  (59, .aload_n 0, 1, 0, 0, 0, 0, 0, []),
  (60, .iload_n 1, 1, 1, 0, 0, 0, 0, []),
  (61, .aload_n 0, 1, 0, 0, 0, 0, 0, []),
  (62, .iload_n 1, 1, 1, 0, 0, 0, 0, []),
  (63, .invokevirtual 90, 3, 50, 1, 1, 0, 0, [8]),
  (66, .invokevirtual 93, 3, 49, 2, 1, 0, 0, [8]),
  (69, .isub, 1, 0, 0, 0, 0, 0, []),
  (70, .istore 7, 2, 7, 0, 0, 0, 0, []),
  (72, .iload_n 3, 1, 3, 0, 0, 0, 0, []),
  (73, .ifCond .ne 16, 3, 47, 0, 0, 0, 0, []),
  (76, .iload 7, 2, 7, 0, 0, 0, 0, []),
  (78, .ifCond .gt 7, 3, 45, 0, 0, 0, 0, []),
  (81, .iconst 1, 1, 0, 0, 0, 1, 0, []),
  (82, .goto 35, 3, 61, 0, 0, 0, 0, []),
  (85, .iconst 0, 1, 0, 0, 0, 0, 0, []),
  (86, .goto 31, 3, 61, 0, 0, 0, 0, []),
  (89, .iload_n 3, 1, 3, 0, 0, 0, 0, []),
  (90, .iconst 1, 1, 0, 0, 0, 1, 0, []),
  (91, .if_icmp .ne 16, 3, 56, 0, 0, 0, 0, []),
  (94, .iload 7, 2, 7, 0, 0, 0, 0, []),
  (96, .ifCond .ne 7, 3, 54, 0, 0, 0, 0, []),
  (99, .iconst 1, 1, 0, 0, 0, 1, 0, []),
  (100, .goto 17, 3, 61, 0, 0, 0, 0, []),
  (103, .iconst 0, 1, 0, 0, 0, 0, 0, []),
  (104, .goto 13, 3, 61, 0, 0, 0, 0, []),
  (107, .iload 7, 2, 7, 0, 0, 0, 0, []),
  (109, .ifCond .ge 7, 3, 60, 0, 0, 0, 0, []),
  (112, .iconst 1, 1, 0, 0, 0, 1, 0, []),
  (113, .goto 4, 3, 61, 0, 0, 0, 0, []),
  (116, .iconst 0, 1, 0, 0, 0, 0, 0, []),
  (117, .istore 8, 2, 8, 0, 0, 0, 0, []),
  (119, .aload_n 0, 1, 0, 0, 0, 0, 0, []),
  (120, .getfield 53, 3, 8, 21, 1, 0, 0, []),
  (123, .iload 5, 2, 5, 0, 0, 0, 0, []),
  (125, .iconst 1, 1, 0, 0, 0, 1, 0, []),
  (126, .iload 6, 2, 6, 0, 0, 0, 0, []),
  (128, .ishl, 1, 0, 0, 0, 0, 0, []),
  (129, .ior, 1, 0, 0, 0, 0, 0, []),
  (130, .dup2, 1, 0, 0, 0, 0, 0, []),
  (131, .iaload, 1, 0, 0, 0, 0, 0, []),
  (132, .iload 8, 2, 8, 0, 0, 0, 0, []),
  (134, .ifCond .eq 27, 3, 86, 0, 0, 0, 0, []),
  (137, .iload_n 2, 1, 2, 0, 0, 0, 0, []),
  (138, .iload 5, 2, 5, 0, 0, 0, 0, []),
  (140, .iconst (-1), 1, 0, 0, 0, (-1), 0, []),
  (141, .ixor, 1, 0, 0, 0, 0, 0, []),
  (142, .iand, 1, 0, 0, 0, 0, 0, []),
  (143, .iload 6, 2, 6, 0, 0, 0, 0, []),
  (145, .invokestatic 82, 3, 41, 2, 1, 0, 0, []),
  (148, .ifCond .eq 13, 3, 86, 0, 0, 0, 0, []),
  (151, .aload_n 0, 1, 0, 0, 0, 0, 0, []),
  (152, .getfield 53, 3, 8, 21, 1, 0, 0, []),
  (155, .iload 5, 2, 5, 0, 0, 0, 0, []),
  (157, .iaload, 1, 0, 0, 0, 0, 0, []),
  (158, .goto 4, 3, 87, 0, 0, 0, 0, []),
  (161, .iconst 0, 1, 0, 0, 0, 0, 0, []),
  (162, .iadd, 1, 0, 0, 0, 0, 0, []),
  (163, .iastore, 1, 0, 0, 0, 0, 0, []),
  (164, .iinc 6 1, 3, 6, 0, 0, 1, 0, []),
  (167, .goto (-126), 3, 21, 0, 0, 0, 0, []),
  (170, .iinc 5 (-1), 3, 5, 0, 0, (-1), 0, []),
  (173, .goto (-169), 3, 2, 0, 0, 0, 0, []),
  (176, .return_, 1, 0, 0, 0, 0, 0, [])]
def zp_87 : List (List Nat) := [[], [], [], [], [], [], [], [], [], [], [], [1079, 1080, 70, 1081], [], [], [], [967], [], [], [], [], [], [], [], [946], [], [], [], [], [], [], [1102, 1104, 33, 70, 1105], [], [], [], [], [1098, 1100, 32, 70, 1101], [1102, 1104, 33, 70, 1105], [], [], [], [], [], [], [], [], [], [], [], [], [], [], [], [], [], [], [], [], [], [], [], [], [], [], [967], [], [], [], [], [], [], [], [], [], [], [], [], [], [], [], [1068, 1069, 70, 1070], [], [], [967], [], [], [], [], [], [], [], [], [], [], []]
abbrev jX8_couldDo : Nat := 88
def zd_88 : List zm_E := [(0, .iload_n 2, 1, 2, 0, 0, 0, 0, []),
  (1, .ifCond .eq 21, 3, 12, 0, 0, 0, 0, []),
  (4, .aload_n 0, 1, 0, 0, 0, 0, 0, []),
  (5, .iload_n 1, 1, 1, 0, 0, 0, 0, []),
  (6, .iload_n 1, 1, 1, 0, 0, 0, 0, []),
  (7, .iconst 2, 1, 0, 0, 0, 2, 0, []),
  (8, .invokevirtual 190, 3, 86, 3, 1, 0, 0, [8]),
  (11, .ifCond .le 7, 3, 10, 0, 0, 0, 0, []),
  (14, .iconst 1, 1, 0, 0, 0, 1, 0, []),
  (15, .goto 29, 3, 26, 0, 0, 0, 0, []),
  (18, .iconst 0, 1, 0, 0, 0, 0, 0, []),
  (19, .goto 25, 3, 26, 0, 0, 0, 0, []),
  (22, .aload_n 0, 1, 0, 0, 0, 0, 0, []),
  (23, .iload_n 1, 1, 1, 0, 0, 0, 0, []),
  (24, .iload_n 1, 1, 1, 0, 0, 0, 0, []),
  (25, .iconst 0, 1, 0, 0, 0, 0, 0, []),
  (26, .invokevirtual 190, 3, 86, 3, 1, 0, 0, [8]),
  (29, .aload_n 0, 1, 0, 0, 0, 0, 0, []),
  (30, .iload_n 1, 1, 1, 0, 0, 0, 0, []),
  (31, .iload_n 1, 1, 1, 0, 0, 0, 0, []),
  (32, .iconst 1, 1, 0, 0, 0, 1, 0, []),
  (33, .invokevirtual 190, 3, 86, 3, 1, 0, 0, [8]),
  (36, .if_icmp .le 7, 3, 25, 0, 0, 0, 0, []),
  (39, .iconst 1, 1, 0, 0, 0, 1, 0, []),
  (40, .goto 4, 3, 26, 0, 0, 0, 0, []),
  (43, .iconst 0, 1, 0, 0, 0, 0, 0, []),
  (44, .ireturn, 1, 1, 0, 0, 0, 0, [])]
def zp_88 : List (List Nat) := [[], [], [], [], [], [], [1216, 1218, 47, 70, 1219], [], [], [], [], [], [], [], [], [], [1216, 1218, 47, 70, 1219], [], [], [], [], [1216, 1218, 47, 70, 1219], [], [], [], [], []]
abbrev jX8_group : Nat := 89
def zd_89 : List zm_E := [(0, .aload_n 0, 1, 0, 0, 0, 0, 0, []),
  (1, .iconst 0, 1, 0, 0, 0, 0, 0, []),
  (2, .putfield 71, 3, 8, 8, 0, 0, 0, []),
  (5, .bipush (-9), 2, 0, 0, 0, (-9), 0, []),
  (7, .istore_n 2, 1, 2, 0, 0, 0, 0, []),
  (8, .iconst 1, 1, 0, 0, 0, 1, 0, []),
  (9, .istore_n 3, 1, 3, 0, 0, 0, 0, []),
  (10, .iload_n 3, 1, 3, 0, 0, 0, 0, []),
  (11, .iconst 1, 1, 0, 0, 0, 1, 0, []),
  (12, .aload_n 0, 1, 0, 0, 0, 0, 0, []),
  (13, .getfield 7, 3, 8, 0, 1, 0, 0, []),
  (16, .iconst 0, 1, 0, 0, 0, 0, 0, []),
  (17, .iaload, 1, 0, 0, 0, 0, 0, []),
  (18, .ishl, 1, 0, 0, 0, 0, 0, []),
  (19, .if_icmp .ge 39, 3, 33, 0, 0, 0, 0, []),
  (22, .iload_n 2, 1, 2, 0, 0, 0, 0, []),
  (23, .ifCond .lt 14, 3, 22, 0, 0, 0, 0, []),
  (26, .iload_n 3, 1, 3, 0, 0, 0, 0, []),
  (27, .invokestatic 86, 3, 42, 1, 1, 0, 0, []),
  (30, .iload_n 2, 1, 2, 0, 0, 0, 0, []),
  (31, .invokestatic 86, 3, 42, 1, 1, 0, 0, []),
  (34, .if_icmp .ge 16, 3, 29, 0, 0, 0, 0, []),
  (37, .aload_n 0, 1, 0, 0, 0, 0, 0, []),
  (38, .iload_n 3, 1, 3, 0, 0, 0, 0, []),
  (39, .iload_n 1, 1, 1, 0, 0, 0, 0, []),
  (40, .invokevirtual 193, 3, 88, 2, 1, 0, 0, [8]),
  (43, .ifCond .eq 7, 3, 29, 0, 0, 0, 0, []),
  (46, .iload_n 3, 1, 3, 0, 0, 0, 0, []),
  (47, .goto 4, 3, 30, 0, 0, 0, 0, []),
  (50, .iload_n 2, 1, 2, 0, 0, 0, 0, []),
  (51, .istore_n 2, 1, 2, 0, 0, 0, 0, []),
  (52, .iinc 3 1, 3, 3, 0, 0, 1, 0, []),
  (55, .goto (-45), 3, 7, 0, 0, 0, 0, []),
  (58, .iload_n 2, 1, 2, 0, 0, 0, 0, []),
  (59, .ireturn, 1, 0, 0, 0, 0, 0, [])]
def zp_89 : List (List Nat) := [[], [], [954], [], [], [], [], [], [], [], [946], [], [], [], [], [], [], [], [1079, 1080, 70, 1081], [], [1079, 1080, 70, 1081], [], [], [], [], [1212, 1214, 46, 70, 1215], [], [], [], [], [], [], [], [], []]
abbrev jX8_groupMany : Nat := 90
def zd_90 : List zm_E := [(0, .iconst 0, 1, 0, 0, 0, 0, 0, []),
  (1, .istore_n 2, 1, 2, 0, 0, 0, 0, []),
  (2, .iconst 1, 1, 0, 0, 0, 1, 0, []),
  (3, .istore_n 3, 1, 3, 0, 0, 0, 0, []),
  (4, .iload_n 3, 1, 3, 0, 0, 0, 0, []),
  (5, .iconst 1, 1, 0, 0, 0, 1, 0, []),
  (6, .aload_n 0, 1, 0, 0, 0, 0, 0, []),
  (7, .getfield 7, 3, 8, 0, 1, 0, 0, []),
  (10, .iconst 0, 1, 0, 0, 0, 0, 0, []),
  (11, .iaload, 1, 0, 0, 0, 0, 0, []),
  (12, .ishl, 1, 0, 0, 0, 0, 0, []),
  (13, .if_icmp .ge 26, 3, 25, 0, 0, 0, 0, []),
  (16, .iload_n 2, 1, 2, 0, 0, 0, 0, []),
  (17, .aload_n 0, 1, 0, 0, 0, 0, 0, []),
  (18, .iload_n 3, 1, 3, 0, 0, 0, 0, []),
  (19, .iload_n 1, 1, 1, 0, 0, 0, 0, []),
  (20, .invokevirtual 193, 3, 88, 2, 1, 0, 0, [8]),
  (23, .ifCond .eq 7, 3, 20, 0, 0, 0, 0, []),
  (26, .iconst 1, 1, 0, 0, 0, 1, 0, []),
  (27, .goto 4, 3, 21, 0, 0, 0, 0, []),
  (30, .iconst 0, 1, 0, 0, 0, 0, 0, []),
  (31, .iadd, 1, 0, 0, 0, 0, 0, []),
  (32, .istore_n 2, 1, 2, 0, 0, 0, 0, []),
  (33, .iinc 3 1, 3, 3, 0, 0, 1, 0, []),
  (36, .goto (-32), 3, 4, 0, 0, 0, 0, []),
  (39, .iload_n 2, 1, 2, 0, 0, 0, 0, []),
  (40, .ireturn, 1, 0, 0, 0, 0, 0, [])]
def zp_90 : List (List Nat) := [[], [], [], [], [], [], [], [946], [], [], [], [], [], [], [], [], [1212, 1214, 46, 70, 1215], [], [], [], [], [], [], [], [], [], []]
abbrev jX8_groups : Nat := 91
def zd_91 : List zm_E := [(0, .aload_n 0, 1, 0, 0, 0, 0, 0, []),
  (1, .iconst 0, 1, 0, 0, 0, 0, 0, []),
  (2, .putfield 71, 3, 8, 8, 0, 0, 0, []),
  (5, .aload_n 0, 1, 0, 0, 0, 0, 0, []),
  (6, .iload_n 1, 1, 1, 0, 0, 0, 0, []),
  (7, .invokevirtual 197, 3, 90, 1, 1, 0, 0, [8]),
  (10, .ireturn, 1, 0, 0, 0, 0, 0, [])]
def zp_91 : List (List Nat) := [[], [], [954], [], [], [1228, 1230, 49, 70, 1231], []]
abbrev jX8_presentOnes : Nat := 92
def zd_92 : List zm_E := [(0, .iconst 1, 1, 0, 0, 0, 1, 0, []),
  (1, .aload_n 0, 1, 0, 0, 0, 0, 0, []),
  (2, .getfield 7, 3, 8, 0, 1, 0, 0, []),
  (5, .iconst 0, 1, 0, 0, 0, 0, 0, []),
  (6, .iaload, 1, 0, 0, 0, 0, 0, []),
  (7, .ishl, 1, 0, 0, 0, 0, 0, []),
  (8, .iconst 1, 1, 0, 0, 0, 1, 0, []),
  (9, .isub, 1, 0, 0, 0, 0, 0, []),
  (10, .aload_n 0, 1, 0, 0, 0, 0, 0, []),
  (11, .getfield 7, 3, 8, 0, 1, 0, 0, []),
  (14, .iconst 1, 1, 0, 0, 0, 1, 0, []),
  (15, .iaload, 1, 0, 0, 0, 0, 0, []),
  (16, .iconst (-1), 1, 0, 0, 0, (-1), 0, []),
  (17, .ixor, 1, 0, 0, 0, 0, 0, []),
  (18, .iand, 1, 0, 0, 0, 0, 0, []),
  (19, .ireturn, 1, 0, 0, 0, 0, 0, [])]
def zp_92 : List (List Nat) := [[], [], [946], [], [], [], [], [], [], [946], [], [], [], [], [], []]
abbrev jX8_heldThings : Nat := 93
def zd_93 : List zm_E := [(0, .iconst 0, 1, 0, 0, 0, 0, 0, []),
  (1, .istore_n 1, 1, 1, 0, 0, 0, 0, []),
  (2, .iconst 0, 1, 0, 0, 0, 0, 0, []),
  (3, .istore_n 2, 1, 2, 0, 0, 0, 0, []),
  (4, .iload_n 2, 1, 2, 0, 0, 0, 0, []),
  (5, .aload_n 0, 1, 0, 0, 0, 0, 0, []),
  (6, .getfield 7, 3, 8, 0, 1, 0, 0, []),
  (9, .iconst 0, 1, 0, 0, 0, 0, 0, []),
  (10, .iaload, 1, 0, 0, 0, 0, 0, []),
  (11, .if_icmp .ge 31, 3, 26, 0, 0, 0, 0, []),
  (14, .iload_n 1, 1, 1, 0, 0, 0, 0, []),
  (15, .aload_n 0, 1, 0, 0, 0, 0, 0, []),
  (16, .iload_n 2, 1, 2, 0, 0, 0, 0, []),
  (17, .invokevirtual 97, 3, 48, 1, 1, 0, 0, [8]),
  (20, .ifCond .eq 13, 3, 21, 0, 0, 0, 0, []),
  (23, .iconst 1, 1, 0, 0, 0, 1, 0, []),
  (24, .aload_n 0, 1, 0, 0, 0, 0, 0, []),
  (25, .iload_n 2, 1, 2, 0, 0, 0, 0, []),
  (26, .invokevirtual 90, 3, 50, 1, 1, 0, 0, [8]),
  (29, .ishl, 1, 0, 0, 0, 0, 0, []),
  (30, .goto 4, 3, 22, 0, 0, 0, 0, []),
  (33, .iconst 0, 1, 0, 0, 0, 0, 0, []),
  (34, .ior, 1, 0, 0, 0, 0, 0, []),
  (35, .istore_n 1, 1, 1, 0, 0, 0, 0, []),
  (36, .iinc 2 1, 3, 2, 0, 0, 1, 0, []),
  (39, .goto (-35), 3, 4, 0, 0, 0, 0, []),
  (42, .iload_n 1, 1, 1, 0, 0, 0, 0, []),
  (43, .ireturn, 1, 0, 0, 0, 0, 0, [])]
def zp_93 : List (List Nat) := [[], [], [], [], [], [], [946], [], [], [], [], [], [], [1090, 1092, 30, 70, 1093], [], [], [], [], [1098, 1100, 32, 70, 1101], [], [], [], [], [], [], [], [], []]
abbrev jX8_findLeast : Nat := 94
def zd_94 : List zm_E := [(0, .aload_n 0, 1, 0, 0, 0, 0, 0, []),
  (1, .invokevirtual 201, 3, 93, 0, 1, 0, 0, [8]),
  (4, .istore_n 1, 1, 1, 0, 0, 0, 0, []),
  (5, .iconst 0, 1, 0, 0, 0, 0, 0, []),
  (6, .istore_n 2, 1, 2, 0, 0, 0, 0, []),
  (7, .iconst 0, 1, 0, 0, 0, 0, 0, []),
  (8, .istore_n 3, 1, 3, 0, 0, 0, 0, []),
  (9, .iload_n 3, 1, 3, 0, 0, 0, 0, []),
  (10, .aload_n 0, 1, 0, 0, 0, 0, 0, []),
  (11, .getfield 7, 3, 8, 0, 1, 0, 0, []),
  (14, .iconst 0, 1, 0, 0, 0, 0, 0, []),
  (15, .iaload, 1, 0, 0, 0, 0, 0, []),
  (16, .if_icmp .ge 27, 3, 25, 0, 0, 0, 0, []),
  (19, .aload_n 0, 1, 0, 0, 0, 0, 0, []),
  (20, .iload_n 3, 1, 3, 0, 0, 0, 0, []),
  (21, .invokevirtual 97, 3, 48, 1, 1, 0, 0, [8]),
  (24, .ifCond .eq 13, 3, 23, 0, 0, 0, 0, []),
  (27, .aload_n 0, 1, 0, 0, 0, 0, 0, []),
  (28, .getfield 59, 3, 8, 23, 1, 0, 0, []),
  (31, .iload_n 2, 1, 2, 0, 0, 0, 0, []),
  (32, .iload_n 3, 1, 3, 0, 0, 0, 0, []),
  (33, .iastore, 1, 0, 0, 0, 0, 0, []),
  (34, .iinc 2 1, 3, 2, 0, 0, 1, 0, []),
  (37, .iinc 3 1, 3, 3, 0, 0, 1, 0, []),
  (40, .goto (-31), 3, 7, 0, 0, 0, 0, []),
  (43, .bipush 127, 2, 0, 0, 0, 127, 0, []),
  (45, .istore_n 3, 1, 3, 0, 0, 0, 0, []),
  (46, .iload_n 3, 1, 3, 0, 0, 0, 0, []),
  (47, .ifCond .lt 140, 3, 106, 0, 0, 0, 0, []),
  (50, .aload_n 0, 1, 0, 0, 0, 0, 0, []),
  (51, .getfield 56, 3, 8, 22, 1, 0, 0, []),
  (54, .iload_n 3, 1, 3, 0, 0, 0, 0, []),
  (55, .iload_n 3, 1, 3, 0, 0, 0, 0, []),
  (56, .iload_n 1, 1, 1, 0, 0, 0, 0, []),
  (57, .if_icmp .ne 7, 3, 37, 0, 0, 0, 0, []),
  (60, .iconst 0, 1, 0, 0, 0, 0, 0, []),
  (61, .goto 6, 3, 38, 0, 0, 0, 0, []),
  (64, .sipush 1000, 3, 0, 0, 0, 1000, 0, []),
  (67, .iastore, 1, 0, 0, 0, 0, 0, []),
  (68, .iload_n 3, 1, 3, 0, 0, 0, 0, []),
  (69, .iload_n 1, 1, 1, 0, 0, 0, 0, []),
  (70, .iconst (-1), 1, 0, 0, 0, (-1), 0, []),
  (71, .ixor, 1, 0, 0, 0, 0, 0, []),
  (72, .iand, 1, 0, 0, 0, 0, 0, []),
  (73, .ifCond .ne 108, 3, 104, 0, 0, 0, 0, []),
  (76, .iload_n 3, 1, 3, 0, 0, 0, 0, []),
  (77, .iload_n 1, 1, 1, 0, 0, 0, 0, []),
  (78, .if_icmp .eq 103, 3, 104, 0, 0, 0, 0, []),
  (81, .aload_n 0, 1, 0, 0, 0, 0, 0, []),
  (82, .getfield 59, 3, 8, 23, 1, 0, 0, []),
  (85, .iload_n 3, 1, 3, 0, 0, 0, 0, []),
  (86, .invokestatic 86, 3, 42, 1, 1, 0, 0, []),
  (89, .iaload, 1, 0, 0, 0, 0, 0, []),
  (90, .istore 4, 2, 4, 0, 0, 0, 0, []),
  (92, .iconst 0, 1, 0, 0, 0, 0, 0, []),
  (93, .istore 5, 2, 5, 0, 0, 0, 0, []),
  (95, .iload 5, 2, 5, 0, 0, 0, 0, []),
  (97, .aload_n 0, 1, 0, 0, 0, 0, 0, []),
  (98, .getfield 7, 3, 8, 0, 1, 0, 0, []),
  (101, .iconst 0, 1, 0, 0, 0, 0, 0, []),
  (102, .iaload, 1, 0, 0, 0, 0, 0, []),
  (103, .if_icmp .ge 78, 3, 104, 0, 0, 0, 0, []),
  (106, .iload_n 1, 1, 1, 0, 0, 0, 0, []),
  (107, .iload_n 3, 1, 3, 0, 0, 0, 0, []),
  (108, .iconst (-1), 1, 0, 0, 0, (-1), 0, []),
  (109, .ixor, 1, 0, 0, 0, 0, 0, []),
  (110, .iand, 1, 0, 0, 0, 0, 0, []),
  (111, .iload 5, 2, 5, 0, 0, 0, 0, []),
  (113, .invokestatic 82, 3, 41, 2, 1, 0, 0, []),
  (116, .ifCond .eq 26, 3, 84, 0, 0, 0, 0, []),
  (119, .aload_n 0, 1, 0, 0, 0, 0, 0, []),
  (120, .iload 4, 2, 4, 0, 0, 0, 0, []),
  (122, .iload 5, 2, 5, 0, 0, 0, 0, []),
  (124, .invokevirtual 93, 3, 49, 2, 1, 0, 0, [8]),
  (127, .aload_n 0, 1, 0, 0, 0, 0, 0, []),
  (128, .getfield 56, 3, 8, 22, 1, 0, 0, []),
  (131, .iload_n 3, 1, 3, 0, 0, 0, 0, []),
  (132, .iconst 1, 1, 0, 0, 0, 1, 0, []),
  (133, .iload 5, 2, 5, 0, 0, 0, 0, []),
  (135, .ishl, 1, 0, 0, 0, 0, 0, []),
  (136, .ior, 1, 0, 0, 0, 0, 0, []),
  (137, .iaload, 1, 0, 0, 0, 0, 0, []),
  (138, .iadd, 1, 0, 0, 0, 0, 0, []),
  (139, .goto 6, 3, 85, 0, 0, 0, 0, []),
  (142, .sipush 1000, 3, 0, 0, 0, 1000, 0, []),
  (145, .istore 6, 2, 6, 0, 0, 0, 0, []),
  (147, .aload_n 0, 1, 0, 0, 0, 0, 0, []),
  (148, .getfield 56, 3, 8, 22, 1, 0, 0, []),
  (151, .iload_n 3, 1, 3, 0, 0, 0, 0, []),
  (152, .iload 6, 2, 6, 0, 0, 0, 0, []),
  (154, .aload_n 0, 1, 0, 0, 0, 0, 0, []),
  (155, .getfield 56, 3, 8, 22, 1, 0, 0, []),
  (158, .iload_n 3, 1, 3, 0, 0, 0, 0, []),
  (159, .iaload, 1, 0, 0, 0, 0, 0, []),
  (160, .if_icmp .ge 8, 3, 97, 0, 0, 0, 0, []),
  (163, .iload 6, 2, 6, 0, 0, 0, 0, []),
  (165, .goto 9, 3, 101, 0, 0, 0, 0, []),
  (168, .aload_n 0, 1, 0, 0, 0, 0, 0, []),
  (169, .getfield 56, 3, 8, 22, 1, 0, 0, []),
  (172, .iload_n 3, 1, 3, 0, 0, 0, 0, []),
  (173, .iaload, 1, 0, 0, 0, 0, 0, []),
  (174, .iastore, 1, 0, 0, 0, 0, 0, []),
  (175, .iinc 5 1, 3, 5, 0, 0, 1, 0, []),
  (178, .goto (-83), 3, 56, 0, 0, 0, 0, []),
  (181, .iinc 3 (-1), 3, 3, 0, 0, (-1), 0, []),
  (184, .goto (-138), 3, 27, 0, 0, 0, 0, []),
  (187, .iload_n 2, 1, 2, 0, 0, 0, 0, []),
  (188, .ireturn, 1, 0, 0, 0, 0, 0, [])]
def zp_94 : List (List Nat) := [[], [1240, 1242, 51, 70, 1243], [], [], [], [], [], [], [], [946], [], [], [], [], [], [1090, 1092, 30, 70, 1093], [], [], [969], [], [], [], [], [], [], [], [], [], [], [], [968], [], [], [], [], [], [], [], [], [], [], [], [], [], [], [], [], [], [], [969], [], [1079, 1080, 70, 1081], [], [], [], [], [], [], [946], [], [], [], [], [], [], [], [], [], [1068, 1069, 70, 1070], [], [], [], [], [1102, 1104, 33, 70, 1105], [], [968], [], [], [], [], [], [], [], [], [], [], [], [968], [], [], [], [968], [], [], [], [], [], [], [968], [], [], [], [], [], [], [], [], []]
abbrev jX8_least : Nat := 95
def zd_95 : List zm_E := [(0, .aload_n 0, 1, 0, 0, 0, 0, 0, []),
  (1, .iconst 0, 1, 0, 0, 0, 0, 0, []),
  (2, .putfield 71, 3, 8, 8, 0, 0, 0, []),
  (5, .aload_n 0, 1, 0, 0, 0, 0, 0, []),
  (6, .invokevirtual 204, 3, 94, 0, 1, 0, 0, [8]),
  (9, .pop, 1, 0, 0, 0, 0, 0, []),
  (10, .aload_n 0, 1, 0, 0, 0, 0, 0, []),
  (11, .getfield 56, 3, 8, 22, 1, 0, 0, []),
  (14, .iconst 0, 1, 0, 0, 0, 0, 0, []),
  (15, .iaload, 1, 0, 0, 0, 0, 0, []),
  (16, .ireturn, 1, 0, 0, 0, 0, 0, [])]
def zp_95 : List (List Nat) := [[], [], [954], [], [1236, 1238, 50, 70, 1239], [], [], [968], [], [], []]
abbrev jX8_leastOf : Nat := 96
def zd_96 : List zm_E := [(0, .aload_n 0, 1, 0, 0, 0, 0, 0, []),
  (1, .iconst 0, 1, 0, 0, 0, 0, 0, []),
  (2, .putfield 71, 3, 8, 8, 0, 0, 0, []),
  (5, .aload_n 0, 1, 0, 0, 0, 0, 0, []),
  (6, .iload_n 1, 1, 1, 0, 0, 0, 0, []),
  (7, .invokevirtual 157, 3, 47, 1, 1, 0, 0, [8]),
  (10, .ifCond .ne 9, 3, 11, 0, 0, 0, 0, []),
  (13, .aload_n 0, 1, 0, 0, 0, 0, 0, []),
  (14, .iconst 1, 1, 0, 0, 0, 1, 0, []),
  (15, .invokevirtual 119, 3, 43, 1, 1, 0, 0, [8]),
  (18, .ireturn, 1, 0, 0, 0, 0, 0, []),
  (19, .aload_n 0, 1, 0, 0, 0, 0, 0, []),
  (20, .iload_n 1, 1, 1, 0, 0, 0, 0, []),
  (21, .invokevirtual 97, 3, 48, 1, 1, 0, 0, [8]),
  (24, .ifCond .ne 6, 3, 17, 0, 0, 0, 0, []),
  (27, .bipush (-9), 2, 0, 0, 0, (-9), 0, []),
  (29, .ireturn, 1, 0, 0, 0, 0, 0, []),
  (30, .aload_n 0, 1, 0, 0, 0, 0, 0, []),
  (31, .invokevirtual 204, 3, 94, 0, 1, 0, 0, [8]),
  (34, .istore_n 2, 1, 2, 0, 0, 0, 0, []),
  (35, .aload_n 0, 1, 0, 0, 0, 0, 0, []),
  (36, .invokevirtual 201, 3, 93, 0, 1, 0, 0, [8]),
  (39, .istore_n 3, 1, 3, 0, 0, 0, 0, []),
  (40, .iconst 0, 1, 0, 0, 0, 0, 0, []),
  (41, .istore 4, 2, 4, 0, 0, 0, 0, []),
  (43, .bipush (-9), 2, 0, 0, 0, (-9), 0, []),
  (45, .istore 5, 2, 5, 0, 0, 0, 0, []),
  (47, .iconst 0, 1, 0, 0, 0, 0, 0, []),
  (48, .istore 6, 2, 6, 0, 0, 0, 0, []),
  (50, .iload 6, 2, 6, 0, 0, 0, 0, []),
  (52, .iload_n 2, 1, 2, 0, 0, 0, 0, []),
  (53, .if_icmp .ge 92, 3, 81, 0, 0, 0, 0, []),
  (56, .aload_n 0, 1, 0, 0, 0, 0, 0, []),
  (57, .getfield 59, 3, 8, 23, 1, 0, 0, []),
  (60, .iload 6, 2, 6, 0, 0, 0, 0, []),
  (62, .iaload, 1, 0, 0, 0, 0, 0, []),
  (63, .iload_n 1, 1, 1, 0, 0, 0, 0, []),
  (64, .if_icmp .gt 81, 3, 81, 0, 0, 0, 0, []),
  (67, .iconst 0, 1, 0, 0, 0, 0, 0, []),
  (68, .istore 7, 2, 7, 0, 0, 0, 0, []),
  (70, .iload_n 3, 1, 3, 0, 0, 0, 0, []),
  (71, .iload 4, 2, 4, 0, 0, 0, 0, []),
  (73, .iconst (-1), 1, 0, 0, 0, (-1), 0, []),
  (74, .ixor, 1, 0, 0, 0, 0, 0, []),
  (75, .iand, 1, 0, 0, 0, 0, 0, []),
  (76, .iload 7, 2, 7, 0, 0, 0, 0, []),
  (78, .invokestatic 82, 3, 41, 2, 1, 0, 0, []),
  (81, .ifCond .eq 39, 3, 69, 0, 0, 0, 0, []),
  (84, .aload_n 0, 1, 0, 0, 0, 0, 0, []),
  (85, .aload_n 0, 1, 0, 0, 0, 0, 0, []),
  (86, .getfield 59, 3, 8, 23, 1, 0, 0, []),
  (89, .iload 6, 2, 6, 0, 0, 0, 0, []),
  (91, .iaload, 1, 0, 0, 0, 0, 0, []),
  (92, .iload 7, 2, 7, 0, 0, 0, 0, []),
  (94, .invokevirtual 93, 3, 49, 2, 1, 0, 0, [8]),
  (97, .aload_n 0, 1, 0, 0, 0, 0, 0, []),
  (98, .getfield 56, 3, 8, 22, 1, 0, 0, []),
  (101, .iload 4, 2, 4, 0, 0, 0, 0, []),
  (103, .iconst 1, 1, 0, 0, 0, 1, 0, []),
  (104, .iload 7, 2, 7, 0, 0, 0, 0, []),
  (106, .ishl, 1, 0, 0, 0, 0, 0, []),
  (107, .ior, 1, 0, 0, 0, 0, 0, []),
  (108, .iaload, 1, 0, 0, 0, 0, 0, []),
  (109, .iadd, 1, 0, 0, 0, 0, 0, []),
  (110, .aload_n 0, 1, 0, 0, 0, 0, 0, []),
  (111, .getfield 56, 3, 8, 22, 1, 0, 0, []),
  (114, .iload 4, 2, 4, 0, 0, 0, 0, []),
  (116, .iaload, 1, 0, 0, 0, 0, 0, []),
  (117, .if_icmp .eq 9, 3, 71, 0, 0, 0, 0, []),
  (120, .iinc 7 1, 3, 7, 0, 0, 1, 0, []),
  (123, .goto (-53), 3, 40, 0, 0, 0, 0, []),
  (126, .iload 4, 2, 4, 0, 0, 0, 0, []),
  (128, .iconst 1, 1, 0, 0, 0, 1, 0, []),
  (129, .iload 7, 2, 7, 0, 0, 0, 0, []),
  (131, .ishl, 1, 0, 0, 0, 0, 0, []),
  (132, .ior, 1, 0, 0, 0, 0, 0, []),
  (133, .istore 4, 2, 4, 0, 0, 0, 0, []),
  (135, .iload 7, 2, 7, 0, 0, 0, 0, []),
  (137, .istore 5, 2, 5, 0, 0, 0, 0, []),
  (139, .iinc 6 1, 3, 6, 0, 0, 1, 0, []),
  (142, .goto (-92), 3, 29, 0, 0, 0, 0, []),
  (145, .iload 5, 2, 5, 0, 0, 0, 0, []),
  (147, .ireturn, 1, 0, 0, 0, 0, 0, [])]
def zp_96 : List (List Nat) := [[], [], [954], [], [], [1126, 1128, 38, 70, 1129], [], [], [], [1040, 1042, 23, 70, 1043], [], [], [], [1090, 1092, 30, 70, 1093], [], [], [], [], [1236, 1238, 50, 70, 1239], [], [], [1240, 1242, 51, 70, 1243], [], [], [], [], [], [], [], [], [], [], [], [969], [], [], [], [], [], [], [], [], [], [], [], [], [1068, 1069, 70, 1070], [], [], [], [969], [], [], [], [1102, 1104, 33, 70, 1105], [], [968], [], [], [], [], [], [], [], [], [968], [], [], [], [], [], [], [], [], [], [], [], [], [], [], [], [], []]
abbrev jX8_betterWays : Nat := 97
def zd_97 : List zm_E := [(0, .aload_n 0, 1, 0, 0, 0, 0, 0, []),
  (1, .iconst 0, 1, 0, 0, 0, 0, 0, []),
  (2, .putfield 71, 3, 8, 8, 0, 0, 0, []),
  (5, .aload_n 0, 1, 0, 0, 0, 0, 0, []),
  (6, .invokevirtual 207, 3, 92, 0, 1, 0, 0, [8]),
  (9, .istore_n 1, 1, 1, 0, 0, 0, 0, []),
  (10, .aload_n 0, 1, 0, 0, 0, 0, 0, []),
  (11, .iload_n 1, 1, 1, 0, 0, 0, 0, []),
  (12, .aload_n 0, 1, 0, 0, 0, 0, 0, []),
  (13, .invokevirtual 201, 3, 93, 0, 1, 0, 0, [8]),
  (16, .iconst 0, 1, 0, 0, 0, 0, 0, []),
  (17, .invokevirtual 190, 3, 86, 3, 1, 0, 0, [8]),
  (20, .aload_n 0, 1, 0, 0, 0, 0, 0, []),
  (21, .iload_n 1, 1, 1, 0, 0, 0, 0, []),
  (22, .aload_n 0, 1, 0, 0, 0, 0, 0, []),
  (23, .invokevirtual 201, 3, 93, 0, 1, 0, 0, [8]),
  (26, .iconst 1, 1, 0, 0, 0, 1, 0, []),
  (27, .invokevirtual 190, 3, 86, 3, 1, 0, 0, [8]),
  (30, .isub, 1, 0, 0, 0, 0, 0, []),
  (31, .ireturn, 1, 0, 0, 0, 0, 0, [])]
def zp_97 : List (List Nat) := [[], [], [954], [], [1252, 1254, 52, 70, 1255], [], [], [], [], [1240, 1242, 51, 70, 1243], [], [1216, 1218, 47, 70, 1219], [], [], [], [1240, 1242, 51, 70, 1243], [], [1216, 1218, 47, 70, 1219], [], []]
abbrev jX8_harms : Nat := 98
def zd_98 : List zm_E := [(0, .aload_n 0, 1, 0, 0, 0, 0, 0, []),
  (1, .iconst 0, 1, 0, 0, 0, 0, 0, []),
  (2, .putfield 71, 3, 8, 8, 0, 0, 0, []),
  (5, .aload_n 0, 1, 0, 0, 0, 0, 0, []),
  (6, .iload_n 1, 1, 1, 0, 0, 0, 0, []),
  (7, .invokevirtual 157, 3, 47, 1, 1, 0, 0, [8]),
  (10, .ifCond .ne 9, 3, 11, 0, 0, 0, 0, []),
  (13, .aload_n 0, 1, 0, 0, 0, 0, 0, []),
  (14, .iconst 1, 1, 0, 0, 0, 1, 0, []),
  (15, .invokevirtual 119, 3, 43, 1, 1, 0, 0, [8]),
  (18, .ireturn, 1, 0, 0, 0, 0, 0, []),
  (19, .aload_n 0, 1, 0, 0, 0, 0, 0, []),
  (20, .iload_n 1, 1, 1, 0, 0, 0, 0, []),
  (21, .invokevirtual 97, 3, 48, 1, 1, 0, 0, [8]),
  (24, .ifCond .ne 5, 3, 17, 0, 0, 0, 0, []),
  (27, .iconst 0, 1, 0, 0, 0, 0, 0, []),
  (28, .ireturn, 1, 0, 0, 0, 0, 0, []),
  (29, .aload_n 0, 1, 0, 0, 0, 0, 0, []),
  (30, .invokevirtual 148, 3, 55, 0, 0, 0, 0, [8]),
  (33, .iconst 0, 1, 0, 0, 0, 0, 0, []),
  (34, .istore_n 2, 1, 2, 0, 0, 0, 0, []),
  (35, .iload_n 2, 1, 2, 0, 0, 0, 0, []),
  (36, .aload_n 0, 1, 0, 0, 0, 0, 0, []),
  (37, .getfield 7, 3, 8, 0, 1, 0, 0, []),
  (40, .iconst 0, 1, 0, 0, 0, 0, 0, []),
  (41, .iaload, 1, 0, 0, 0, 0, 0, []),
  (42, .if_icmp .ge 21, 3, 37, 0, 0, 0, 0, []),
  (45, .aload_n 0, 1, 0, 0, 0, 0, 0, []),
  (46, .getfield 62, 3, 8, 24, 1, 0, 0, []),
  (49, .iload_n 2, 1, 2, 0, 0, 0, 0, []),
  (50, .aload_n 0, 1, 0, 0, 0, 0, 0, []),
  (51, .getfield 29, 3, 8, 9, 1, 0, 0, []),
  (54, .iload_n 2, 1, 2, 0, 0, 0, 0, []),
  (55, .iaload, 1, 0, 0, 0, 0, 0, []),
  (56, .iastore, 1, 0, 0, 0, 0, 0, []),
  (57, .iinc 2 1, 3, 2, 0, 0, 1, 0, []),
  (60, .goto (-25), 3, 21, 0, 0, 0, 0, []),
  (63, .aload_n 0, 1, 0, 0, 0, 0, 0, []),
  (64, .getfield 7, 3, 8, 0, 1, 0, 0, []),
  (67, .iconst 1, 1, 0, 0, 0, 1, 0, []),
  (68, .iaload, 1, 0, 0, 0, 0, 0, []),
  (69, .istore_n 2, 1, 2, 0, 0, 0, 0, []),
  (70, .aload_n 0, 1, 0, 0, 0, 0, 0, []),
  (71, .getfield 7, 3, 8, 0, 1, 0, 0, []),
  (74, .iconst 1, 1, 0, 0, 0, 1, 0, []),
  (75, .dup2, 1, 0, 0, 0, 0, 0, []),
  (76, .iaload, 1, 0, 0, 0, 0, 0, []),
  (77, .iconst 1, 1, 0, 0, 0, 1, 0, []),
  (78, .iload_n 1, 1, 1, 0, 0, 0, 0, []),
  (79, .ishl, 1, 0, 0, 0, 0, 0, []),
  (80, .ior, 1, 0, 0, 0, 0, 0, []),
  (81, .iastore, 1, 0, 0, 0, 0, 0, []),
  (82, .aload_n 0, 1, 0, 0, 0, 0, 0, []),
  (83, .invokevirtual 148, 3, 55, 0, 0, 0, 0, [8]),
  (86, .iconst 0, 1, 0, 0, 0, 0, 0, []),
  (87, .istore_n 3, 1, 3, 0, 0, 0, 0, []),
  (88, .iconst 0, 1, 0, 0, 0, 0, 0, []),
  (89, .istore 4, 2, 4, 0, 0, 0, 0, []),
  (91, .iload 4, 2, 4, 0, 0, 0, 0, []),
  (93, .aload_n 0, 1, 0, 0, 0, 0, 0, []),
  (94, .getfield 7, 3, 8, 0, 1, 0, 0, []),
  (97, .iconst 0, 1, 0, 0, 0, 0, 0, []),
  (98, .iaload, 1, 0, 0, 0, 0, 0, []),
  (99, .if_icmp .ge 58, 3, 93, 0, 0, 0, 0, []),
  (102, .iload_n 3, 1, 3, 0, 0, 0, 0, []),
  (103, .aload_n 0, 1, 0, 0, 0, 0, 0, []),
  (104, .iload 4, 2, 4, 0, 0, 0, 0, []),
  (106, .invokevirtual 97, 3, 48, 1, 1, 0, 0, [8]),
  (109, .ifCond .eq 39, 3, 88, 0, 0, 0, 0, []),
  (112, .aload_n 0, 1, 0, 0, 0, 0, 0, []),
  (113, .iload 4, 2, 4, 0, 0, 0, 0, []),
  (115, .aload_n 0, 1, 0, 0, 0, 0, 0, []),
  (116, .getfield 29, 3, 8, 9, 1, 0, 0, []),
  (119, .iload 4, 2, 4, 0, 0, 0, 0, []),
  (121, .iaload, 1, 0, 0, 0, 0, 0, []),
  (122, .invokevirtual 93, 3, 49, 2, 1, 0, 0, [8]),
  (125, .aload_n 0, 1, 0, 0, 0, 0, 0, []),
  (126, .iload 4, 2, 4, 0, 0, 0, 0, []),
  (128, .aload_n 0, 1, 0, 0, 0, 0, 0, []),
  (129, .getfield 62, 3, 8, 24, 1, 0, 0, []),
  (132, .iload 4, 2, 4, 0, 0, 0, 0, []),
  (134, .iaload, 1, 0, 0, 0, 0, 0, []),
  (135, .invokevirtual 93, 3, 49, 2, 1, 0, 0, [8]),
  (138, .if_icmp .le 10, 3, 88, 0, 0, 0, 0, []),
  (141, .iconst 1, 1, 0, 0, 0, 1, 0, []),
  (142, .iload 4, 2, 4, 0, 0, 0, 0, []),
  (144, .ishl, 1, 0, 0, 0, 0, 0, []),
  (145, .goto 4, 3, 89, 0, 0, 0, 0, []),
  (148, .iconst 0, 1, 0, 0, 0, 0, 0, []),
  (149, .ior, 1, 0, 0, 0, 0, 0, []),
  (150, .istore_n 3, 1, 3, 0, 0, 0, 0, []),
  (151, .iinc 4 1, 3, 4, 0, 0, 1, 0, []),
  (154, .goto (-63), 3, 58, 0, 0, 0, 0, []),
  (157, .aload_n 0, 1, 0, 0, 0, 0, 0, []),
  (158, .getfield 7, 3, 8, 0, 1, 0, 0, []),
  (161, .iconst 1, 1, 0, 0, 0, 1, 0, []),
  (162, .iload_n 2, 1, 2, 0, 0, 0, 0, []),
  (163, .iastore, 1, 0, 0, 0, 0, 0, []),
  (164, .iload_n 3, 1, 3, 0, 0, 0, 0, []),
  (165, .ireturn, 1, 0, 0, 0, 0, 0, [])]
def zp_98 : List (List Nat) := [[], [], [954], [], [], [1126, 1128, 38, 70, 1129], [], [], [], [1040, 1042, 23, 70, 1043], [], [], [], [1090, 1092, 30, 70, 1093], [], [], [], [], [1086, 1088, 29, 70, 1089], [], [], [], [], [946], [], [], [], [], [970], [], [], [955], [], [], [], [], [], [], [946], [], [], [], [], [946], [], [], [], [], [], [], [], [], [], [1086, 1088, 29, 70, 1089], [], [], [], [], [], [], [946], [], [], [], [], [], [], [1090, 1092, 30, 70, 1093], [], [], [], [], [955], [], [], [1102, 1104, 33, 70, 1105], [], [], [], [970], [], [], [1102, 1104, 33, 70, 1105], [], [], [], [], [], [], [], [], [], [], [], [946], [], [], [], [], []]
abbrev jX8_coded : Nat := 99
def zd_99 : List zm_E := [(0, .iconst 0, 1, 0, 0, 0, 0, 0, []),
  (1, .istore_n 1, 1, 1, 0, 0, 0, 0, []),
  (2, .iconst 0, 1, 0, 0, 0, 0, 0, []),
  (3, .istore_n 2, 1, 2, 0, 0, 0, 0, []),
  (4, .iload_n 2, 1, 2, 0, 0, 0, 0, []),
  (5, .bipush 7, 2, 0, 0, 0, 7, 0, []),
  (7, .if_icmp .ge 34, 3, 25, 0, 0, 0, 0, []),
  (10, .bipush 8, 2, 0, 0, 0, 8, 0, []),
  (12, .iload_n 1, 1, 1, 0, 0, 0, 0, []),
  (13, .imul, 1, 0, 0, 0, 0, 0, []),
  (14, .iload_n 2, 1, 2, 0, 0, 0, 0, []),
  (15, .aload_n 0, 1, 0, 0, 0, 0, 0, []),
  (16, .getfield 7, 3, 8, 0, 1, 0, 0, []),
  (19, .iconst 0, 1, 0, 0, 0, 0, 0, []),
  (20, .iaload, 1, 0, 0, 0, 0, 0, []),
  (21, .if_icmp .ge 11, 3, 20, 0, 0, 0, 0, []),
  (24, .aload_n 0, 1, 0, 0, 0, 0, 0, []),
  (25, .iload_n 2, 1, 2, 0, 0, 0, 0, []),
  (26, .invokevirtual 90, 3, 50, 1, 1, 0, 0, [8]),
  (29, .goto 4, 3, 21, 0, 0, 0, 0, []),
  (32, .iload_n 2, 1, 2, 0, 0, 0, 0, []),
  (33, .iadd, 1, 0, 0, 0, 0, 0, []),
  (34, .istore_n 1, 1, 1, 0, 0, 0, 0, []),
  (35, .iinc 2 1, 3, 2, 0, 0, 1, 0, []),
  (38, .goto (-34), 3, 4, 0, 0, 0, 0, []),
  (41, .iload_n 1, 1, 1, 0, 0, 0, 0, []),
  (42, .ireturn, 1, 0, 0, 0, 0, 0, [])]
def zp_99 : List (List Nat) := [[], [], [], [], [], [], [], [], [], [], [], [], [946], [], [], [], [], [], [1098, 1100, 32, 70, 1101], [], [], [], [], [], [], [], []]
abbrev jX8_uncodes : Nat := 100
def zd_100 : List zm_E := [(0, .iload_n 1, 1, 1, 0, 0, 0, 0, []),
  (1, .istore_n 2, 1, 2, 0, 0, 0, 0, []),
  (2, .bipush 6, 2, 0, 0, 0, 6, 0, []),
  (4, .istore_n 3, 1, 3, 0, 0, 0, 0, []),
  (5, .iload_n 3, 1, 3, 0, 0, 0, 0, []),
  (6, .ifCond .lt 47, 3, 34, 0, 0, 0, 0, []),
  (9, .aload_n 0, 1, 0, 0, 0, 0, 0, []),
  (10, .getfield 7, 3, 8, 0, 1, 0, 0, []),
  (13, .iconst 2, 1, 0, 0, 0, 2, 0, []),
  (14, .iload_n 3, 1, 3, 0, 0, 0, 0, []),
  (15, .iadd, 1, 0, 0, 0, 0, 0, []),
  (16, .iload_n 3, 1, 3, 0, 0, 0, 0, []),
  (17, .aload_n 0, 1, 0, 0, 0, 0, 0, []),
  (18, .getfield 7, 3, 8, 0, 1, 0, 0, []),
  (21, .iconst 0, 1, 0, 0, 0, 0, 0, []),
  (22, .iaload, 1, 0, 0, 0, 0, 0, []),
  (23, .if_icmp .ge 10, 3, 21, 0, 0, 0, 0, []),
  (26, .iload_n 2, 1, 2, 0, 0, 0, 0, []),
  (27, .bipush 8, 2, 0, 0, 0, 8, 0, []),
  (29, .irem, 1, 0, 0, 0, 0, 0, []),
  (30, .goto 11, 3, 27, 0, 0, 0, 0, []),
  (33, .aload_n 0, 1, 0, 0, 0, 0, 0, []),
  (34, .getfield 7, 3, 8, 0, 1, 0, 0, []),
  (37, .iconst 2, 1, 0, 0, 0, 2, 0, []),
  (38, .iload_n 3, 1, 3, 0, 0, 0, 0, []),
  (39, .iadd, 1, 0, 0, 0, 0, 0, []),
  (40, .iaload, 1, 0, 0, 0, 0, 0, []),
  (41, .iastore, 1, 0, 0, 0, 0, 0, []),
  (42, .iload_n 2, 1, 2, 0, 0, 0, 0, []),
  (43, .bipush 8, 2, 0, 0, 0, 8, 0, []),
  (45, .idiv, 1, 0, 0, 0, 0, 0, []),
  (46, .istore_n 2, 1, 2, 0, 0, 0, 0, []),
  (47, .iinc 3 (-1), 3, 3, 0, 0, (-1), 0, []),
  (50, .goto (-45), 3, 4, 0, 0, 0, 0, []),
  (53, .return_, 1, 0, 0, 0, 0, 0, [])]
def zp_100 : List (List Nat) := [[], [], [], [], [], [], [], [946], [], [], [], [], [], [946], [], [], [], [], [], [], [], [], [946], [], [], [], [], [], [], [], [], [], [], [], []]
abbrev jX8_numberOf : Nat := 101
def zd_101 : List zm_E := [(0, .iconst 0, 1, 0, 0, 0, 0, 0, []),
  (1, .istore_n 2, 1, 2, 0, 0, 0, 0, []),
  (2, .iconst 0, 1, 0, 0, 0, 0, 0, []),
  (3, .istore_n 3, 1, 3, 0, 0, 0, 0, []),
  (4, .iconst 0, 1, 0, 0, 0, 0, 0, []),
  (5, .istore 4, 2, 4, 0, 0, 0, 0, []),
  (7, .iload 4, 2, 4, 0, 0, 0, 0, []),
  (9, .bipush 7, 2, 0, 0, 0, 7, 0, []),
  (11, .if_icmp .ge 79, 3, 54, 0, 0, 0, 0, []),
  (14, .iload_n 1, 1, 1, 0, 0, 0, 0, []),
  (15, .iconst 3, 1, 0, 0, 0, 3, 0, []),
  (16, .bipush 6, 2, 0, 0, 0, 6, 0, []),
  (18, .iload 4, 2, 4, 0, 0, 0, 0, []),
  (20, .isub, 1, 0, 0, 0, 0, 0, []),
  (21, .imul, 1, 0, 0, 0, 0, 0, []),
  (22, .ishr, 1, 0, 0, 0, 0, 0, []),
  (23, .bipush 7, 2, 0, 0, 0, 7, 0, []),
  (25, .iand, 1, 0, 0, 0, 0, 0, []),
  (26, .istore 5, 2, 5, 0, 0, 0, 0, []),
  (28, .iconst 0, 1, 0, 0, 0, 0, 0, []),
  (29, .istore 6, 2, 6, 0, 0, 0, 0, []),
  (31, .iconst 0, 1, 0, 0, 0, 0, 0, []),
  (32, .istore 7, 2, 7, 0, 0, 0, 0, []),
  (34, .iload 7, 2, 7, 0, 0, 0, 0, []),
  (36, .iload 5, 2, 5, 0, 0, 0, 0, []),
  (38, .if_icmp .ge 28, 3, 38, 0, 0, 0, 0, []),
  (41, .iload 6, 2, 6, 0, 0, 0, 0, []),
  (43, .iload_n 3, 1, 3, 0, 0, 0, 0, []),
  (44, .iload 7, 2, 7, 0, 0, 0, 0, []),
  (46, .invokestatic 82, 3, 41, 2, 1, 0, 0, []),
  (49, .ifCond .eq 7, 3, 33, 0, 0, 0, 0, []),
  (52, .iconst 0, 1, 0, 0, 0, 0, 0, []),
  (53, .goto 4, 3, 34, 0, 0, 0, 0, []),
  (56, .iconst 1, 1, 0, 0, 0, 1, 0, []),
  (57, .iadd, 1, 0, 0, 0, 0, 0, []),
  (58, .istore 6, 2, 6, 0, 0, 0, 0, []),
  (60, .iinc 7 1, 3, 7, 0, 0, 1, 0, []),
  (63, .goto (-29), 3, 23, 0, 0, 0, 0, []),
  (66, .iload_n 2, 1, 2, 0, 0, 0, 0, []),
  (67, .bipush 7, 2, 0, 0, 0, 7, 0, []),
  (69, .iload 4, 2, 4, 0, 0, 0, 0, []),
  (71, .isub, 1, 0, 0, 0, 0, 0, []),
  (72, .imul, 1, 0, 0, 0, 0, 0, []),
  (73, .iload 6, 2, 6, 0, 0, 0, 0, []),
  (75, .iadd, 1, 0, 0, 0, 0, 0, []),
  (76, .istore_n 2, 1, 2, 0, 0, 0, 0, []),
  (77, .iload_n 3, 1, 3, 0, 0, 0, 0, []),
  (78, .iconst 1, 1, 0, 0, 0, 1, 0, []),
  (79, .iload 5, 2, 5, 0, 0, 0, 0, []),
  (81, .ishl, 1, 0, 0, 0, 0, 0, []),
  (82, .ior, 1, 0, 0, 0, 0, 0, []),
  (83, .istore_n 3, 1, 3, 0, 0, 0, 0, []),
  (84, .iinc 4 1, 3, 4, 0, 0, 1, 0, []),
  (87, .goto (-80), 3, 6, 0, 0, 0, 0, []),
  (90, .iload_n 2, 1, 2, 0, 0, 0, 0, []),
  (91, .ireturn, 1, 0, 0, 0, 0, 0, [])]
def zp_101 : List (List Nat) := [[], [], [], [], [], [], [], [], [], [], [], [], [], [], [], [], [], [], [], [], [], [], [], [], [], [], [], [], [], [1068, 1069, 70, 1070], [], [], [], [], [], [], [], [], [], [], [], [], [], [], [], [], [], [], [], [], [], [], [], [], [], []]
abbrev jX8_exchangesTo : Nat := 102
def zd_102 : List zm_E := [(0, .iconst 0, 1, 0, 0, 0, 0, 0, []),
  (1, .istore_n 3, 1, 3, 0, 0, 0, 0, []),
  (2, .iload_n 3, 1, 3, 0, 0, 0, 0, []),
  (3, .sipush 5040, 3, 0, 0, 0, 5040, 0, []),
  (6, .if_icmp .ge 16, 3, 12, 0, 0, 0, 0, []),
  (9, .aload_n 0, 1, 0, 0, 0, 0, 0, []),
  (10, .getfield 68, 3, 8, 26, 1, 0, 0, []),
  (13, .iload_n 3, 1, 3, 0, 0, 0, 0, []),
  (14, .iconst 0, 1, 0, 0, 0, 0, 0, []),
  (15, .bastore, 1, 0, 0, 0, 0, 0, []),
  (16, .iinc 3 1, 3, 3, 0, 0, 1, 0, []),
  (19, .goto (-17), 3, 2, 0, 0, 0, 0, []),
  (22, .aload_n 0, 1, 0, 0, 0, 0, 0, []),
  (23, .getfield 65, 3, 8, 25, 1, 0, 0, []),
  (26, .iconst 0, 1, 0, 0, 0, 0, 0, []),
  (27, .aload_n 0, 1, 0, 0, 0, 0, 0, []),
  (28, .invokevirtual 210, 3, 99, 0, 1, 0, 0, [8]),
  (31, .iastore, 1, 0, 0, 0, 0, 0, []),
  (32, .aload_n 0, 1, 0, 0, 0, 0, 0, []),
  (33, .getfield 68, 3, 8, 26, 1, 0, 0, []),
  (36, .aload_n 0, 1, 0, 0, 0, 0, 0, []),
  (37, .aload_n 0, 1, 0, 0, 0, 0, 0, []),
  (38, .getfield 65, 3, 8, 25, 1, 0, 0, []),
  (41, .iconst 0, 1, 0, 0, 0, 0, 0, []),
  (42, .iaload, 1, 0, 0, 0, 0, 0, []),
  (43, .invokevirtual 213, 3, 101, 1, 1, 0, 0, [8]),
  (46, .iconst 1, 1, 0, 0, 0, 1, 0, []),
  (47, .bastore, 1, 0, 0, 0, 0, 0, []),
  (48, .iconst 1, 1, 0, 0, 0, 1, 0, []),
  (49, .istore_n 3, 1, 3, 0, 0, 0, 0, []),
  (50, .iconst 0, 1, 0, 0, 0, 0, 0, []),
  (51, .istore 4, 2, 4, 0, 0, 0, 0, []),
  (53, .iconst 0, 1, 0, 0, 0, 0, 0, []),
  (54, .istore 5, 2, 5, 0, 0, 0, 0, []),
  (56, .iconst 1, 1, 0, 0, 0, 1, 0, []),
  (57, .istore 6, 2, 6, 0, 0, 0, 0, []),
  (59, .iload 4, 2, 4, 0, 0, 0, 0, []),
  (61, .iload_n 3, 1, 3, 0, 0, 0, 0, []),
  (62, .if_icmp .ge 173, 3, 130, 0, 0, 0, 0, []),
  (65, .aload_n 0, 1, 0, 0, 0, 0, 0, []),
  (66, .aload_n 0, 1, 0, 0, 0, 0, 0, []),
  (67, .getfield 65, 3, 8, 25, 1, 0, 0, []),
  (70, .iload 4, 2, 4, 0, 0, 0, 0, []),
  (72, .iaload, 1, 0, 0, 0, 0, 0, []),
  (73, .invokevirtual 216, 3, 100, 1, 0, 0, 0, [8]),
  (76, .aload_n 0, 1, 0, 0, 0, 0, 0, []),
  (77, .iload_n 1, 1, 1, 0, 0, 0, 0, []),
  (78, .invokevirtual 90, 3, 50, 1, 1, 0, 0, [8]),
  (81, .iload_n 2, 1, 2, 0, 0, 0, 0, []),
  (82, .if_icmp .ne 6, 3, 52, 0, 0, 0, 0, []),
  (85, .iload 5, 2, 5, 0, 0, 0, 0, []),
  (87, .ireturn, 1, 0, 0, 0, 0, 0, []),
  (88, .iconst 0, 1, 0, 0, 0, 0, 0, []),
  (89, .istore 7, 2, 7, 0, 0, 0, 0, []),
  (91, .iload 7, 2, 7, 0, 0, 0, 0, []),
  (93, .aload_n 0, 1, 0, 0, 0, 0, 0, []),
  (94, .getfield 7, 3, 8, 0, 1, 0, 0, []),
  (97, .iconst 0, 1, 0, 0, 0, 0, 0, []),
  (98, .iaload, 1, 0, 0, 0, 0, 0, []),
  (99, .aload_n 0, 1, 0, 0, 0, 0, 0, []),
  (100, .getfield 7, 3, 8, 0, 1, 0, 0, []),
  (103, .iconst 0, 1, 0, 0, 0, 0, 0, []),
  (104, .iaload, 1, 0, 0, 0, 0, 0, []),
  (105, .imul, 1, 0, 0, 0, 0, 0, []),
  (106, .if_icmp .ge 110, 3, 122, 0, 0, 0, 0, []),
  (109, .iload 7, 2, 7, 0, 0, 0, 0, []),
  (111, .aload_n 0, 1, 0, 0, 0, 0, 0, []),
  (112, .getfield 7, 3, 8, 0, 1, 0, 0, []),
  (115, .iconst 0, 1, 0, 0, 0, 0, 0, []),
  (116, .iaload, 1, 0, 0, 0, 0, 0, []),
  (117, .idiv, 1, 0, 0, 0, 0, 0, []),
  (118, .istore 8, 2, 8, 0, 0, 0, 0, []),
  (120, .iload 7, 2, 7, 0, 0, 0, 0, []),
  (122, .aload_n 0, 1, 0, 0, 0, 0, 0, []),
  (123, .getfield 7, 3, 8, 0, 1, 0, 0, []),
  (126, .iconst 0, 1, 0, 0, 0, 0, 0, []),
  (127, .iaload, 1, 0, 0, 0, 0, 0, []),
  (128, .irem, 1, 0, 0, 0, 0, 0, []),
  (129, .istore 9, 2, 9, 0, 0, 0, 0, []),
  (131, .iload 8, 2, 8, 0, 0, 0, 0, []),
  (133, .iload 9, 2, 9, 0, 0, 0, 0, []),
  (135, .if_icmp .ge 75, 3, 120, 0, 0, 0, 0, []),
  (138, .aload_n 0, 1, 0, 0, 0, 0, 0, []),
  (139, .iload 8, 2, 8, 0, 0, 0, 0, []),
  (141, .iload 9, 2, 9, 0, 0, 0, 0, []),
  (143, .invokevirtual 162, 3, 71, 2, 1, 0, 0, [8]),
  (146, .ifCond .ne 64, 3, 120, 0, 0, 0, 0, []),
  (149, .aload_n 0, 1, 0, 0, 0, 0, 0, []),
  (150, .iload 8, 2, 8, 0, 0, 0, 0, []),
  (152, .iload 9, 2, 9, 0, 0, 0, 0, []),
  (154, .invokevirtual 174, 3, 76, 2, 1, 0, 0, [8]),
  (157, .pop, 1, 0, 0, 0, 0, 0, []),
  (158, .aload_n 0, 1, 0, 0, 0, 0, 0, []),
  (159, .invokevirtual 210, 3, 99, 0, 1, 0, 0, [8]),
  (162, .istore 10, 2, 10, 0, 0, 0, 0, []),
  (164, .aload_n 0, 1, 0, 0, 0, 0, 0, []),
  (165, .iload 8, 2, 8, 0, 0, 0, 0, []),
  (167, .iload 9, 2, 9, 0, 0, 0, 0, []),
  (169, .invokevirtual 174, 3, 76, 2, 1, 0, 0, [8]),
  (172, .pop, 1, 0, 0, 0, 0, 0, []),
  (173, .aload_n 0, 1, 0, 0, 0, 0, 0, []),
  (174, .getfield 68, 3, 8, 26, 1, 0, 0, []),
  (177, .aload_n 0, 1, 0, 0, 0, 0, 0, []),
  (178, .iload 10, 2, 10, 0, 0, 0, 0, []),
  (180, .invokevirtual 213, 3, 101, 1, 1, 0, 0, [8]),
  (183, .baload, 1, 0, 0, 0, 0, 0, []),
  (184, .ifCond .ne 26, 3, 120, 0, 0, 0, 0, []),
  (187, .aload_n 0, 1, 0, 0, 0, 0, 0, []),
  (188, .getfield 68, 3, 8, 26, 1, 0, 0, []),
  (191, .aload_n 0, 1, 0, 0, 0, 0, 0, []),
  (192, .iload 10, 2, 10, 0, 0, 0, 0, []),
  (194, .invokevirtual 213, 3, 101, 1, 1, 0, 0, [8]),
  (197, .iconst 1, 1, 0, 0, 0, 1, 0, []),
  (198, .bastore, 1, 0, 0, 0, 0, 0, []),
  (199, .aload_n 0, 1, 0, 0, 0, 0, 0, []),
  (200, .getfield 65, 3, 8, 25, 1, 0, 0, []),
  (203, .iload_n 3, 1, 3, 0, 0, 0, 0, []),
  (204, .iload 10, 2, 10, 0, 0, 0, 0, []),
  (206, .iastore, 1, 0, 0, 0, 0, 0, []),
  (207, .iinc 3 1, 3, 3, 0, 0, 1, 0, []),
  (210, .iinc 7 1, 3, 7, 0, 0, 1, 0, []),
  (213, .goto (-122), 3, 54, 0, 0, 0, 0, []),
  (216, .iinc 4 1, 3, 4, 0, 0, 1, 0, []),
  (219, .iload 4, 2, 4, 0, 0, 0, 0, []),
  (221, .iload 6, 2, 6, 0, 0, 0, 0, []),
  (223, .if_icmp .ne (-164), 3, 36, 0, 0, 0, 0, []),
  (226, .iload_n 3, 1, 3, 0, 0, 0, 0, []),
  (227, .istore 6, 2, 6, 0, 0, 0, 0, []),
  (229, .iinc 5 1, 3, 5, 0, 0, 1, 0, []),
  (232, .goto (-173), 3, 36, 0, 0, 0, 0, []),
  (235, .bipush (-9), 2, 0, 0, 0, (-9), 0, []),
  (237, .ireturn, 1, 0, 0, 0, 0, 0, [])]
def zp_102 : List (List Nat) := [[], [], [], [], [], [], [972], [], [], [], [], [], [], [971], [], [], [1272, 1274, 55, 70, 1275], [], [], [972], [], [], [971], [], [], [1276, 1278, 56, 70, 1279], [], [], [], [], [], [], [], [], [], [], [], [], [], [], [], [971], [], [], [1280, 1282, 57, 70, 1283], [], [], [1098, 1100, 32, 70, 1101], [], [], [], [], [], [], [], [], [946], [], [], [], [946], [], [], [], [], [], [], [946], [], [], [], [], [], [], [946], [], [], [], [], [], [], [], [], [], [], [1147, 1149, 39, 70, 1150], [], [], [], [], [1172, 1174, 42, 70, 1175], [], [], [1272, 1274, 55, 70, 1275], [], [], [], [], [1172, 1174, 42, 70, 1175], [], [], [972], [], [], [1276, 1278, 56, 70, 1279], [], [], [], [972], [], [], [1276, 1278, 56, 70, 1279], [], [], [], [971], [], [], [], [], [], [], [], [], [], [], [], [], [], [], [], []]
abbrev jX8_fewest : Nat := 103
def zd_103 : List zm_E := [(0, .aload_n 0, 1, 0, 0, 0, 0, 0, []),
  (1, .iconst 0, 1, 0, 0, 0, 0, 0, []),
  (2, .putfield 71, 3, 8, 8, 0, 0, 0, []),
  (5, .aload_n 0, 1, 0, 0, 0, 0, 0, []),
  (6, .iload_n 1, 1, 1, 0, 0, 0, 0, []),
  (7, .invokevirtual 157, 3, 47, 1, 1, 0, 0, [8]),
  (10, .ifCond .eq 11, 3, 11, 0, 0, 0, 0, []),
  (13, .aload_n 0, 1, 0, 0, 0, 0, 0, []),
  (14, .iload_n 2, 1, 2, 0, 0, 0, 0, []),
  (15, .invokevirtual 157, 3, 47, 1, 1, 0, 0, [8]),
  (18, .ifCond .ne 9, 3, 15, 0, 0, 0, 0, []),
  (21, .aload_n 0, 1, 0, 0, 0, 0, 0, []),
  (22, .iconst 1, 1, 0, 0, 0, 1, 0, []),
  (23, .invokevirtual 119, 3, 43, 1, 1, 0, 0, [8]),
  (26, .ireturn, 1, 0, 0, 0, 0, 0, []),
  (27, .aload_n 0, 1, 0, 0, 0, 0, 0, []),
  (28, .iload_n 1, 1, 1, 0, 0, 0, 0, []),
  (29, .invokevirtual 97, 3, 48, 1, 1, 0, 0, [8]),
  (32, .ifCond .ne 6, 3, 21, 0, 0, 0, 0, []),
  (35, .bipush (-9), 2, 0, 0, 0, (-9), 0, []),
  (37, .ireturn, 1, 0, 0, 0, 0, 0, []),
  (38, .aload_n 0, 1, 0, 0, 0, 0, 0, []),
  (39, .invokevirtual 219, 3, 44, 0, 0, 0, 0, [8]),
  (42, .aload_n 0, 1, 0, 0, 0, 0, 0, []),
  (43, .iload_n 1, 1, 1, 0, 0, 0, 0, []),
  (44, .iload_n 2, 1, 2, 0, 0, 0, 0, []),
  (45, .invokevirtual 222, 3, 102, 2, 1, 0, 0, [8]),
  (48, .istore_n 3, 1, 3, 0, 0, 0, 0, []),
  (49, .aload_n 0, 1, 0, 0, 0, 0, 0, []),
  (50, .invokevirtual 225, 3, 45, 0, 0, 0, 0, [8]),
  (53, .iload_n 3, 1, 3, 0, 0, 0, 0, []),
  (54, .ireturn, 1, 0, 0, 0, 0, 0, [])]
def zp_103 : List (List Nat) := [[], [], [954], [], [], [1126, 1128, 38, 70, 1129], [], [], [], [1126, 1128, 38, 70, 1129], [], [], [], [1040, 1042, 23, 70, 1043], [], [], [], [1090, 1092, 30, 70, 1093], [], [], [], [], [1264, 1266, 53, 70, 1267], [], [], [], [1268, 1270, 54, 70, 1271], [], [], [1284, 1286, 58, 70, 1287], [], []]
abbrev jX8_acts : Nat := 104
def zd_104 : List zm_E := [(0, .iload_n 1, 1, 1, 0, 0, 0, 0, []),
  (1, .tableswitch 196 1 5 #[35, 76, 110, 128, 167], 35, 104, 0, 0, 1, 0, [2, 26, 47, 60, 86]),
  (36, .aload_n 0, 1, 0, 0, 0, 0, 0, []),
  (37, .iload_n 2, 1, 2, 0, 0, 0, 0, []),
  (38, .invokevirtual 157, 3, 47, 1, 1, 0, 0, [8]),
  (41, .ifCond .eq 25, 3, 17, 0, 0, 0, 0, []),
  (44, .aload_n 0, 1, 0, 0, 0, 0, 0, []),
  (45, .iload_n 3, 1, 3, 0, 0, 0, 0, []),
  (46, .invokevirtual 157, 3, 47, 1, 1, 0, 0, [8]),
  (49, .ifCond .eq 17, 3, 17, 0, 0, 0, 0, []),
  (52, .iload 4, 2, 4, 0, 0, 0, 0, []),
  (54, .ifCond .gt 12, 3, 17, 0, 0, 0, 0, []),
  (57, .aload_n 0, 1, 0, 0, 0, 0, 0, []),
  (58, .iload_n 2, 1, 2, 0, 0, 0, 0, []),
  (59, .iload_n 3, 1, 3, 0, 0, 0, 0, []),
  (60, .invokevirtual 162, 3, 71, 2, 1, 0, 0, [8]),
  (63, .ifCond .eq 5, 3, 19, 0, 0, 0, 0, []),
  (66, .iconst 0, 1, 0, 0, 0, 0, 0, []),
  (67, .ireturn, 1, 1, 0, 0, 0, 0, []),
  (68, .aload_n 0, 1, 0, 0, 0, 0, 0, []),
  (69, .iload_n 2, 1, 2, 0, 0, 0, 0, []),
  (70, .iload_n 3, 1, 3, 0, 0, 0, 0, []),
  (71, .invokevirtual 174, 3, 76, 2, 1, 0, 0, [8]),
  (74, .pop, 1, 0, 0, 0, 0, 0, []),
  (75, .iconst 1, 1, 0, 0, 0, 1, 0, []),
  (76, .ireturn, 1, 1, 0, 0, 0, 0, []),
  (77, .aload_n 0, 1, 0, 0, 0, 0, 0, []),
  (78, .invokevirtual 148, 3, 55, 0, 0, 0, 0, [8]),
  (81, .iload_n 2, 1, 2, 0, 0, 0, 0, []),
  (82, .aload_n 0, 1, 0, 0, 0, 0, 0, []),
  (83, .getfield 101, 3, 8, 16, 0, 0, 0, []),
  (86, .if_icmp .ge 10, 3, 36, 0, 0, 0, 0, []),
  (89, .iload_n 3, 1, 3, 0, 0, 0, 0, []),
  (90, .iload 4, 2, 4, 0, 0, 0, 0, []),
  (92, .iadd, 1, 0, 0, 0, 0, 0, []),
  (93, .ifCond .le 5, 3, 38, 0, 0, 0, 0, []),
  (96, .iconst 0, 1, 0, 0, 0, 0, 0, []),
  (97, .ireturn, 1, 1, 0, 0, 0, 0, []),
  (98, .aload_n 0, 1, 0, 0, 0, 0, 0, []),
  (99, .aload_n 0, 1, 0, 0, 0, 0, 0, []),
  (100, .getfield 44, 3, 8, 14, 1, 0, 0, []),
  (103, .iload_n 2, 1, 2, 0, 0, 0, 0, []),
  (104, .iaload, 1, 0, 0, 0, 0, 0, []),
  (105, .invokevirtual 177, 3, 78, 1, 1, 0, 0, [8]),
  (108, .pop, 1, 0, 0, 0, 0, 0, []),
  (109, .iconst 1, 1, 0, 0, 0, 1, 0, []),
  (110, .ireturn, 1, 1, 0, 0, 0, 0, []),
  (111, .iload_n 2, 1, 2, 0, 0, 0, 0, []),
  (112, .iload_n 3, 1, 3, 0, 0, 0, 0, []),
  (113, .iadd, 1, 0, 0, 0, 0, 0, []),
  (114, .iload 4, 2, 4, 0, 0, 0, 0, []),
  (116, .iadd, 1, 0, 0, 0, 0, 0, []),
  (117, .ifCond .le 5, 3, 55, 0, 0, 0, 0, []),
  (120, .iconst 0, 1, 0, 0, 0, 0, 0, []),
  (121, .ireturn, 1, 1, 0, 0, 0, 0, []),
  (122, .aload_n 0, 1, 0, 0, 0, 0, 0, []),
  (123, .invokevirtual 180, 3, 80, 0, 1, 0, 0, [8]),
  (126, .pop, 1, 0, 0, 0, 0, 0, []),
  (127, .iconst 1, 1, 0, 0, 0, 1, 0, []),
  (128, .ireturn, 1, 1, 0, 0, 0, 0, []),
  (129, .aload_n 0, 1, 0, 0, 0, 0, 0, []),
  (130, .iload_n 2, 1, 2, 0, 0, 0, 0, []),
  (131, .invokevirtual 157, 3, 47, 1, 1, 0, 0, [8]),
  (134, .ifCond .eq 18, 3, 72, 0, 0, 0, 0, []),
  (137, .aload_n 0, 1, 0, 0, 0, 0, 0, []),
  (138, .iload_n 2, 1, 2, 0, 0, 0, 0, []),
  (139, .invokevirtual 97, 3, 48, 1, 1, 0, 0, [8]),
  (142, .ifCond .eq 10, 3, 72, 0, 0, 0, 0, []),
  (145, .iload_n 3, 1, 3, 0, 0, 0, 0, []),
  (146, .iload 4, 2, 4, 0, 0, 0, 0, []),
  (148, .iadd, 1, 0, 0, 0, 0, 0, []),
  (149, .ifCond .le 5, 3, 74, 0, 0, 0, 0, []),
  (152, .iconst 0, 1, 0, 0, 0, 0, 0, []),
  (153, .ireturn, 1, 1, 0, 0, 0, 0, []),
  (154, .aload_n 0, 1, 0, 0, 0, 0, 0, []),
  (155, .getfield 7, 3, 8, 0, 1, 0, 0, []),
  (158, .iconst 1, 1, 0, 0, 0, 1, 0, []),
  (159, .dup2, 1, 0, 0, 0, 0, 0, []),
  (160, .iaload, 1, 0, 0, 0, 0, 0, []),
  (161, .iconst 1, 1, 0, 0, 0, 1, 0, []),
  (162, .iload_n 2, 1, 2, 0, 0, 0, 0, []),
  (163, .ishl, 1, 0, 0, 0, 0, 0, []),
  (164, .ior, 1, 0, 0, 0, 0, 0, []),
  (165, .iastore, 1, 0, 0, 0, 0, 0, []),
  (166, .iconst 1, 1, 0, 0, 0, 1, 0, []),
  (167, .ireturn, 1, 1, 0, 0, 0, 0, []),
  (168, .aload_n 0, 1, 0, 0, 0, 0, 0, []),
  (169, .iload_n 2, 1, 2, 0, 0, 0, 0, []),
  (170, .invokevirtual 157, 3, 47, 1, 1, 0, 0, [8]),
  (173, .ifCond .eq 11, 3, 94, 0, 0, 0, 0, []),
  (176, .aload_n 0, 1, 0, 0, 0, 0, 0, []),
  (177, .iload_n 3, 1, 3, 0, 0, 0, 0, []),
  (178, .invokevirtual 157, 3, 47, 1, 1, 0, 0, [8]),
  (181, .ifCond .ne 5, 3, 96, 0, 0, 0, 0, []),
  (184, .iconst 0, 1, 0, 0, 0, 0, 0, []),
  (185, .ireturn, 1, 1, 0, 0, 0, 0, []),
  (186, .aload_n 0, 1, 0, 0, 0, 0, 0, []),
  (187, .iload_n 2, 1, 2, 0, 0, 0, 0, []),
  (188, .iload_n 3, 1, 3, 0, 0, 0, 0, []),
  (189, .iload 4, 2, 4, 0, 0, 0, 0, []),
  (191, .invokevirtual 170, 3, 74, 3, 1, 0, 0, [8]),
  (194, .pop, 1, 0, 0, 0, 0, 0, []),
  (195, .iconst 1, 1, 0, 0, 0, 1, 0, []),
  (196, .ireturn, 1, 1, 0, 0, 0, 0, []),
  (197, .iload_n 2, 1, 2, 0, 0, 0, 0, []),
  (198, .iload_n 3, 1, 3, 0, 0, 0, 0, []),
  (199, .iadd, 1, 0, 0, 0, 0, 0, []),
  (200, .iload 4, 2, 4, 0, 0, 0, 0, []),
  (202, .iadd, 1, 0, 0, 0, 0, 0, []),
  (203, .ifCond .le 5, 3, 112, 0, 0, 0, 0, []),
  (206, .iconst 0, 1, 0, 0, 0, 0, 0, []),
  (207, .ireturn, 1, 1, 0, 0, 0, 0, []),
  (208, .aload_n 0, 1, 0, 0, 0, 0, 0, []),
  (209, .invokevirtual 183, 3, 83, 0, 1, 0, 0, [8]),
  (212, .pop, 1, 0, 0, 0, 0, 0, []),
  (213, .iconst 1, 1, 0, 0, 0, 1, 0, []),
  (214, .ireturn, 1, 1, 0, 0, 0, 0, [])]
def zp_104 : List (List Nat) := [[], [], [], [], [1126, 1128, 38, 70, 1129], [], [], [], [1126, 1128, 38, 70, 1129], [], [], [], [], [], [], [1147, 1149, 39, 70, 1150], [], [], [], [], [], [], [1172, 1174, 42, 70, 1175], [], [], [], [], [1086, 1088, 29, 70, 1089], [], [], [962], [], [], [], [], [], [], [], [], [], [960], [], [], [1180, 1182, 43, 70, 1183], [], [], [], [], [], [], [], [], [], [], [], [], [1188, 1190, 44, 70, 1191], [], [], [], [], [], [1126, 1128, 38, 70, 1129], [], [], [], [1090, 1092, 30, 70, 1093], [], [], [], [], [], [], [], [], [946], [], [], [], [], [], [], [], [], [], [], [], [], [1126, 1128, 38, 70, 1129], [], [], [], [1126, 1128, 38, 70, 1129], [], [], [], [], [], [], [], [1164, 1166, 41, 70, 1167], [], [], [], [], [], [], [], [], [], [], [], [], [1200, 1202, 45, 70, 1203], [], [], []]
abbrev jX8_succeeds : Nat := 105
def zd_105 : List zm_E := [(0, .iload_n 1, 1, 1, 0, 0, 0, 0, []),
  (1, .sipush 1000, 3, 0, 0, 0, 1000, 0, []),
  (4, .idiv, 1, 0, 0, 0, 0, 0, []),
  (5, .istore_n 2, 1, 2, 0, 0, 0, 0, []),
  (6, .iload_n 1, 1, 1, 0, 0, 0, 0, []),
  (7, .bipush 100, 2, 0, 0, 0, 100, 0, []),
  (9, .idiv, 1, 0, 0, 0, 0, 0, []),
  (10, .bipush 10, 2, 0, 0, 0, 10, 0, []),
  (12, .irem, 1, 0, 0, 0, 0, 0, []),
  (13, .istore_n 3, 1, 3, 0, 0, 0, 0, []),
  (14, .iload_n 1, 1, 1, 0, 0, 0, 0, []),
  (15, .bipush 10, 2, 0, 0, 0, 10, 0, []),
  (17, .idiv, 1, 0, 0, 0, 0, 0, []),
  (18, .bipush 10, 2, 0, 0, 0, 10, 0, []),
  (20, .irem, 1, 0, 0, 0, 0, 0, []),
  (21, .istore 4, 2, 4, 0, 0, 0, 0, []),
  (23, .iload_n 1, 1, 1, 0, 0, 0, 0, []),
  (24, .bipush 10, 2, 0, 0, 0, 10, 0, []),
  (26, .irem, 1, 0, 0, 0, 0, 0, []),
  (27, .istore 5, 2, 5, 0, 0, 0, 0, []),
  (29, .iload_n 2, 1, 2, 0, 0, 0, 0, []),
  (30, .i2l, 1, 0, 0, 0, 0, 0, []),
  (31, .lconst 1, 1, 0, 0, 0, 0, 1, []),
  (32, .ldc2_w 228, 3, 0, 0, 0, 0, 6, []),
  (35, .invokestatic 78, 3, 40, 3, 1, 0, 0, []),
  (38, .ifCond .eq 14, 3, 33, 0, 0, 0, 0, []),
  (41, .aload_n 0, 1, 0, 0, 0, 0, 0, []),
  (42, .iload_n 2, 1, 2, 0, 0, 0, 0, []),
  (43, .iload_n 3, 1, 3, 0, 0, 0, 0, []),
  (44, .iload 4, 2, 4, 0, 0, 0, 0, []),
  (46, .iload 5, 2, 5, 0, 0, 0, 0, []),
  (48, .invokevirtual 230, 3, 104, 4, 1, 0, 0, [8]),
  (51, .ireturn, 1, 1, 0, 0, 0, 0, []),
  (52, .iload_n 2, 1, 2, 0, 0, 0, 0, []),
  (53, .bipush 7, 2, 0, 0, 0, 7, 0, []),
  (55, .if_icmp .ne 41, 3, 55, 0, 0, 0, 0, []),
  (58, .aload_n 0, 1, 0, 0, 0, 0, 0, []),
  (59, .iload_n 3, 1, 3, 0, 0, 0, 0, []),
  (60, .invokevirtual 157, 3, 47, 1, 1, 0, 0, [8]),
  (63, .ifCond .eq 31, 3, 53, 0, 0, 0, 0, []),
  (66, .aload_n 0, 1, 0, 0, 0, 0, 0, []),
  (67, .iload 4, 2, 4, 0, 0, 0, 0, []),
  (69, .invokevirtual 157, 3, 47, 1, 1, 0, 0, [8]),
  (72, .ifCond .eq 22, 3, 53, 0, 0, 0, 0, []),
  (75, .iload 5, 2, 5, 0, 0, 0, 0, []),
  (77, .ifCond .ne 17, 3, 53, 0, 0, 0, 0, []),
  (80, .aload_n 0, 1, 0, 0, 0, 0, 0, []),
  (81, .iload_n 3, 1, 3, 0, 0, 0, 0, []),
  (82, .invokevirtual 90, 3, 50, 1, 1, 0, 0, [8]),
  (85, .iload 4, 2, 4, 0, 0, 0, 0, []),
  (87, .if_icmp .ne 7, 3, 53, 0, 0, 0, 0, []),
  (90, .iconst 1, 1, 0, 0, 0, 1, 0, []),
  (91, .goto 4, 3, 54, 0, 0, 0, 0, []),
  (94, .iconst 0, 1, 0, 0, 0, 0, 0, []),
  (95, .ireturn, 1, 1, 0, 0, 0, 0, []),
  (96, .iload_n 2, 1, 2, 0, 0, 0, 0, []),
  (97, .bipush 8, 2, 0, 0, 0, 8, 0, []),
  (99, .if_icmp .ne 28, 3, 72, 0, 0, 0, 0, []),
  (102, .iload_n 3, 1, 3, 0, 0, 0, 0, []),
  (103, .ifCond .ne 22, 3, 70, 0, 0, 0, 0, []),
  (106, .aload_n 0, 1, 0, 0, 0, 0, 0, []),
  (107, .invokevirtual 154, 3, 52, 0, 1, 0, 0, [8]),
  (110, .bipush 10, 2, 0, 0, 0, 10, 0, []),
  (112, .iload 4, 2, 4, 0, 0, 0, 0, []),
  (114, .imul, 1, 0, 0, 0, 0, 0, []),
  (115, .iload 5, 2, 5, 0, 0, 0, 0, []),
  (117, .iadd, 1, 0, 0, 0, 0, 0, []),
  (118, .if_icmp .gt 7, 3, 70, 0, 0, 0, 0, []),
  (121, .iconst 1, 1, 0, 0, 0, 1, 0, []),
  (122, .goto 4, 3, 71, 0, 0, 0, 0, []),
  (125, .iconst 0, 1, 0, 0, 0, 0, 0, []),
  (126, .ireturn, 1, 1, 0, 0, 0, 0, []),
  (127, .iload_n 2, 1, 2, 0, 0, 0, 0, []),
  (128, .bipush 9, 2, 0, 0, 0, 9, 0, []),
  (130, .if_icmp .ne 37, 3, 92, 0, 0, 0, 0, []),
  (133, .iload_n 3, 1, 3, 0, 0, 0, 0, []),
  (134, .ifCond .ne 33, 3, 92, 0, 0, 0, 0, []),
  (137, .iload 4, 2, 4, 0, 0, 0, 0, []),
  (139, .iconst 2, 1, 0, 0, 0, 2, 0, []),
  (140, .if_icmp .ge 27, 3, 92, 0, 0, 0, 0, []),
  (143, .aload_n 0, 1, 0, 0, 0, 0, 0, []),
  (144, .iload 4, 2, 4, 0, 0, 0, 0, []),
  (146, .iconst 1, 1, 0, 0, 0, 1, 0, []),
  (147, .if_icmp .ne 7, 3, 86, 0, 0, 0, 0, []),
  (150, .iconst 1, 1, 0, 0, 0, 1, 0, []),
  (151, .goto 4, 3, 87, 0, 0, 0, 0, []),
  (154, .iconst 0, 1, 0, 0, 0, 0, 0, []),
  (155, .invokevirtual 197, 3, 90, 1, 1, 0, 0, [8]),
  (158, .iload 5, 2, 5, 0, 0, 0, 0, []),
  (160, .if_icmp .gt 7, 3, 92, 0, 0, 0, 0, []),
  (163, .iconst 1, 1, 0, 0, 0, 1, 0, []),
  (164, .goto 4, 3, 93, 0, 0, 0, 0, []),
  (167, .iconst 0, 1, 0, 0, 0, 0, 0, []),
  (168, .ireturn, 1, 1, 0, 0, 0, 0, [])]
def zp_105 : List (List Nat) := [[], [], [], [], [], [], [], [], [], [], [], [], [], [], [], [], [], [], [], [], [], [], [], [1298], [1037, 1038, 70, 1039], [], [], [], [], [], [], [1299, 1301, 60, 70, 1302], [], [], [], [], [], [], [1126, 1128, 38, 70, 1129], [], [], [], [1126, 1128, 38, 70, 1129], [], [], [], [], [], [1098, 1100, 32, 70, 1101], [], [], [], [], [], [], [], [], [], [], [], [], [1118, 1120, 37, 70, 1121], [], [], [], [], [], [], [], [], [], [], [], [], [], [], [], [], [], [], [], [], [], [], [], [], [], [1228, 1230, 49, 70, 1231], [], [], [], [], [], []]
abbrev jX8_runScript : Nat := 106
def zd_106 : List zm_E := [(0, .aload_n 0, 1, 0, 0, 0, 0, 0, []),
  (1, .iconst 0, 1, 0, 0, 0, 0, 0, []),
  (2, .putfield 71, 3, 8, 8, 0, 0, 0, []),
  (5, .lconst 1, 1, 0, 0, 0, 0, 1, []),
  (6, .lstore 4, 2, 4, 0, 0, 0, 0, []),
  (8, .iconst 0, 1, 0, 0, 0, 0, 0, []),
  (9, .istore 6, 2, 6, 0, 0, 0, 0, []),
  (11, .iload 6, 2, 6, 0, 0, 0, 0, []),
  (13, .iload_n 1, 1, 1, 0, 0, 0, 0, []),
  (14, .if_icmp .ge 23, 3, 19, 0, 0, 0, 0, []),
  (17, .iload 6, 2, 6, 0, 0, 0, 0, []),
  (19, .iconst 4, 1, 0, 0, 0, 4, 0, []),
  (20, .if_icmp .ge 17, 3, 19, 0, 0, 0, 0, []),
  (23, .lload 4, 2, 4, 0, 0, 0, 0, []),
  (25, .ldc2_w 234, 3, 0, 0, 0, 0, 10000, []),
  (28, .lmul, 1, 0, 0, 0, 0, 0, []),
  (29, .lstore 4, 2, 4, 0, 0, 0, 0, []),
  (31, .iinc 6 1, 3, 6, 0, 0, 1, 0, []),
  (34, .goto (-23), 3, 7, 0, 0, 0, 0, []),
  (37, .iload_n 1, 1, 1, 0, 0, 0, 0, []),
  (38, .i2l, 1, 0, 0, 0, 0, 0, []),
  (39, .lconst 1, 1, 0, 0, 0, 0, 1, []),
  (40, .ldc2_w 236, 3, 0, 0, 0, 0, 4, []),
  (43, .invokestatic 78, 3, 40, 3, 1, 0, 0, []),
  (46, .ifCond .eq 16, 3, 33, 0, 0, 0, 0, []),
  (49, .lload_n 2, 1, 2, 0, 0, 0, 0, []),
  (50, .lconst 0, 1, 0, 0, 0, 0, 0, []),
  (51, .lcmp, 1, 0, 0, 0, 0, 0, []),
  (52, .ifCond .lt 10, 3, 33, 0, 0, 0, 0, []),
  (55, .lload_n 2, 1, 2, 0, 0, 0, 0, []),
  (56, .lload 4, 2, 4, 0, 0, 0, 0, []),
  (58, .lcmp, 1, 0, 0, 0, 0, 0, []),
  (59, .ifCond .lt 9, 3, 37, 0, 0, 0, 0, []),
  (62, .aload_n 0, 1, 0, 0, 0, 0, 0, []),
  (63, .iconst 1, 1, 0, 0, 0, 1, 0, []),
  (64, .invokevirtual 119, 3, 43, 1, 1, 0, 0, [8]),
  (67, .ireturn, 1, 0, 0, 0, 0, 0, []),
  (68, .aload_n 0, 1, 0, 0, 0, 0, 0, []),
  (69, .invokevirtual 219, 3, 44, 0, 0, 0, 0, [8]),
  (72, .bipush (-9), 2, 0, 0, 0, (-9), 0, []),
  (74, .istore 6, 2, 6, 0, 0, 0, 0, []),
  (76, .iconst 0, 1, 0, 0, 0, 0, 0, []),
  (77, .istore 7, 2, 7, 0, 0, 0, 0, []),
  (79, .iload 7, 2, 7, 0, 0, 0, 0, []),
  (81, .iload_n 1, 1, 1, 0, 0, 0, 0, []),
  (82, .if_icmp .ge 47, 3, 67, 0, 0, 0, 0, []),
  (85, .iload 6, 2, 6, 0, 0, 0, 0, []),
  (87, .ifCond .ge 42, 3, 67, 0, 0, 0, 0, []),
  (90, .lload 4, 2, 4, 0, 0, 0, 0, []),
  (92, .ldc2_w 234, 3, 0, 0, 0, 0, 10000, []),
  (95, .ldiv, 1, 0, 0, 0, 0, 0, []),
  (96, .lstore 4, 2, 4, 0, 0, 0, 0, []),
  (98, .aload_n 0, 1, 0, 0, 0, 0, 0, []),
  (99, .lload_n 2, 1, 2, 0, 0, 0, 0, []),
  (100, .lload 4, 2, 4, 0, 0, 0, 0, []),
  (102, .ldiv, 1, 0, 0, 0, 0, 0, []),
  (103, .ldc2_w 234, 3, 0, 0, 0, 0, 10000, []),
  (106, .lrem, 1, 0, 0, 0, 0, 0, []),
  (107, .l2i, 1, 0, 0, 0, 0, 0, []),
  (108, .invokevirtual 238, 3, 105, 1, 1, 0, 0, [8]),
  (111, .ifCond .eq 8, 3, 63, 0, 0, 0, 0, []),
  (114, .iload 6, 2, 6, 0, 0, 0, 0, []),
  (116, .goto 5, 3, 64, 0, 0, 0, 0, []),
  (119, .iload 7, 2, 7, 0, 0, 0, 0, []),
  (121, .istore 6, 2, 6, 0, 0, 0, 0, []),
  (123, .iinc 7 1, 3, 7, 0, 0, 1, 0, []),
  (126, .goto (-47), 3, 43, 0, 0, 0, 0, []),
  (129, .aload_n 0, 1, 0, 0, 0, 0, 0, []),
  (130, .invokevirtual 225, 3, 45, 0, 0, 0, 0, [8]),
  (133, .iload 6, 2, 6, 0, 0, 0, 0, []),
  (135, .ireturn, 1, 0, 0, 0, 0, 0, [])]
def zp_106 : List (List Nat) := [[], [], [954], [], [], [], [], [], [], [], [], [], [], [], [1292], [], [], [], [], [], [], [], [1293], [1037, 1038, 70, 1039], [], [], [], [], [], [], [], [], [], [], [], [1040, 1042, 23, 70, 1043], [], [], [1264, 1266, 53, 70, 1267], [], [], [], [], [], [], [], [], [], [], [1292], [], [], [], [], [], [], [1292], [], [], [1294, 1296, 59, 70, 1297], [], [], [], [], [], [], [], [], [1284, 1286, 58, 70, 1287], [], []]
abbrev jX8_simulate : Nat := 107
def zd_107 : List zm_E := [(0, .aload_n 0, 1, 0, 0, 0, 0, 0, []),
  (1, .iconst 0, 1, 0, 0, 0, 0, 0, []),
  (2, .putfield 71, 3, 8, 8, 0, 0, 0, []),
  (5, .iload_n 3, 1, 3, 0, 0, 0, 0, []),
  (6, .i2l, 1, 0, 0, 0, 0, 0, []),
  (7, .lconst 1, 1, 0, 0, 0, 0, 1, []),
  (8, .ldc2_w 241, 3, 0, 0, 0, 0, 99, []),
  (11, .invokestatic 78, 3, 40, 3, 1, 0, 0, []),
  (14, .ifCond .ne 9, 3, 13, 0, 0, 0, 0, []),
  (17, .aload_n 0, 1, 0, 0, 0, 0, 0, []),
  (18, .iconst 1, 1, 0, 0, 0, 1, 0, []),
  (19, .invokevirtual 119, 3, 43, 1, 1, 0, 0, [8]),
  (22, .ireturn, 1, 0, 0, 0, 0, 0, []),
  (23, .aload_n 0, 1, 0, 0, 0, 0, 0, []),
  (24, .invokevirtual 219, 3, 44, 0, 0, 0, 0, [8]),
  (27, .lload_n 1, 1, 1, 0, 0, 0, 0, []),
  (28, .lstore 4, 2, 4, 0, 0, 0, 0, []),
  (30, .iconst 0, 1, 0, 0, 0, 0, 0, []),
  (31, .istore 6, 2, 6, 0, 0, 0, 0, []),
  (33, .iconst 0, 1, 0, 0, 0, 0, 0, []),
  (34, .istore 7, 2, 7, 0, 0, 0, 0, []),
  (36, .iload 7, 2, 7, 0, 0, 0, 0, []),
  (38, .iload_n 3, 1, 3, 0, 0, 0, 0, []),
  (39, .if_icmp .ge 115, 3, 87, 0, 0, 0, 0, []),
  (42, .aload_n 0, 1, 0, 0, 0, 0, 0, []),
  (43, .getfield 7, 3, 8, 0, 1, 0, 0, []),
  (46, .iconst 0, 1, 0, 0, 0, 0, 0, []),
  (47, .iaload, 1, 0, 0, 0, 0, 0, []),
  (48, .ifCond .le 106, 3, 87, 0, 0, 0, 0, []),
  (51, .lload 4, 2, 4, 0, 0, 0, 0, []),
  (53, .ldc2_w 243, 3, 0, 0, 0, 0, 6364136223846793005, []),
  (56, .lmul, 1, 0, 0, 0, 0, 0, []),
  (57, .ldc2_w 245, 3, 0, 0, 0, 0, 1442695040888963407, []),
  (60, .ladd, 1, 0, 0, 0, 0, 0, []),
  (61, .lstore 4, 2, 4, 0, 0, 0, 0, []),
  (63, .lload 4, 2, 4, 0, 0, 0, 0, []),
  (65, .bipush 33, 2, 0, 0, 0, 33, 0, []),
  (67, .lushr, 1, 0, 0, 0, 0, 0, []),
  (68, .l2i, 1, 0, 0, 0, 0, 0, []),
  (69, .istore 8, 2, 8, 0, 0, 0, 0, []),
  (71, .iload 8, 2, 8, 0, 0, 0, 0, []),
  (73, .bipush 16, 2, 0, 0, 0, 16, 0, []),
  (75, .idiv, 1, 0, 0, 0, 0, 0, []),
  (76, .aload_n 0, 1, 0, 0, 0, 0, 0, []),
  (77, .getfield 7, 3, 8, 0, 1, 0, 0, []),
  (80, .iconst 0, 1, 0, 0, 0, 0, 0, []),
  (81, .iaload, 1, 0, 0, 0, 0, 0, []),
  (82, .irem, 1, 0, 0, 0, 0, 0, []),
  (83, .istore 9, 2, 9, 0, 0, 0, 0, []),
  (85, .iload 8, 2, 8, 0, 0, 0, 0, []),
  (87, .sipush 256, 3, 0, 0, 0, 256, 0, []),
  (90, .idiv, 1, 0, 0, 0, 0, 0, []),
  (91, .aload_n 0, 1, 0, 0, 0, 0, 0, []),
  (92, .getfield 7, 3, 8, 0, 1, 0, 0, []),
  (95, .iconst 0, 1, 0, 0, 0, 0, 0, []),
  (96, .iaload, 1, 0, 0, 0, 0, 0, []),
  (97, .irem, 1, 0, 0, 0, 0, 0, []),
  (98, .istore 10, 2, 10, 0, 0, 0, 0, []),
  (100, .aload_n 0, 1, 0, 0, 0, 0, 0, []),
  (101, .iload 9, 2, 9, 0, 0, 0, 0, []),
  (103, .iload 10, 2, 10, 0, 0, 0, 0, []),
  (105, .invokevirtual 162, 3, 71, 2, 1, 0, 0, [8]),
  (108, .ifCond .ne 15, 3, 69, 0, 0, 0, 0, []),
  (111, .aload_n 0, 1, 0, 0, 0, 0, 0, []),
  (112, .iload 9, 2, 9, 0, 0, 0, 0, []),
  (114, .iload 10, 2, 10, 0, 0, 0, 0, []),
  (116, .invokevirtual 174, 3, 76, 2, 1, 0, 0, [8]),
  (119, .pop, 1, 0, 0, 0, 0, 0, []),
  (120, .iinc 6 1, 3, 6, 0, 0, 1, 0, []),
  (123, .aload_n 0, 1, 0, 0, 0, 0, 0, []),
  (124, .getfield 7, 3, 8, 0, 1, 0, 0, []),
  (127, .iconst 1, 1, 0, 0, 0, 1, 0, []),
  (128, .dup2, 1, 0, 0, 0, 0, 0, []),
  (129, .iaload, 1, 0, 0, 0, 0, 0, []),
  (130, .iload 8, 2, 8, 0, 0, 0, 0, []),
  (132, .bipush 16, 2, 0, 0, 0, 16, 0, []),
  (134, .irem, 1, 0, 0, 0, 0, 0, []),
  (135, .ifCond .ne 10, 3, 82, 0, 0, 0, 0, []),
  (138, .iconst 1, 1, 0, 0, 0, 1, 0, []),
  (139, .iload 9, 2, 9, 0, 0, 0, 0, []),
  (141, .ishl, 1, 0, 0, 0, 0, 0, []),
  (142, .goto 4, 3, 83, 0, 0, 0, 0, []),
  (145, .iconst 0, 1, 0, 0, 0, 0, 0, []),
  (146, .ior, 1, 0, 0, 0, 0, 0, []),
  (147, .iastore, 1, 0, 0, 0, 0, 0, []),
  (148, .iinc 7 1, 3, 7, 0, 0, 1, 0, []),
  (151, .goto (-115), 3, 21, 0, 0, 0, 0, []),
  (154, .sipush 1000, 3, 0, 0, 0, 1000, 0, []),
  (157, .iload 6, 2, 6, 0, 0, 0, 0, []),
  (159, .imul, 1, 0, 0, 0, 0, 0, []),
  (160, .bipush 100, 2, 0, 0, 0, 100, 0, []),
  (162, .aload_n 0, 1, 0, 0, 0, 0, 0, []),
  (163, .invokevirtual 144, 3, 51, 0, 1, 0, 0, [8]),
  (166, .imul, 1, 0, 0, 0, 0, 0, []),
  (167, .iadd, 1, 0, 0, 0, 0, 0, []),
  (168, .aload_n 0, 1, 0, 0, 0, 0, 0, []),
  (169, .invokevirtual 154, 3, 52, 0, 1, 0, 0, [8]),
  (172, .iadd, 1, 0, 0, 0, 0, 0, []),
  (173, .istore 7, 2, 7, 0, 0, 0, 0, []),
  (175, .aload_n 0, 1, 0, 0, 0, 0, 0, []),
  (176, .invokevirtual 225, 3, 45, 0, 0, 0, 0, [8]),
  (179, .iload 7, 2, 7, 0, 0, 0, 0, []),
  (181, .ireturn, 1, 0, 0, 0, 0, 0, [])]
def zp_107 : List (List Nat) := [[], [], [954], [], [], [], [1307], [1037, 1038, 70, 1039], [], [], [], [1040, 1042, 23, 70, 1043], [], [], [1264, 1266, 53, 70, 1267], [], [], [], [], [], [], [], [], [], [], [946], [], [], [], [], [1308], [], [1309], [], [], [], [], [], [], [], [], [], [], [], [946], [], [], [], [], [], [], [], [], [946], [], [], [], [], [], [], [], [1147, 1149, 39, 70, 1150], [], [], [], [], [1172, 1174, 42, 70, 1175], [], [], [], [946], [], [], [], [], [], [], [], [], [], [], [], [], [], [], [], [], [], [], [], [], [], [1075, 1077, 28, 70, 1078], [], [], [], [1118, 1120, 37, 70, 1121], [], [], [], [1284, 1286, 58, 70, 1287], [], []]
abbrev jX8_save : Nat := 108
def zd_108 : List zm_E := [(0, .aload_n 0, 1, 0, 0, 0, 0, 0, []),
  (1, .iconst 0, 1, 0, 0, 0, 0, 0, []),
  (2, .putfield 71, 3, 8, 8, 0, 0, 0, []),
  (5, .iload_n 1, 1, 1, 0, 0, 0, 0, []),
  (6, .i2l, 1, 0, 0, 0, 0, 0, []),
  (7, .lconst 0, 1, 0, 0, 0, 0, 0, []),
  (8, .lconst 1, 1, 0, 0, 0, 0, 1, []),
  (9, .invokestatic 78, 3, 40, 3, 1, 0, 0, []),
  (12, .ifCond .ne 9, 3, 13, 0, 0, 0, 0, []),
  (15, .aload_n 0, 1, 0, 0, 0, 0, 0, []),
  (16, .iconst 1, 1, 0, 0, 0, 1, 0, []),
  (17, .invokevirtual 119, 3, 43, 1, 1, 0, 0, [8]),
  (20, .ireturn, 1, 0, 0, 0, 0, 0, []),
  (21, .iconst 0, 1, 0, 0, 0, 0, 0, []),
  (22, .istore_n 2, 1, 2, 0, 0, 0, 0, []),
  (23, .iload_n 2, 1, 2, 0, 0, 0, 0, []),
  (24, .bipush 58, 2, 0, 0, 0, 58, 0, []),
  (26, .if_icmp .ge 26, 3, 32, 0, 0, 0, 0, []),
  (29, .aload_n 0, 1, 0, 0, 0, 0, 0, []),
  (30, .getfield 19, 3, 8, 4, 1, 0, 0, []),
  (33, .bipush 58, 2, 0, 0, 0, 58, 0, []),
  (35, .iload_n 1, 1, 1, 0, 0, 0, 0, []),
  (36, .imul, 1, 0, 0, 0, 0, 0, []),
  (37, .iload_n 2, 1, 2, 0, 0, 0, 0, []),
  (38, .iadd, 1, 0, 0, 0, 0, 0, []),
  (39, .aload_n 0, 1, 0, 0, 0, 0, 0, []),
  (40, .getfield 7, 3, 8, 0, 1, 0, 0, []),
  (43, .iload_n 2, 1, 2, 0, 0, 0, 0, []),
  (44, .iaload, 1, 0, 0, 0, 0, 0, []),
  (45, .iastore, 1, 0, 0, 0, 0, 0, []),
  (46, .iinc 2 1, 3, 2, 0, 0, 1, 0, []),
  (49, .goto (-26), 3, 15, 0, 0, 0, 0, []),
  (52, .aload_n 0, 1, 0, 0, 0, 0, 0, []),
  (53, .getfield 22, 3, 8, 5, 1, 0, 0, []),
  (56, .iload_n 1, 1, 1, 0, 0, 0, 0, []),
  (57, .iconst 1, 1, 0, 0, 0, 1, 0, []),
  (58, .bastore, 1, 0, 0, 0, 0, 0, []),
  (59, .aload_n 0, 1, 0, 0, 0, 0, 0, []),
  (60, .getfield 7, 3, 8, 0, 1, 0, 0, []),
  (63, .iconst 0, 1, 0, 0, 0, 0, 0, []),
  (64, .iaload, 1, 0, 0, 0, 0, 0, []),
  (65, .ireturn, 1, 0, 0, 0, 0, 0, [])]
def zp_108 : List (List Nat) := [[], [], [954], [], [], [], [], [1037, 1038, 70, 1039], [], [], [], [1040, 1042, 23, 70, 1043], [], [], [], [], [], [], [], [950], [], [], [], [], [], [], [946], [], [], [], [], [], [], [951], [], [], [], [], [946], [], [], []]
abbrev jX8_restore : Nat := 109
def zd_109 : List zm_E := [(0, .aload_n 0, 1, 0, 0, 0, 0, 0, []),
  (1, .iconst 0, 1, 0, 0, 0, 0, 0, []),
  (2, .putfield 71, 3, 8, 8, 0, 0, 0, []),
  (5, .iload_n 1, 1, 1, 0, 0, 0, 0, []),
  (6, .i2l, 1, 0, 0, 0, 0, 0, []),
  (7, .lconst 0, 1, 0, 0, 0, 0, 0, []),
  (8, .lconst 1, 1, 0, 0, 0, 0, 1, []),
  (9, .invokestatic 78, 3, 40, 3, 1, 0, 0, []),
  (12, .ifCond .ne 9, 3, 13, 0, 0, 0, 0, []),
  (15, .aload_n 0, 1, 0, 0, 0, 0, 0, []),
  (16, .iconst 1, 1, 0, 0, 0, 1, 0, []),
  (17, .invokevirtual 119, 3, 43, 1, 1, 0, 0, [8]),
  (20, .ireturn, 1, 0, 0, 0, 0, 0, []),
  (21, .aload_n 0, 1, 0, 0, 0, 0, 0, []),
  (22, .getfield 22, 3, 8, 5, 1, 0, 0, []),
  (25, .iload_n 1, 1, 1, 0, 0, 0, 0, []),
  (26, .baload, 1, 0, 0, 0, 0, 0, []),
  (27, .ifCond .ne 9, 3, 22, 0, 0, 0, 0, []),
  (30, .aload_n 0, 1, 0, 0, 0, 0, 0, []),
  (31, .iconst 2, 1, 0, 0, 0, 2, 0, []),
  (32, .invokevirtual 119, 3, 43, 1, 1, 0, 0, [8]),
  (35, .ireturn, 1, 0, 0, 0, 0, 0, []),
  (36, .iconst 0, 1, 0, 0, 0, 0, 0, []),
  (37, .istore_n 2, 1, 2, 0, 0, 0, 0, []),
  (38, .iload_n 2, 1, 2, 0, 0, 0, 0, []),
  (39, .bipush 58, 2, 0, 0, 0, 58, 0, []),
  (41, .if_icmp .ge 26, 3, 41, 0, 0, 0, 0, []),
  (44, .aload_n 0, 1, 0, 0, 0, 0, 0, []),
  (45, .getfield 7, 3, 8, 0, 1, 0, 0, []),
  (48, .iload_n 2, 1, 2, 0, 0, 0, 0, []),
  (49, .aload_n 0, 1, 0, 0, 0, 0, 0, []),
  (50, .getfield 19, 3, 8, 4, 1, 0, 0, []),
  (53, .bipush 58, 2, 0, 0, 0, 58, 0, []),
  (55, .iload_n 1, 1, 1, 0, 0, 0, 0, []),
  (56, .imul, 1, 0, 0, 0, 0, 0, []),
  (57, .iload_n 2, 1, 2, 0, 0, 0, 0, []),
  (58, .iadd, 1, 0, 0, 0, 0, 0, []),
  (59, .iaload, 1, 0, 0, 0, 0, 0, []),
  (60, .iastore, 1, 0, 0, 0, 0, 0, []),
  (61, .iinc 2 1, 3, 2, 0, 0, 1, 0, []),
  (64, .goto (-26), 3, 24, 0, 0, 0, 0, []),
  (67, .aload_n 0, 1, 0, 0, 0, 0, 0, []),
  (68, .iconst 0, 1, 0, 0, 0, 0, 0, []),
  (69, .putfield 75, 3, 8, 3, 0, 0, 0, []),
  (72, .aload_n 0, 1, 0, 0, 0, 0, 0, []),
  (73, .getfield 7, 3, 8, 0, 1, 0, 0, []),
  (76, .iconst 0, 1, 0, 0, 0, 0, 0, []),
  (77, .iaload, 1, 0, 0, 0, 0, 0, []),
  (78, .ireturn, 1, 0, 0, 0, 0, 0, [])]
def zp_109 : List (List Nat) := [[], [], [954], [], [], [], [], [1037, 1038, 70, 1039], [], [], [], [1040, 1042, 23, 70, 1043], [], [], [951], [], [], [], [], [], [1040, 1042, 23, 70, 1043], [], [], [], [], [], [], [], [946], [], [], [950], [], [], [], [], [], [], [], [], [], [], [], [949], [], [946], [], [], []]
abbrev jX0_init : Nat := 110
def zd_110 : List zm_E := [(0, .aload_n 0, 1, 0, 0, 0, 0, 0, []),
  (1, .invokespecial 1, 3, 1001, 0, 0, 0, 0, []),
  (4, .aload_n 0, 1, 0, 0, 0, 0, 0, []),
  (5, .bipush 14, 2, 0, 0, 0, 14, 0, []),
  (7, .anewarray 9, 3, 0, 0, 0, 0, 0, []),
  (10, .putfield 11, 3, 0, 0, 1, 0, 0, []),
  (13, .iconst 0, 1, 0, 0, 0, 0, 0, []),
  (14, .istore_n 1, 1, 1, 0, 0, 0, 0, []),
  (15, .iload_n 1, 1, 1, 0, 0, 0, 0, []),
  (16, .bipush 14, 2, 0, 0, 0, 14, 0, []),
  (18, .if_icmp .ge 22, 3, 20, 0, 0, 0, 0, []),
  (21, .aload_n 0, 1, 0, 0, 0, 0, 0, []),
  (22, .getfield 11, 3, 0, 0, 1, 0, 0, []),
  (25, .iload_n 1, 1, 1, 0, 0, 0, 0, []),
  (26, .new 9, 3, 1, 0, 0, 0, 0, []),
  (29, .dup, 1, 0, 0, 0, 0, 0, []),
  (30, .invokespecial 15, 3, 114, 0, 0, 1, 0, []),
  (33, .aastore, 1, 0, 0, 0, 0, 0, []),
  (34, .iinc 1 1, 3, 1, 0, 0, 1, 0, []),
  (37, .goto (-22), 3, 8, 0, 0, 0, 0, []),
  (40, .return_, 1, 0, 0, 0, 0, 0, [])]
def zp_110 : List (List Nat) := [[], [138, 87, 88], [], [], [139], [142], [], [], [], [], [], [], [142], [], [139, 105, 64], [], [2, 107, 64, 108], [], [], [], []]
abbrev jX0_forgetAll : Nat := 111
def zd_111 : List zm_E := [(0, .aload_n 0, 1, 0, 0, 0, 0, 0, []),
  (1, .iconst 0, 1, 0, 0, 0, 0, 0, []),
  (2, .putfield 16, 3, 0, 1, 0, 0, 0, []),
  (5, .return_, 1, 0, 0, 0, 0, 0, [])]
def zp_111 : List (List Nat) := [[], [], [143], []]
abbrev jX0_remember : Nat := 112
def zd_112 : List zm_E := [(0, .aload_n 0, 1, 0, 0, 0, 0, 0, []),
  (1, .getfield 11, 3, 0, 0, 1, 0, 0, []),
  (4, .aload_n 0, 1, 0, 0, 0, 0, 0, []),
  (5, .getfield 20, 3, 0, 2, 0, 0, 0, []),
  (8, .aaload, 1, 0, 0, 0, 0, 0, []),
  (9, .aload_n 1, 1, 1, 0, 0, 0, 0, []),
  (10, .invokevirtual 23, 3, 115, 1, 0, 0, 0, [1]),
  (13, .aload_n 0, 1, 0, 0, 0, 0, 0, []),
  (14, .aload_n 0, 1, 0, 0, 0, 0, 0, []),
  (15, .getfield 20, 3, 0, 2, 0, 0, 0, []),
  (18, .iconst 1, 1, 0, 0, 0, 1, 0, []),
  (19, .iadd, 1, 0, 0, 0, 0, 0, []),
  (20, .bipush 14, 2, 0, 0, 0, 14, 0, []),
  (22, .irem, 1, 0, 0, 0, 0, 0, []),
  (23, .putfield 20, 3, 0, 2, 0, 0, 0, []),
  (26, .aload_n 0, 1, 0, 0, 0, 0, 0, []),
  (27, .aload_n 0, 1, 0, 0, 0, 0, 0, []),
  (28, .getfield 16, 3, 0, 1, 0, 0, 0, []),
  (31, .iconst 1, 1, 0, 0, 0, 1, 0, []),
  (32, .iadd, 1, 0, 0, 0, 0, 0, []),
  (33, .bipush 14, 2, 0, 0, 0, 14, 0, []),
  (35, .invokestatic 27, 3, 1003, 2, 1, 0, 0, []),
  (38, .putfield 16, 3, 0, 1, 0, 0, 0, []),
  (41, .return_, 1, 0, 0, 0, 0, 0, [])]
def zp_112 : List (List Nat) := [[], [142], [], [145], [], [], [346, 347, 348, 64, 349], [], [], [145], [], [], [], [], [145], [], [], [143], [], [], [], [353, 354, 79, 355], [143], []]
abbrev jX0_takeBack : Nat := 113
def zd_113 : List zm_E := [(0, .aload_n 0, 1, 0, 0, 0, 0, 0, []),
  (1, .aload_n 0, 1, 0, 0, 0, 0, 0, []),
  (2, .getfield 20, 3, 0, 2, 0, 0, 0, []),
  (5, .bipush 14, 2, 0, 0, 0, 14, 0, []),
  (7, .iadd, 1, 0, 0, 0, 0, 0, []),
  (8, .iconst 1, 1, 0, 0, 0, 1, 0, []),
  (9, .isub, 1, 0, 0, 0, 0, 0, []),
  (10, .bipush 14, 2, 0, 0, 0, 14, 0, []),
  (12, .irem, 1, 0, 0, 0, 0, 0, []),
  (13, .putfield 20, 3, 0, 2, 0, 0, 0, []),
  (16, .aload_n 0, 1, 0, 0, 0, 0, 0, []),
  (17, .dup, 1, 0, 0, 0, 0, 0, []),
  (18, .getfield 16, 3, 0, 1, 0, 0, 0, []),
  (21, .iconst 1, 1, 0, 0, 0, 1, 0, []),
  (22, .isub, 1, 0, 0, 0, 0, 0, []),
  (23, .putfield 16, 3, 0, 1, 0, 0, 0, []),
  (26, .aload_n 1, 1, 1, 0, 0, 0, 0, []),
  (27, .aload_n 0, 1, 0, 0, 0, 0, 0, []),
  (28, .getfield 11, 3, 0, 0, 1, 0, 0, []),
  (31, .aload_n 0, 1, 0, 0, 0, 0, 0, []),
  (32, .getfield 20, 3, 0, 2, 0, 0, 0, []),
  (35, .aaload, 1, 0, 0, 0, 0, 0, []),
  (36, .invokevirtual 23, 3, 115, 1, 0, 0, 0, [1]),
  (39, .return_, 1, 0, 0, 0, 0, 0, [])]
def zp_113 : List (List Nat) := [[], [], [145], [], [], [], [], [], [], [145], [], [], [143], [], [], [143], [], [], [142], [], [145], [], [346, 347, 348, 64, 349], []]
abbrev jX1_init : Nat := 114
def zd_114 : List zm_E := [(0, .aload_n 0, 1, 0, 0, 0, 0, 0, []),
  (1, .invokespecial 3, 3, 1001, 0, 0, 0, 0, []),
  (4, .aload_n 0, 1, 0, 0, 0, 0, 0, []),
  (5, .bipush 49, 2, 0, 0, 0, 49, 0, []),
  (7, .newarray .int, 2, 0, 0, 0, 0, 0, []),
  (9, .putfield 9, 3, 1, 2, 1, 0, 0, []),
  (12, .aload_n 0, 1, 0, 0, 0, 0, 0, []),
  (13, .bipush 7, 2, 0, 0, 0, 7, 0, []),
  (15, .newarray .int, 2, 0, 0, 0, 0, 0, []),
  (17, .putfield 15, 3, 1, 3, 1, 0, 0, []),
  (20, .return_, 1, 0, 0, 0, 0, 0, [])]
def zp_114 : List (List Nat) := [[], [109, 87, 88], [], [], [103], [117], [], [], [103], [118], []]
abbrev jX1_become : Nat := 115
def zd_115 : List zm_E := [(0, .aload_n 0, 1, 0, 0, 0, 0, 0, []),
  (1, .aload_n 1, 1, 1, 0, 0, 0, 0, []),
  (2, .getfield 18, 3, 1, 0, 0, 0, 0, []),
  (5, .putfield 18, 3, 1, 0, 0, 0, 0, []),
  (8, .aload_n 0, 1, 0, 0, 0, 0, 0, []),
  (9, .aload_n 1, 1, 1, 0, 0, 0, 0, []),
  (10, .getfield 22, 3, 1, 1, 0, 0, 0, []),
  (13, .putfield 22, 3, 1, 1, 0, 0, 0, []),
  (16, .aload_n 1, 1, 1, 0, 0, 0, 0, []),
  (17, .getfield 9, 3, 1, 2, 1, 0, 0, []),
  (20, .iconst 0, 1, 0, 0, 0, 0, 0, []),
  (21, .aload_n 0, 1, 0, 0, 0, 0, 0, []),
  (22, .getfield 9, 3, 1, 2, 1, 0, 0, []),
  (25, .iconst 0, 1, 0, 0, 0, 0, 0, []),
  (26, .aload_n 0, 1, 0, 0, 0, 0, 0, []),
  (27, .getfield 9, 3, 1, 2, 1, 0, 0, []),
  (30, .arraylength, 1, 0, 0, 0, 0, 0, []),
  (31, .invokestatic 25, 3, 1000, 5, 0, 0, 0, []),
  (34, .aload_n 1, 1, 1, 0, 0, 0, 0, []),
  (35, .getfield 15, 3, 1, 3, 1, 0, 0, []),
  (38, .iconst 0, 1, 0, 0, 0, 0, 0, []),
  (39, .aload_n 0, 1, 0, 0, 0, 0, 0, []),
  (40, .getfield 15, 3, 1, 3, 1, 0, 0, []),
  (43, .iconst 0, 1, 0, 0, 0, 0, 0, []),
  (44, .aload_n 0, 1, 0, 0, 0, 0, 0, []),
  (45, .getfield 15, 3, 1, 3, 1, 0, 0, []),
  (48, .arraylength, 1, 0, 0, 0, 0, 0, []),
  (49, .invokestatic 25, 3, 1000, 5, 0, 0, 0, []),
  (52, .return_, 1, 0, 0, 0, 0, 0, [])]
def zp_115 : List (List Nat) := [[], [], [110], [110], [], [], [116], [116], [], [117], [], [], [117], [], [], [117], [], [350, 352, 351, 76], [], [118], [], [], [118], [], [], [118], [], [350, 352, 351, 76], []]
abbrev jX1_has : Nat := 116
def zd_116 : List zm_E := [(0, .iload_n 1, 1, 1, 0, 0, 0, 0, []),
  (1, .ifCond .lt 15, 3, 8, 0, 0, 0, 0, []),
  (4, .iload_n 1, 1, 1, 0, 0, 0, 0, []),
  (5, .aload_n 0, 1, 0, 0, 0, 0, 0, []),
  (6, .getfield 18, 3, 1, 0, 0, 0, 0, []),
  (9, .if_icmp .ge 7, 3, 8, 0, 0, 0, 0, []),
  (12, .iconst 1, 1, 0, 0, 0, 1, 0, []),
  (13, .goto 4, 3, 9, 0, 0, 0, 0, []),
  (16, .iconst 0, 1, 0, 0, 0, 0, 0, []),
  (17, .ireturn, 1, 1, 0, 0, 0, 0, [])]
def zp_116 : List (List Nat) := [[], [], [], [], [110], [], [], [], [], []]
abbrev jX1_everybody : Nat := 117
def zd_117 : List zm_E := [(0, .aload_n 0, 1, 0, 0, 0, 0, 0, []),
  (1, .getfield 18, 3, 1, 0, 0, 0, 0, []),
  (4, .invokestatic 31, 3, 36, 1, 1, 1, 0, []),
  (7, .iconst 1, 1, 0, 0, 0, 1, 0, []),
  (8, .isub, 1, 0, 0, 0, 0, 0, []),
  (9, .ireturn, 1, 0, 0, 0, 0, 0, [])]
def zp_117 : List (List Nat) := [[], [110], [9, 331, 62, 332], [], [], []]
abbrev jX1_present : Nat := 118
def zd_118 : List zm_E := [(0, .aload_n 0, 1, 0, 0, 0, 0, 0, []),
  (1, .invokevirtual 35, 3, 117, 0, 1, 0, 0, [1]),
  (4, .aload_n 0, 1, 0, 0, 0, 0, 0, []),
  (5, .getfield 22, 3, 1, 1, 0, 0, 0, []),
  (8, .iconst (-1), 1, 0, 0, 0, (-1), 0, []),
  (9, .ixor, 1, 0, 0, 0, 0, 0, []),
  (10, .iand, 1, 0, 0, 0, 0, 0, []),
  (11, .ireturn, 1, 0, 0, 0, 0, 0, [])]
def zp_118 : List (List Nat) := [[], [364, 365, 366, 64, 367], [], [116], [], [], [], []]
abbrev jX1_isPresent : Nat := 119
def zd_119 : List zm_E := [(0, .aload_n 0, 1, 0, 0, 0, 0, 0, []),
  (1, .getfield 22, 3, 1, 1, 0, 0, 0, []),
  (4, .iload_n 1, 1, 1, 0, 0, 0, 0, []),
  (5, .invokestatic 39, 3, 37, 2, 1, 1, 0, []),
  (8, .ifCond .ne 7, 3, 7, 0, 0, 0, 0, []),
  (11, .iconst 1, 1, 0, 0, 0, 1, 0, []),
  (12, .goto 4, 3, 8, 0, 0, 0, 0, []),
  (15, .iconst 0, 1, 0, 0, 0, 0, 0, []),
  (16, .ireturn, 1, 1, 0, 0, 0, 0, [])]
def zp_119 : List (List Nat) := [[], [116], [], [12, 328, 62, 329], [], [], [], [], []]
abbrev jX1_presentCount : Nat := 120
def zd_120 : List zm_E := [(0, .aload_n 0, 1, 0, 0, 0, 0, 0, []),
  (1, .invokevirtual 43, 3, 118, 0, 1, 0, 0, [1]),
  (4, .invokestatic 46, 3, 207, 1, 1, 0, 0, []),
  (7, .ireturn, 1, 0, 0, 0, 0, 0, [])]
def zp_120 : List (List Nat) := [[], [610, 361, 362, 64, 363], [611, 431, 77, 432], []]
abbrev jX1_rankBy : Nat := 121
def zd_121 : List zm_E := [(0, .iload_n 1, 1, 1, 0, 0, 0, 0, []),
  (1, .bipush 7, 2, 0, 0, 0, 7, 0, []),
  (3, .imul, 1, 0, 0, 0, 0, 0, []),
  (4, .iload_n 2, 1, 2, 0, 0, 0, 0, []),
  (5, .iadd, 1, 0, 0, 0, 0, 0, []),
  (6, .istore_n 3, 1, 3, 0, 0, 0, 0, []),
  (7, .iload_n 3, 1, 3, 0, 0, 0, 0, []),
  (8, .ifCond .lt 21, 3, 18, 0, 0, 0, 0, []),
  (11, .iload_n 3, 1, 3, 0, 0, 0, 0, []),
  (12, .aload_n 0, 1, 0, 0, 0, 0, 0, []),
  (13, .getfield 9, 3, 1, 2, 1, 0, 0, []),
  (16, .arraylength, 1, 0, 0, 0, 0, 0, []),
  (17, .if_icmp .ge 12, 3, 18, 0, 0, 0, 0, []),
  (20, .aload_n 0, 1, 0, 0, 0, 0, 0, []),
  (21, .getfield 9, 3, 1, 2, 1, 0, 0, []),
  (24, .iload_n 3, 1, 3, 0, 0, 0, 0, []),
  (25, .iaload, 1, 0, 0, 0, 0, 0, []),
  (26, .goto 5, 3, 19, 0, 0, 0, 0, []),
  (29, .bipush (-9), 2, 0, 0, 0, (-9), 0, []),
  (31, .ireturn, 1, 0, 0, 0, 0, 0, [])]
def zp_121 : List (List Nat) := [[], [], [], [], [], [], [], [], [], [], [117], [], [], [], [117], [], [], [], [], []]
abbrev jX1_rankOfHeld : Nat := 122
def zd_122 : List zm_E := [(0, .aload_n 0, 1, 0, 0, 0, 0, 0, []),
  (1, .iload_n 1, 1, 1, 0, 0, 0, 0, []),
  (2, .aload_n 0, 1, 0, 0, 0, 0, 0, []),
  (3, .getfield 15, 3, 1, 3, 1, 0, 0, []),
  (6, .iload_n 1, 1, 1, 0, 0, 0, 0, []),
  (7, .iaload, 1, 0, 0, 0, 0, 0, []),
  (8, .invokevirtual 51, 3, 121, 2, 1, 0, 0, [1]),
  (11, .ireturn, 1, 0, 0, 0, 0, 0, [])]
def zp_122 : List (List Nat) := [[], [], [], [118], [], [], [427, 385, 386, 64, 387], []]
abbrev jX1_putRank : Nat := 123
def zd_123 : List zm_E := [(0, .iload_n 1, 1, 1, 0, 0, 0, 0, []),
  (1, .bipush 7, 2, 0, 0, 0, 7, 0, []),
  (3, .imul, 1, 0, 0, 0, 0, 0, []),
  (4, .iload_n 2, 1, 2, 0, 0, 0, 0, []),
  (5, .iadd, 1, 0, 0, 0, 0, 0, []),
  (6, .istore 4, 2, 4, 0, 0, 0, 0, []),
  (8, .iload 4, 2, 4, 0, 0, 0, 0, []),
  (10, .ifCond .lt 21, 3, 18, 0, 0, 0, 0, []),
  (13, .iload 4, 2, 4, 0, 0, 0, 0, []),
  (15, .aload_n 0, 1, 0, 0, 0, 0, 0, []),
  (16, .getfield 9, 3, 1, 2, 1, 0, 0, []),
  (19, .arraylength, 1, 0, 0, 0, 0, 0, []),
  (20, .if_icmp .ge 11, 3, 18, 0, 0, 0, 0, []),
  (23, .aload_n 0, 1, 0, 0, 0, 0, 0, []),
  (24, .getfield 9, 3, 1, 2, 1, 0, 0, []),
  (27, .iload 4, 2, 4, 0, 0, 0, 0, []),
  (29, .iload_n 3, 1, 3, 0, 0, 0, 0, []),
  (30, .iastore, 1, 0, 0, 0, 0, 0, []),
  (31, .return_, 1, 0, 0, 0, 0, 0, [])]
def zp_123 : List (List Nat) := [[], [], [], [], [], [], [], [], [], [], [117], [], [], [], [117], [], [], [], []]
abbrev jX1_lossBy : Nat := 124
def zd_124 : List zm_E := [(0, .aload_n 0, 1, 0, 0, 0, 0, 0, []),
  (1, .iload_n 1, 1, 1, 0, 0, 0, 0, []),
  (2, .iload_n 2, 1, 2, 0, 0, 0, 0, []),
  (3, .invokevirtual 51, 3, 121, 2, 1, 0, 0, [1]),
  (6, .aload_n 0, 1, 0, 0, 0, 0, 0, []),
  (7, .iload_n 1, 1, 1, 0, 0, 0, 0, []),
  (8, .aload_n 0, 1, 0, 0, 0, 0, 0, []),
  (9, .getfield 15, 3, 1, 3, 1, 0, 0, []),
  (12, .iload_n 1, 1, 1, 0, 0, 0, 0, []),
  (13, .iaload, 1, 0, 0, 0, 0, 0, []),
  (14, .invokevirtual 51, 3, 121, 2, 1, 0, 0, [1]),
  (17, .isub, 1, 0, 0, 0, 0, 0, []),
  (18, .ireturn, 1, 0, 0, 0, 0, 0, [])]
def zp_124 : List (List Nat) := [[], [], [], [427, 385, 386, 64, 387], [], [], [], [118], [], [], [427, 385, 386, 64, 387], [], []]
abbrev jX1_holderOf : Nat := 125
def zd_125 : List zm_E := [(0, .iconst 0, 1, 0, 0, 0, 0, 0, []),
  (1, .istore_n 2, 1, 2, 0, 0, 0, 0, []),
  (2, .iload_n 2, 1, 2, 0, 0, 0, 0, []),
  (3, .aload_n 0, 1, 0, 0, 0, 0, 0, []),
  (4, .getfield 18, 3, 1, 0, 0, 0, 0, []),
  (7, .if_icmp .ge 21, 3, 16, 0, 0, 0, 0, []),
  (10, .aload_n 0, 1, 0, 0, 0, 0, 0, []),
  (11, .getfield 15, 3, 1, 3, 1, 0, 0, []),
  (14, .iload_n 2, 1, 2, 0, 0, 0, 0, []),
  (15, .iaload, 1, 0, 0, 0, 0, 0, []),
  (16, .iload_n 1, 1, 1, 0, 0, 0, 0, []),
  (17, .if_icmp .ne 5, 3, 14, 0, 0, 0, 0, []),
  (20, .iload_n 2, 1, 2, 0, 0, 0, 0, []),
  (21, .ireturn, 1, 0, 0, 0, 0, 0, []),
  (22, .iinc 2 1, 3, 2, 0, 0, 1, 0, []),
  (25, .goto (-23), 3, 2, 0, 0, 0, 0, []),
  (28, .bipush (-9), 2, 0, 0, 0, (-9), 0, []),
  (30, .ireturn, 1, 0, 0, 0, 0, 0, [])]
def zp_125 : List (List Nat) := [[], [], [], [], [110], [], [], [118], [], [], [], [], [], [], [], [], [], []]
abbrev jX1_thingsOf : Nat := 126
def zd_126 : List zm_E := [(0, .iconst 0, 1, 0, 0, 0, 0, 0, []),
  (1, .istore_n 2, 1, 2, 0, 0, 0, 0, []),
  (2, .iconst 0, 1, 0, 0, 0, 0, 0, []),
  (3, .istore_n 3, 1, 3, 0, 0, 0, 0, []),
  (4, .iload_n 3, 1, 3, 0, 0, 0, 0, []),
  (5, .aload_n 0, 1, 0, 0, 0, 0, 0, []),
  (6, .getfield 18, 3, 1, 0, 0, 0, 0, []),
  (9, .if_icmp .ge 29, 3, 22, 0, 0, 0, 0, []),
  (12, .iload_n 1, 1, 1, 0, 0, 0, 0, []),
  (13, .iload_n 3, 1, 3, 0, 0, 0, 0, []),
  (14, .invokestatic 39, 3, 37, 2, 1, 1, 0, []),
  (17, .ifCond .eq 15, 3, 20, 0, 0, 0, 0, []),
  (20, .iload_n 2, 1, 2, 0, 0, 0, 0, []),
  (21, .aload_n 0, 1, 0, 0, 0, 0, 0, []),
  (22, .getfield 15, 3, 1, 3, 1, 0, 0, []),
  (25, .iload_n 3, 1, 3, 0, 0, 0, 0, []),
  (26, .iaload, 1, 0, 0, 0, 0, 0, []),
  (27, .invokestatic 31, 3, 36, 1, 1, 1, 0, []),
  (30, .ior, 1, 0, 0, 0, 0, 0, []),
  (31, .istore_n 2, 1, 2, 0, 0, 0, 0, []),
  (32, .iinc 3 1, 3, 3, 0, 0, 1, 0, []),
  (35, .goto (-31), 3, 4, 0, 0, 0, 0, []),
  (38, .iload_n 2, 1, 2, 0, 0, 0, 0, []),
  (39, .ireturn, 1, 0, 0, 0, 0, 0, [])]
def zp_126 : List (List Nat) := [[], [], [], [], [], [], [110], [], [], [], [12, 328, 62, 329], [], [], [], [118], [], [], [9, 331, 62, 332], [], [], [], [], [], []]
abbrev jX1_ownersWithTheirThing : Nat := 127
def zd_127 : List zm_E := [(0, .iconst 0, 1, 0, 0, 0, 0, 0, []),
  (1, .istore_n 1, 1, 1, 0, 0, 0, 0, []),
  (2, .iconst 0, 1, 0, 0, 0, 0, 0, []),
  (3, .istore_n 2, 1, 2, 0, 0, 0, 0, []),
  (4, .iload_n 2, 1, 2, 0, 0, 0, 0, []),
  (5, .aload_n 0, 1, 0, 0, 0, 0, 0, []),
  (6, .getfield 18, 3, 1, 0, 0, 0, 0, []),
  (9, .if_icmp .ge 22, 3, 17, 0, 0, 0, 0, []),
  (12, .aload_n 0, 1, 0, 0, 0, 0, 0, []),
  (13, .getfield 15, 3, 1, 3, 1, 0, 0, []),
  (16, .iload_n 2, 1, 2, 0, 0, 0, 0, []),
  (17, .iaload, 1, 0, 0, 0, 0, 0, []),
  (18, .iload_n 2, 1, 2, 0, 0, 0, 0, []),
  (19, .if_icmp .ne 6, 3, 15, 0, 0, 0, 0, []),
  (22, .iinc 1 1, 3, 1, 0, 0, 1, 0, []),
  (25, .iinc 2 1, 3, 2, 0, 0, 1, 0, []),
  (28, .goto (-24), 3, 4, 0, 0, 0, 0, []),
  (31, .iload_n 1, 1, 1, 0, 0, 0, 0, []),
  (32, .ireturn, 1, 0, 0, 0, 0, 0, [])]
def zp_127 : List (List Nat) := [[], [], [], [], [], [], [110], [], [], [118], [], [], [], [], [], [], [], [], []]
abbrev jX1_sumOfRanks : Nat := 128
def zd_128 : List zm_E := [(0, .iconst 0, 1, 0, 0, 0, 0, 0, []),
  (1, .istore_n 1, 1, 1, 0, 0, 0, 0, []),
  (2, .iconst 0, 1, 0, 0, 0, 0, 0, []),
  (3, .istore_n 2, 1, 2, 0, 0, 0, 0, []),
  (4, .iload_n 2, 1, 2, 0, 0, 0, 0, []),
  (5, .aload_n 0, 1, 0, 0, 0, 0, 0, []),
  (6, .getfield 18, 3, 1, 0, 0, 0, 0, []),
  (9, .if_icmp .ge 17, 3, 16, 0, 0, 0, 0, []),
  (12, .iload_n 1, 1, 1, 0, 0, 0, 0, []),
  (13, .aload_n 0, 1, 0, 0, 0, 0, 0, []),
  (14, .iload_n 2, 1, 2, 0, 0, 0, 0, []),
  (15, .invokevirtual 55, 3, 122, 1, 1, 0, 0, [1]),
  (18, .iadd, 1, 0, 0, 0, 0, 0, []),
  (19, .istore_n 1, 1, 1, 0, 0, 0, 0, []),
  (20, .iinc 2 1, 3, 2, 0, 0, 1, 0, []),
  (23, .goto (-19), 3, 4, 0, 0, 0, 0, []),
  (26, .iload_n 1, 1, 1, 0, 0, 0, 0, []),
  (27, .ireturn, 1, 0, 0, 0, 0, 0, [])]
def zp_128 : List (List Nat) := [[], [], [], [], [], [], [110], [], [], [], [], [627, 628, 629, 64, 630], [], [], [], [], [], []]
abbrev jX1_envies : Nat := 129
def zd_129 : List zm_E := [(0, .iconst 0, 1, 0, 0, 0, 0, 0, []),
  (1, .istore_n 1, 1, 1, 0, 0, 0, 0, []),
  (2, .iconst 0, 1, 0, 0, 0, 0, 0, []),
  (3, .istore_n 2, 1, 2, 0, 0, 0, 0, []),
  (4, .iload_n 2, 1, 2, 0, 0, 0, 0, []),
  (5, .aload_n 0, 1, 0, 0, 0, 0, 0, []),
  (6, .getfield 18, 3, 1, 0, 0, 0, 0, []),
  (9, .if_icmp .ge 58, 3, 35, 0, 0, 0, 0, []),
  (12, .iconst 0, 1, 0, 0, 0, 0, 0, []),
  (13, .istore_n 3, 1, 3, 0, 0, 0, 0, []),
  (14, .iload_n 3, 1, 3, 0, 0, 0, 0, []),
  (15, .aload_n 0, 1, 0, 0, 0, 0, 0, []),
  (16, .getfield 18, 3, 1, 0, 0, 0, 0, []),
  (19, .if_icmp .ge 42, 3, 33, 0, 0, 0, 0, []),
  (22, .aload_n 0, 1, 0, 0, 0, 0, 0, []),
  (23, .iload_n 2, 1, 2, 0, 0, 0, 0, []),
  (24, .invokevirtual 58, 3, 119, 1, 1, 0, 0, [1]),
  (27, .ifCond .eq 28, 3, 31, 0, 0, 0, 0, []),
  (30, .aload_n 0, 1, 0, 0, 0, 0, 0, []),
  (31, .iload_n 3, 1, 3, 0, 0, 0, 0, []),
  (32, .invokevirtual 58, 3, 119, 1, 1, 0, 0, [1]),
  (35, .ifCond .eq 20, 3, 31, 0, 0, 0, 0, []),
  (38, .aload_n 0, 1, 0, 0, 0, 0, 0, []),
  (39, .iload_n 2, 1, 2, 0, 0, 0, 0, []),
  (40, .aload_n 0, 1, 0, 0, 0, 0, 0, []),
  (41, .getfield 15, 3, 1, 3, 1, 0, 0, []),
  (44, .iload_n 3, 1, 3, 0, 0, 0, 0, []),
  (45, .iaload, 1, 0, 0, 0, 0, 0, []),
  (46, .invokevirtual 62, 3, 124, 2, 1, 0, 0, [1]),
  (49, .ifCond .ge 6, 3, 31, 0, 0, 0, 0, []),
  (52, .iinc 1 1, 3, 1, 0, 0, 1, 0, []),
  (55, .iinc 3 1, 3, 3, 0, 0, 1, 0, []),
  (58, .goto (-44), 3, 10, 0, 0, 0, 0, []),
  (61, .iinc 2 1, 3, 2, 0, 0, 1, 0, []),
  (64, .goto (-60), 3, 4, 0, 0, 0, 0, []),
  (67, .iload_n 1, 1, 1, 0, 0, 0, 0, []),
  (68, .ireturn, 1, 0, 0, 0, 0, 0, [])]
def zp_129 : List (List Nat) := [[], [], [], [], [], [], [110], [], [], [], [], [], [110], [], [], [], [639, 640, 641, 64, 642], [], [], [], [639, 640, 641, 64, 642], [], [], [], [], [118], [], [], [643, 424, 425, 64, 426], [], [], [], [], [], [], [], []]
abbrev jX1_reasonAgainst : Nat := 130
def zd_130 : List zm_E := [(0, .iload_n 1, 1, 1, 0, 0, 0, 0, []),
  (1, .iload_n 2, 1, 2, 0, 0, 0, 0, []),
  (2, .if_icmp .ne 5, 3, 5, 0, 0, 0, 0, []),
  (5, .iconst 1, 1, 0, 0, 0, 1, 0, []),
  (6, .ireturn, 1, 0, 0, 0, 0, 0, []),
  (7, .aload_n 0, 1, 0, 0, 0, 0, 0, []),
  (8, .iload_n 1, 1, 1, 0, 0, 0, 0, []),
  (9, .invokevirtual 58, 3, 119, 1, 1, 0, 0, [1]),
  (12, .ifCond .ne 5, 3, 11, 0, 0, 0, 0, []),
  (15, .iconst 2, 1, 0, 0, 0, 2, 0, []),
  (16, .ireturn, 1, 0, 0, 0, 0, 0, []),
  (17, .aload_n 0, 1, 0, 0, 0, 0, 0, []),
  (18, .iload_n 2, 1, 2, 0, 0, 0, 0, []),
  (19, .invokevirtual 58, 3, 119, 1, 1, 0, 0, [1]),
  (22, .ifCond .ne 5, 3, 17, 0, 0, 0, 0, []),
  (25, .iconst 3, 1, 0, 0, 0, 3, 0, []),
  (26, .ireturn, 1, 0, 0, 0, 0, 0, []),
  (27, .aload_n 0, 1, 0, 0, 0, 0, 0, []),
  (28, .iload_n 1, 1, 1, 0, 0, 0, 0, []),
  (29, .aload_n 0, 1, 0, 0, 0, 0, 0, []),
  (30, .getfield 15, 3, 1, 3, 1, 0, 0, []),
  (33, .iload_n 2, 1, 2, 0, 0, 0, 0, []),
  (34, .iaload, 1, 0, 0, 0, 0, 0, []),
  (35, .invokevirtual 62, 3, 124, 2, 1, 0, 0, [1]),
  (38, .istore_n 3, 1, 3, 0, 0, 0, 0, []),
  (39, .iload_n 3, 1, 3, 0, 0, 0, 0, []),
  (40, .ifCond .le 5, 3, 29, 0, 0, 0, 0, []),
  (43, .iconst 4, 1, 0, 0, 0, 4, 0, []),
  (44, .ireturn, 1, 0, 0, 0, 0, 0, []),
  (45, .aload_n 0, 1, 0, 0, 0, 0, 0, []),
  (46, .iload_n 2, 1, 2, 0, 0, 0, 0, []),
  (47, .aload_n 0, 1, 0, 0, 0, 0, 0, []),
  (48, .getfield 15, 3, 1, 3, 1, 0, 0, []),
  (51, .iload_n 1, 1, 1, 0, 0, 0, 0, []),
  (52, .iaload, 1, 0, 0, 0, 0, 0, []),
  (53, .invokevirtual 62, 3, 124, 2, 1, 0, 0, [1]),
  (56, .istore 4, 2, 4, 0, 0, 0, 0, []),
  (58, .iload 4, 2, 4, 0, 0, 0, 0, []),
  (60, .ifCond .le 5, 3, 41, 0, 0, 0, 0, []),
  (63, .iconst 5, 1, 0, 0, 0, 5, 0, []),
  (64, .ireturn, 1, 0, 0, 0, 0, 0, []),
  (65, .iload_n 3, 1, 3, 0, 0, 0, 0, []),
  (66, .ifCond .ne 13, 3, 47, 0, 0, 0, 0, []),
  (69, .iload 4, 2, 4, 0, 0, 0, 0, []),
  (71, .ifCond .ne 8, 3, 47, 0, 0, 0, 0, []),
  (74, .bipush 6, 2, 0, 0, 0, 6, 0, []),
  (76, .goto 4, 3, 48, 0, 0, 0, 0, []),
  (79, .iconst 0, 1, 0, 0, 0, 0, 0, []),
  (80, .ireturn, 1, 0, 0, 0, 0, 0, [])]
def zp_130 : List (List Nat) := [[], [], [], [], [], [], [], [639, 640, 641, 64, 642], [], [], [], [], [], [639, 640, 641, 64, 642], [], [], [], [], [], [], [118], [], [], [643, 424, 425, 64, 426], [], [], [], [], [], [], [], [], [118], [], [], [643, 424, 425, 64, 426], [], [], [], [], [], [], [], [], [], [], [], [], []]
abbrev jX1_swap : Nat := 131
def zd_131 : List zm_E := [(0, .aload_n 0, 1, 0, 0, 0, 0, 0, []),
  (1, .getfield 15, 3, 1, 3, 1, 0, 0, []),
  (4, .iload_n 1, 1, 1, 0, 0, 0, 0, []),
  (5, .iaload, 1, 0, 0, 0, 0, 0, []),
  (6, .istore_n 3, 1, 3, 0, 0, 0, 0, []),
  (7, .aload_n 0, 1, 0, 0, 0, 0, 0, []),
  (8, .getfield 15, 3, 1, 3, 1, 0, 0, []),
  (11, .iload_n 1, 1, 1, 0, 0, 0, 0, []),
  (12, .aload_n 0, 1, 0, 0, 0, 0, 0, []),
  (13, .getfield 15, 3, 1, 3, 1, 0, 0, []),
  (16, .iload_n 2, 1, 2, 0, 0, 0, 0, []),
  (17, .iaload, 1, 0, 0, 0, 0, 0, []),
  (18, .iastore, 1, 0, 0, 0, 0, 0, []),
  (19, .aload_n 0, 1, 0, 0, 0, 0, 0, []),
  (20, .getfield 15, 3, 1, 3, 1, 0, 0, []),
  (23, .iload_n 2, 1, 2, 0, 0, 0, 0, []),
  (24, .iload_n 3, 1, 3, 0, 0, 0, 0, []),
  (25, .iastore, 1, 0, 0, 0, 0, 0, []),
  (26, .return_, 1, 0, 0, 0, 0, 0, [])]
def zp_131 : List (List Nat) := [[], [118], [], [], [], [], [118], [], [], [118], [], [], [], [], [118], [], [], [], []]
abbrev jX1_take : Nat := 132
def zd_132 : List zm_E := [(0, .iconst 0, 1, 0, 0, 0, 0, 0, []),
  (1, .istore_n 3, 1, 3, 0, 0, 0, 0, []),
  (2, .iconst 0, 1, 0, 0, 0, 0, 0, []),
  (3, .istore 4, 2, 4, 0, 0, 0, 0, []),
  (5, .iload 4, 2, 4, 0, 0, 0, 0, []),
  (7, .aload_n 0, 1, 0, 0, 0, 0, 0, []),
  (8, .getfield 18, 3, 1, 0, 0, 0, 0, []),
  (11, .if_icmp .ge 52, 3, 32, 0, 0, 0, 0, []),
  (14, .iload_n 2, 1, 2, 0, 0, 0, 0, []),
  (15, .iload 4, 2, 4, 0, 0, 0, 0, []),
  (17, .invokestatic 39, 3, 37, 2, 1, 1, 0, []),
  (20, .ifCond .eq 37, 3, 30, 0, 0, 0, 0, []),
  (23, .aload_n 0, 1, 0, 0, 0, 0, 0, []),
  (24, .getfield 15, 3, 1, 3, 1, 0, 0, []),
  (27, .iload 4, 2, 4, 0, 0, 0, 0, []),
  (29, .iaload, 1, 0, 0, 0, 0, 0, []),
  (30, .aload_n 1, 1, 1, 0, 0, 0, 0, []),
  (31, .getfield 65, 3, 6, 2, 1, 0, 0, []),
  (34, .iload 4, 2, 4, 0, 0, 0, 0, []),
  (36, .iaload, 1, 0, 0, 0, 0, 0, []),
  (37, .if_icmp .eq 20, 3, 30, 0, 0, 0, 0, []),
  (40, .aload_n 0, 1, 0, 0, 0, 0, 0, []),
  (41, .getfield 15, 3, 1, 3, 1, 0, 0, []),
  (44, .iload 4, 2, 4, 0, 0, 0, 0, []),
  (46, .aload_n 1, 1, 1, 0, 0, 0, 0, []),
  (47, .getfield 65, 3, 6, 2, 1, 0, 0, []),
  (50, .iload 4, 2, 4, 0, 0, 0, 0, []),
  (52, .iaload, 1, 0, 0, 0, 0, 0, []),
  (53, .iastore, 1, 0, 0, 0, 0, 0, []),
  (54, .iinc 3 1, 3, 3, 0, 0, 1, 0, []),
  (57, .iinc 4 1, 3, 4, 0, 0, 1, 0, []),
  (60, .goto (-55), 3, 4, 0, 0, 0, 0, []),
  (63, .iload_n 3, 1, 3, 0, 0, 0, 0, []),
  (64, .ireturn, 1, 0, 0, 0, 0, 0, [])]
def zp_132 : List (List Nat) := [[], [], [], [], [], [], [110], [], [], [], [12, 328, 62, 329], [], [], [118], [], [], [], [165], [], [], [], [], [118], [], [], [165], [], [], [], [], [], [], [], []]
abbrev jX1_sendAway : Nat := 133
def zd_133 : List zm_E := [(0, .aload_n 0, 1, 0, 0, 0, 0, 0, []),
  (1, .dup, 1, 0, 0, 0, 0, 0, []),
  (2, .getfield 22, 3, 1, 1, 0, 0, 0, []),
  (5, .iload_n 1, 1, 1, 0, 0, 0, 0, []),
  (6, .invokestatic 31, 3, 36, 1, 1, 1, 0, []),
  (9, .ior, 1, 0, 0, 0, 0, 0, []),
  (10, .putfield 22, 3, 1, 1, 0, 0, 0, []),
  (13, .return_, 1, 0, 0, 0, 0, 0, [])]
def zp_133 : List (List Nat) := [[], [], [116], [], [9, 331, 62, 332], [], [116], []]
abbrev jX1_sendHome : Nat := 134
def zd_134 : List zm_E := [(0, .aload_n 0, 1, 0, 0, 0, 0, 0, []),
  (1, .iconst 0, 1, 0, 0, 0, 0, 0, []),
  (2, .putfield 22, 3, 1, 1, 0, 0, 0, []),
  (5, .iconst 0, 1, 0, 0, 0, 0, 0, []),
  (6, .istore_n 1, 1, 1, 0, 0, 0, 0, []),
  (7, .iconst 0, 1, 0, 0, 0, 0, 0, []),
  (8, .istore_n 2, 1, 2, 0, 0, 0, 0, []),
  (9, .iload_n 2, 1, 2, 0, 0, 0, 0, []),
  (10, .aload_n 0, 1, 0, 0, 0, 0, 0, []),
  (11, .getfield 18, 3, 1, 0, 0, 0, 0, []),
  (14, .if_icmp .ge 29, 3, 25, 0, 0, 0, 0, []),
  (17, .aload_n 0, 1, 0, 0, 0, 0, 0, []),
  (18, .getfield 15, 3, 1, 3, 1, 0, 0, []),
  (21, .iload_n 2, 1, 2, 0, 0, 0, 0, []),
  (22, .iaload, 1, 0, 0, 0, 0, 0, []),
  (23, .iload_n 2, 1, 2, 0, 0, 0, 0, []),
  (24, .if_icmp .eq 13, 3, 23, 0, 0, 0, 0, []),
  (27, .aload_n 0, 1, 0, 0, 0, 0, 0, []),
  (28, .getfield 15, 3, 1, 3, 1, 0, 0, []),
  (31, .iload_n 2, 1, 2, 0, 0, 0, 0, []),
  (32, .iload_n 2, 1, 2, 0, 0, 0, 0, []),
  (33, .iastore, 1, 0, 0, 0, 0, 0, []),
  (34, .iinc 1 1, 3, 1, 0, 0, 1, 0, []),
  (37, .iinc 2 1, 3, 2, 0, 0, 1, 0, []),
  (40, .goto (-31), 3, 7, 0, 0, 0, 0, []),
  (43, .iload_n 1, 1, 1, 0, 0, 0, 0, []),
  (44, .ireturn, 1, 0, 0, 0, 0, 0, [])]
def zp_134 : List (List Nat) := [[], [], [116], [], [], [], [], [], [], [110], [], [], [118], [], [], [], [], [], [118], [], [], [], [], [], [], [], []]
abbrev jX1_begin : Nat := 135
def zd_135 : List zm_E := [(0, .aload_n 0, 1, 0, 0, 0, 0, 0, []),
  (1, .iload_n 1, 1, 1, 0, 0, 0, 0, []),
  (2, .putfield 18, 3, 1, 0, 0, 0, 0, []),
  (5, .aload_n 0, 1, 0, 0, 0, 0, 0, []),
  (6, .invokevirtual 70, 3, 134, 0, 1, 0, 0, [1]),
  (9, .pop, 1, 0, 0, 0, 0, 0, []),
  (10, .return_, 1, 0, 0, 0, 0, 0, [])]
def zp_135 : List (List Nat) := [[], [], [110], [], [311, 312, 313, 64, 314], [], []]
abbrev jX1_addOne : Nat := 136
def zd_136 : List zm_E := [(0, .aload_n 0, 1, 0, 0, 0, 0, 0, []),
  (1, .getfield 18, 3, 1, 0, 0, 0, 0, []),
  (4, .istore_n 1, 1, 1, 0, 0, 0, 0, []),
  (5, .aload_n 0, 1, 0, 0, 0, 0, 0, []),
  (6, .dup, 1, 0, 0, 0, 0, 0, []),
  (7, .getfield 18, 3, 1, 0, 0, 0, 0, []),
  (10, .iconst 1, 1, 0, 0, 0, 1, 0, []),
  (11, .iadd, 1, 0, 0, 0, 0, 0, []),
  (12, .putfield 18, 3, 1, 0, 0, 0, 0, []),
  (15, .aload_n 0, 1, 0, 0, 0, 0, 0, []),
  (16, .getfield 15, 3, 1, 3, 1, 0, 0, []),
  (19, .iload_n 1, 1, 1, 0, 0, 0, 0, []),
  (20, .iload_n 1, 1, 1, 0, 0, 0, 0, []),
  (21, .iastore, 1, 0, 0, 0, 0, 0, []),
  (22, .iconst 0, 1, 0, 0, 0, 0, 0, []),
  (23, .istore_n 2, 1, 2, 0, 0, 0, 0, []),
  (24, .iload_n 2, 1, 2, 0, 0, 0, 0, []),
  (25, .iload_n 1, 1, 1, 0, 0, 0, 0, []),
  (26, .if_icmp .ge 23, 3, 31, 0, 0, 0, 0, []),
  (29, .aload_n 0, 1, 0, 0, 0, 0, 0, []),
  (30, .iload_n 1, 1, 1, 0, 0, 0, 0, []),
  (31, .iload_n 2, 1, 2, 0, 0, 0, 0, []),
  (32, .iconst 5, 1, 0, 0, 0, 5, 0, []),
  (33, .invokevirtual 73, 3, 123, 3, 0, 0, 0, [1]),
  (36, .aload_n 0, 1, 0, 0, 0, 0, 0, []),
  (37, .iload_n 2, 1, 2, 0, 0, 0, 0, []),
  (38, .iload_n 1, 1, 1, 0, 0, 0, 0, []),
  (39, .iconst 5, 1, 0, 0, 0, 5, 0, []),
  (40, .invokevirtual 73, 3, 123, 3, 0, 0, 0, [1]),
  (43, .iinc 2 1, 3, 2, 0, 0, 1, 0, []),
  (46, .goto (-22), 3, 16, 0, 0, 0, 0, []),
  (49, .aload_n 0, 1, 0, 0, 0, 0, 0, []),
  (50, .iload_n 1, 1, 1, 0, 0, 0, 0, []),
  (51, .iload_n 1, 1, 1, 0, 0, 0, 0, []),
  (52, .bipush 6, 2, 0, 0, 0, 6, 0, []),
  (54, .invokevirtual 73, 3, 123, 3, 0, 0, 0, [1]),
  (57, .iload_n 1, 1, 1, 0, 0, 0, 0, []),
  (58, .ireturn, 1, 0, 0, 0, 0, 0, [])]
def zp_136 : List (List Nat) := [[], [110], [], [], [], [110], [], [], [110], [], [118], [], [], [], [], [], [], [], [], [], [], [], [], [749, 320, 321, 64, 322], [], [], [], [], [749, 320, 321, 64, 322], [], [], [], [], [], [], [749, 320, 321, 64, 322], [], []]
abbrev jX2_init : Nat := 137
def zd_137 : List zm_E := [(0, .aload_n 0, 1, 0, 0, 0, 0, 0, []),
  (1, .invokespecial 1, 3, 1001, 0, 0, 0, 0, []),
  (4, .aload_n 0, 1, 0, 0, 0, 0, 0, []),
  (5, .iconst 4, 1, 0, 0, 0, 4, 0, []),
  (6, .newarray .int, 2, 0, 0, 0, 0, 0, []),
  (8, .putfield 9, 3, 2, 0, 1, 0, 0, []),
  (11, .return_, 1, 0, 0, 0, 0, 0, [])]
def zp_137 : List (List Nat) := [[], [245, 87, 88], [], [], [103], [246], []]
abbrev jX2_takes : Nat := 138
def zd_138 : List zm_E := [(0, .aload_n 0, 1, 0, 0, 0, 0, 0, []),
  (1, .iload_n 1, 1, 1, 0, 0, 0, 0, []),
  (2, .iconst 4, 1, 0, 0, 0, 4, 0, []),
  (3, .invokestatic 13, 3, 1003, 2, 1, 0, 0, []),
  (6, .putfield 19, 3, 2, 1, 0, 0, 0, []),
  (9, .lload_n 2, 1, 2, 0, 0, 0, 0, []),
  (10, .lstore 4, 2, 4, 0, 0, 0, 0, []),
  (12, .aload_n 0, 1, 0, 0, 0, 0, 0, []),
  (13, .getfield 19, 3, 2, 1, 0, 0, 0, []),
  (16, .iconst 1, 1, 0, 0, 0, 1, 0, []),
  (17, .isub, 1, 0, 0, 0, 0, 0, []),
  (18, .istore 6, 2, 6, 0, 0, 0, 0, []),
  (20, .iload 6, 2, 6, 0, 0, 0, 0, []),
  (22, .ifCond .lt 31, 3, 28, 0, 0, 0, 0, []),
  (25, .aload_n 0, 1, 0, 0, 0, 0, 0, []),
  (26, .getfield 9, 3, 2, 0, 1, 0, 0, []),
  (29, .iload 6, 2, 6, 0, 0, 0, 0, []),
  (31, .lload 4, 2, 4, 0, 0, 0, 0, []),
  (33, .ldc2_w 23, 3, 0, 0, 0, 0, 10000, []),
  (36, .lrem, 1, 0, 0, 0, 0, 0, []),
  (37, .l2i, 1, 0, 0, 0, 0, 0, []),
  (38, .iastore, 1, 0, 0, 0, 0, 0, []),
  (39, .lload 4, 2, 4, 0, 0, 0, 0, []),
  (41, .ldc2_w 23, 3, 0, 0, 0, 0, 10000, []),
  (44, .ldiv, 1, 0, 0, 0, 0, 0, []),
  (45, .lstore 4, 2, 4, 0, 0, 0, 0, []),
  (47, .iinc 6 (-1), 3, 6, 0, 0, (-1), 0, []),
  (50, .goto (-30), 3, 12, 0, 0, 0, 0, []),
  (53, .lload 4, 2, 4, 0, 0, 0, 0, []),
  (55, .lconst 0, 1, 0, 0, 0, 0, 0, []),
  (56, .lcmp, 1, 0, 0, 0, 0, 0, []),
  (57, .ifCond .ne 7, 3, 34, 0, 0, 0, 0, []),
  (60, .iconst 1, 1, 0, 0, 0, 1, 0, []),
  (61, .goto 4, 3, 35, 0, 0, 0, 0, []),
  (64, .iconst 0, 1, 0, 0, 0, 0, 0, []),
  (65, .ireturn, 1, 1, 0, 0, 0, 0, [])]
def zp_138 : List (List Nat) := [[], [], [], [869, 354, 79, 355], [247], [], [], [], [247], [], [], [], [], [], [], [246], [], [], [870], [], [], [], [], [870], [], [], [], [], [], [], [], [], [], [], [], []]
abbrev jX2_succeeds : Nat := 139
def zd_139 : List zm_E := [(0, .iload_n 1, 1, 1, 0, 0, 0, 0, []),
  (1, .ifCond .lt 20, 3, 11, 0, 0, 0, 0, []),
  (4, .iload_n 1, 1, 1, 0, 0, 0, 0, []),
  (5, .aload_n 0, 1, 0, 0, 0, 0, 0, []),
  (6, .getfield 19, 3, 2, 1, 0, 0, 0, []),
  (9, .if_icmp .ge 12, 3, 11, 0, 0, 0, 0, []),
  (12, .aload_n 0, 1, 0, 0, 0, 0, 0, []),
  (13, .getfield 9, 3, 2, 0, 1, 0, 0, []),
  (16, .iload_n 1, 1, 1, 0, 0, 0, 0, []),
  (17, .iaload, 1, 0, 0, 0, 0, 0, []),
  (18, .goto 4, 3, 12, 0, 0, 0, 0, []),
  (21, .iconst 0, 1, 0, 0, 0, 0, 0, []),
  (22, .istore 5, 2, 5, 0, 0, 0, 0, []),
  (24, .iload 5, 2, 5, 0, 0, 0, 0, []),
  (26, .bipush 100, 2, 0, 0, 0, 100, 0, []),
  (28, .idiv, 1, 0, 0, 0, 0, 0, []),
  (29, .bipush 10, 2, 0, 0, 0, 10, 0, []),
  (31, .irem, 1, 0, 0, 0, 0, 0, []),
  (32, .istore 6, 2, 6, 0, 0, 0, 0, []),
  (34, .iload 5, 2, 5, 0, 0, 0, 0, []),
  (36, .bipush 10, 2, 0, 0, 0, 10, 0, []),
  (38, .idiv, 1, 0, 0, 0, 0, 0, []),
  (39, .bipush 10, 2, 0, 0, 0, 10, 0, []),
  (41, .irem, 1, 0, 0, 0, 0, 0, []),
  (42, .istore 7, 2, 7, 0, 0, 0, 0, []),
  (44, .iload 5, 2, 5, 0, 0, 0, 0, []),
  (46, .bipush 10, 2, 0, 0, 0, 10, 0, []),
  (48, .irem, 1, 0, 0, 0, 0, 0, []),
  (49, .istore 8, 2, 8, 0, 0, 0, 0, []),
  (51, .iload 5, 2, 5, 0, 0, 0, 0, []),
  (53, .sipush 1000, 3, 0, 0, 0, 1000, 0, []),
  (56, .idiv, 1, 0, 0, 0, 0, 0, []),
  (57, .tableswitch 298 1 9 #[51, 73, 99, 128, 153, 164, 192, 233, 259], 51, 156, 0, 0, 1, 0, [33, 44, 57, 71, 83, 89, 102, 122, 136]),
  (108, .iload 8, 2, 8, 0, 0, 0, 0, []),
  (110, .ifCond .ne 18, 3, 42, 0, 0, 0, 0, []),
  (113, .aload_n 2, 1, 2, 0, 0, 0, 0, []),
  (114, .iload 6, 2, 6, 0, 0, 0, 0, []),
  (116, .iload 7, 2, 7, 0, 0, 0, 0, []),
  (118, .invokestatic 25, 3, 140, 3, 1, 0, 0, []),
  (121, .ifCond .eq 7, 3, 42, 0, 0, 0, 0, []),
  (124, .iconst 1, 1, 0, 0, 0, 1, 0, []),
  (125, .goto 4, 3, 43, 0, 0, 0, 0, []),
  (128, .iconst 0, 1, 0, 0, 0, 0, 0, []),
  (129, .ireturn, 1, 1, 0, 0, 0, 0, []),
  (130, .iload 7, 2, 7, 0, 0, 0, 0, []),
  (132, .ifCond .ne 22, 3, 55, 0, 0, 0, 0, []),
  (135, .iload 8, 2, 8, 0, 0, 0, 0, []),
  (137, .ifCond .ne 17, 3, 55, 0, 0, 0, 0, []),
  (140, .aload_n 2, 1, 2, 0, 0, 0, 0, []),
  (141, .aload_n 3, 1, 3, 0, 0, 0, 0, []),
  (142, .iload 6, 2, 6, 0, 0, 0, 0, []),
  (144, .invokestatic 29, 3, 141, 3, 1, 0, 0, []),
  (147, .ifCond .eq 7, 3, 55, 0, 0, 0, 0, []),
  (150, .iconst 1, 1, 0, 0, 0, 1, 0, []),
  (151, .goto 4, 3, 56, 0, 0, 0, 0, []),
  (154, .iconst 0, 1, 0, 0, 0, 0, 0, []),
  (155, .ireturn, 1, 1, 0, 0, 0, 0, []),
  (156, .iload 6, 2, 6, 0, 0, 0, 0, []),
  (158, .ifCond .ne 25, 3, 69, 0, 0, 0, 0, []),
  (161, .iload 7, 2, 7, 0, 0, 0, 0, []),
  (163, .ifCond .ne 20, 3, 69, 0, 0, 0, 0, []),
  (166, .iload 8, 2, 8, 0, 0, 0, 0, []),
  (168, .ifCond .ne 15, 3, 69, 0, 0, 0, 0, []),
  (171, .aload_n 2, 1, 2, 0, 0, 0, 0, []),
  (172, .aload_n 3, 1, 3, 0, 0, 0, 0, []),
  (173, .invokestatic 33, 3, 142, 2, 1, 0, 0, []),
  (176, .ifCond .eq 7, 3, 69, 0, 0, 0, 0, []),
  (179, .iconst 1, 1, 0, 0, 0, 1, 0, []),
  (180, .goto 4, 3, 70, 0, 0, 0, 0, []),
  (183, .iconst 0, 1, 0, 0, 0, 0, 0, []),
  (184, .ireturn, 1, 1, 0, 0, 0, 0, []),
  (185, .iload 7, 2, 7, 0, 0, 0, 0, []),
  (187, .ifCond .ne 21, 3, 81, 0, 0, 0, 0, []),
  (190, .iload 8, 2, 8, 0, 0, 0, 0, []),
  (192, .ifCond .ne 16, 3, 81, 0, 0, 0, 0, []),
  (195, .aload_n 2, 1, 2, 0, 0, 0, 0, []),
  (196, .iload 6, 2, 6, 0, 0, 0, 0, []),
  (198, .invokestatic 37, 3, 143, 2, 1, 0, 0, []),
  (201, .ifCond .eq 7, 3, 81, 0, 0, 0, 0, []),
  (204, .iconst 1, 1, 0, 0, 0, 1, 0, []),
  (205, .goto 4, 3, 82, 0, 0, 0, 0, []),
  (208, .iconst 0, 1, 0, 0, 0, 0, 0, []),
  (209, .ireturn, 1, 1, 0, 0, 0, 0, []),
  (210, .aload_n 2, 1, 2, 0, 0, 0, 0, []),
  (211, .iload 6, 2, 6, 0, 0, 0, 0, []),
  (213, .iload 7, 2, 7, 0, 0, 0, 0, []),
  (215, .iload 8, 2, 8, 0, 0, 0, 0, []),
  (217, .invokestatic 41, 3, 144, 4, 1, 0, 0, []),
  (220, .ireturn, 1, 1, 0, 0, 0, 0, []),
  (221, .iload 6, 2, 6, 0, 0, 0, 0, []),
  (223, .ifCond .ne 24, 3, 100, 0, 0, 0, 0, []),
  (226, .iload 7, 2, 7, 0, 0, 0, 0, []),
  (228, .ifCond .ne 19, 3, 100, 0, 0, 0, 0, []),
  (231, .iload 8, 2, 8, 0, 0, 0, 0, []),
  (233, .ifCond .ne 14, 3, 100, 0, 0, 0, 0, []),
  (236, .aload_n 2, 1, 2, 0, 0, 0, 0, []),
  (237, .invokestatic 45, 3, 145, 1, 1, 0, 0, []),
  (240, .ifCond .eq 7, 3, 100, 0, 0, 0, 0, []),
  (243, .iconst 1, 1, 0, 0, 0, 1, 0, []),
  (244, .goto 4, 3, 101, 0, 0, 0, 0, []),
  (247, .iconst 0, 1, 0, 0, 0, 0, 0, []),
  (248, .ireturn, 1, 1, 0, 0, 0, 0, []),
  (249, .iload 8, 2, 8, 0, 0, 0, 0, []),
  (251, .ifCond .ne 37, 3, 120, 0, 0, 0, 0, []),
  (254, .aload_n 2, 1, 2, 0, 0, 0, 0, []),
  (255, .iload 6, 2, 6, 0, 0, 0, 0, []),
  (257, .invokevirtual 49, 3, 116, 1, 1, 0, 0, [1]),
  (260, .ifCond .eq 28, 3, 120, 0, 0, 0, 0, []),
  (263, .aload_n 2, 1, 2, 0, 0, 0, 0, []),
  (264, .iload 7, 2, 7, 0, 0, 0, 0, []),
  (266, .invokevirtual 49, 3, 116, 1, 1, 0, 0, [1]),
  (269, .ifCond .eq 19, 3, 120, 0, 0, 0, 0, []),
  (272, .aload_n 2, 1, 2, 0, 0, 0, 0, []),
  (273, .getfield 55, 3, 1, 3, 1, 0, 0, []),
  (276, .iload 6, 2, 6, 0, 0, 0, 0, []),
  (278, .iaload, 1, 0, 0, 0, 0, 0, []),
  (279, .iload 7, 2, 7, 0, 0, 0, 0, []),
  (281, .if_icmp .ne 7, 3, 120, 0, 0, 0, 0, []),
  (284, .iconst 1, 1, 0, 0, 0, 1, 0, []),
  (285, .goto 4, 3, 121, 0, 0, 0, 0, []),
  (288, .iconst 0, 1, 0, 0, 0, 0, 0, []),
  (289, .ireturn, 1, 1, 0, 0, 0, 0, []),
  (290, .iload 6, 2, 6, 0, 0, 0, 0, []),
  (292, .ifCond .ne 22, 3, 134, 0, 0, 0, 0, []),
  (295, .aload_n 2, 1, 2, 0, 0, 0, 0, []),
  (296, .invokevirtual 58, 3, 128, 0, 1, 0, 0, [1]),
  (299, .iload 7, 2, 7, 0, 0, 0, 0, []),
  (301, .bipush 10, 2, 0, 0, 0, 10, 0, []),
  (303, .imul, 1, 0, 0, 0, 0, 0, []),
  (304, .iload 8, 2, 8, 0, 0, 0, 0, []),
  (306, .iadd, 1, 0, 0, 0, 0, 0, []),
  (307, .if_icmp .gt 7, 3, 134, 0, 0, 0, 0, []),
  (310, .iconst 1, 1, 0, 0, 0, 1, 0, []),
  (311, .goto 4, 3, 135, 0, 0, 0, 0, []),
  (314, .iconst 0, 1, 0, 0, 0, 0, 0, []),
  (315, .ireturn, 1, 1, 0, 0, 0, 0, []),
  (316, .iload 6, 2, 6, 0, 0, 0, 0, []),
  (318, .ifCond .ne 35, 3, 154, 0, 0, 0, 0, []),
  (321, .iload 7, 2, 7, 0, 0, 0, 0, []),
  (323, .iconst 1, 1, 0, 0, 0, 1, 0, []),
  (324, .if_icmp .gt 29, 3, 154, 0, 0, 0, 0, []),
  (327, .aload 4, 2, 4, 0, 0, 0, 0, []),
  (329, .aload_n 2, 1, 2, 0, 0, 0, 0, []),
  (330, .iload 7, 2, 7, 0, 0, 0, 0, []),
  (332, .iconst 1, 1, 0, 0, 0, 1, 0, []),
  (333, .if_icmp .ne 7, 3, 148, 0, 0, 0, 0, []),
  (336, .iconst 1, 1, 0, 0, 0, 1, 0, []),
  (337, .goto 4, 3, 149, 0, 0, 0, 0, []),
  (340, .iconst 0, 1, 0, 0, 0, 0, 0, []),
  (341, .invokevirtual 62, 3, 155, 2, 1, 0, 0, [4]),
  (344, .iload 8, 2, 8, 0, 0, 0, 0, []),
  (346, .if_icmp .gt 7, 3, 154, 0, 0, 0, 0, []),
  (349, .iconst 1, 1, 0, 0, 0, 1, 0, []),
  (350, .goto 4, 3, 155, 0, 0, 0, 0, []),
  (353, .iconst 0, 1, 0, 0, 0, 0, 0, []),
  (354, .ireturn, 1, 1, 0, 0, 0, 0, []),
  (355, .iconst 0, 1, 0, 0, 0, 0, 0, []),
  (356, .ireturn, 1, 1, 0, 0, 0, 0, [])]
def zp_139 : List (List Nat) := [[], [], [], [], [247], [], [], [246], [], [], [], [], [], [], [], [], [], [], [], [], [], [], [], [], [], [], [], [], [], [], [], [], [], [], [], [], [], [], [876, 877, 69, 878], [], [], [], [], [], [], [], [], [], [], [], [], [882, 883, 69, 884], [], [], [], [], [], [], [], [], [], [], [], [], [], [889, 890, 69, 891], [], [], [], [], [], [], [], [], [], [], [], [892, 893, 69, 894], [], [], [], [], [], [], [], [], [], [897, 898, 69, 899], [], [], [], [], [], [], [], [], [901, 902, 69, 903], [], [], [], [], [], [], [], [], [], [879, 658, 659, 64, 660], [], [], [], [879, 658, 659, 64, 660], [], [], [120], [], [], [], [], [], [], [], [], [], [], [], [905, 624, 625, 64, 626], [], [], [], [], [], [], [], [], [], [], [], [], [], [], [], [], [], [], [], [], [], [], [], [906, 458, 459, 67, 460], [], [], [], [], [], [], [], []]
abbrev jX2_exchanges : Nat := 140
def zd_140 : List zm_E := [(0, .aload_n 0, 1, 0, 0, 0, 0, 0, []),
  (1, .iload_n 1, 1, 1, 0, 0, 0, 0, []),
  (2, .invokevirtual 49, 3, 116, 1, 1, 0, 0, [1]),
  (5, .ifCond .eq 20, 3, 13, 0, 0, 0, 0, []),
  (8, .aload_n 0, 1, 0, 0, 0, 0, 0, []),
  (9, .iload_n 2, 1, 2, 0, 0, 0, 0, []),
  (10, .invokevirtual 49, 3, 116, 1, 1, 0, 0, [1]),
  (13, .ifCond .eq 12, 3, 13, 0, 0, 0, 0, []),
  (16, .aload_n 0, 1, 0, 0, 0, 0, 0, []),
  (17, .iload_n 1, 1, 1, 0, 0, 0, 0, []),
  (18, .iload_n 2, 1, 2, 0, 0, 0, 0, []),
  (19, .invokevirtual 68, 3, 130, 2, 1, 0, 0, [1]),
  (22, .ifCond .eq 5, 3, 15, 0, 0, 0, 0, []),
  (25, .iconst 0, 1, 0, 0, 0, 0, 0, []),
  (26, .ireturn, 1, 1, 0, 0, 0, 0, []),
  (27, .aload_n 0, 1, 0, 0, 0, 0, 0, []),
  (28, .iload_n 1, 1, 1, 0, 0, 0, 0, []),
  (29, .iload_n 2, 1, 2, 0, 0, 0, 0, []),
  (30, .invokevirtual 71, 3, 131, 2, 0, 0, 0, [1]),
  (33, .iconst 1, 1, 0, 0, 0, 1, 0, []),
  (34, .ireturn, 1, 1, 0, 0, 0, 0, [])]
def zp_140 : List (List Nat) := [[], [], [879, 658, 659, 64, 660], [], [], [], [879, 658, 659, 64, 660], [], [], [], [], [880, 734, 735, 64, 736], [], [], [], [], [], [], [881, 768, 769, 64, 770], [], []]
abbrev jX2_doesRing : Nat := 141
def zd_141 : List zm_E := [(0, .aload_n 1, 1, 1, 0, 0, 0, 0, []),
  (1, .aload_n 0, 1, 0, 0, 0, 0, 0, []),
  (2, .aload_n 0, 1, 0, 0, 0, 0, 0, []),
  (3, .invokevirtual 75, 3, 118, 0, 1, 0, 0, [1]),
  (6, .invokevirtual 78, 3, 175, 2, 0, 0, 0, [6]),
  (9, .aload_n 1, 1, 1, 0, 0, 0, 0, []),
  (10, .iload_n 2, 1, 2, 0, 0, 0, 0, []),
  (11, .invokevirtual 84, 3, 176, 1, 1, 0, 0, [6]),
  (14, .ifCond .ne 5, 3, 11, 0, 0, 0, 0, []),
  (17, .iconst 0, 1, 0, 0, 0, 0, 0, []),
  (18, .ireturn, 1, 1, 0, 0, 0, 0, []),
  (19, .aload_n 0, 1, 0, 0, 0, 0, 0, []),
  (20, .aload_n 1, 1, 1, 0, 0, 0, 0, []),
  (21, .aload_n 1, 1, 1, 0, 0, 0, 0, []),
  (22, .getfield 87, 3, 6, 6, 1, 0, 0, []),
  (25, .iload_n 2, 1, 2, 0, 0, 0, 0, []),
  (26, .iaload, 1, 0, 0, 0, 0, 0, []),
  (27, .invokevirtual 90, 3, 132, 2, 1, 0, 0, [1]),
  (30, .pop, 1, 0, 0, 0, 0, 0, []),
  (31, .iconst 1, 1, 0, 0, 0, 1, 0, []),
  (32, .ireturn, 1, 1, 0, 0, 0, 0, [])]
def zp_141 : List (List Nat) := [[], [], [], [885, 361, 362, 64, 363], [886, 369, 370, 66, 371], [], [], [887, 715, 716, 66, 717], [], [], [], [], [], [], [173], [], [], [888, 402, 403, 64, 404], [], [], []]
abbrev jX2_trades : Nat := 142
def zd_142 : List zm_E := [(0, .aload_n 1, 1, 1, 0, 0, 0, 0, []),
  (1, .aload_n 0, 1, 0, 0, 0, 0, 0, []),
  (2, .aload_n 0, 1, 0, 0, 0, 0, 0, []),
  (3, .invokevirtual 75, 3, 118, 0, 1, 0, 0, [1]),
  (6, .invokevirtual 78, 3, 175, 2, 0, 0, 0, [6]),
  (9, .aload_n 0, 1, 0, 0, 0, 0, 0, []),
  (10, .aload_n 1, 1, 1, 0, 0, 0, 0, []),
  (11, .aload_n 0, 1, 0, 0, 0, 0, 0, []),
  (12, .invokevirtual 75, 3, 118, 0, 1, 0, 0, [1]),
  (15, .invokevirtual 90, 3, 132, 2, 1, 0, 0, [1]),
  (18, .pop, 1, 0, 0, 0, 0, 0, []),
  (19, .iconst 1, 1, 0, 0, 0, 1, 0, []),
  (20, .ireturn, 1, 1, 0, 0, 0, 0, [])]
def zp_142 : List (List Nat) := [[], [], [], [885, 361, 362, 64, 363], [886, 369, 370, 66, 371], [], [], [], [885, 361, 362, 64, 363], [888, 402, 403, 64, 404], [], [], []]
abbrev jX2_leaves : Nat := 143
def zd_143 : List zm_E := [(0, .aload_n 0, 1, 0, 0, 0, 0, 0, []),
  (1, .iload_n 1, 1, 1, 0, 0, 0, 0, []),
  (2, .invokevirtual 49, 3, 116, 1, 1, 0, 0, [1]),
  (5, .ifCond .eq 11, 3, 8, 0, 0, 0, 0, []),
  (8, .aload_n 0, 1, 0, 0, 0, 0, 0, []),
  (9, .iload_n 1, 1, 1, 0, 0, 0, 0, []),
  (10, .invokevirtual 94, 3, 119, 1, 1, 0, 0, [1]),
  (13, .ifCond .ne 5, 3, 10, 0, 0, 0, 0, []),
  (16, .iconst 0, 1, 0, 0, 0, 0, 0, []),
  (17, .ireturn, 1, 1, 0, 0, 0, 0, []),
  (18, .aload_n 0, 1, 0, 0, 0, 0, 0, []),
  (19, .iload_n 1, 1, 1, 0, 0, 0, 0, []),
  (20, .invokevirtual 97, 3, 133, 1, 0, 0, 0, [1]),
  (23, .iconst 1, 1, 0, 0, 0, 1, 0, []),
  (24, .ireturn, 1, 1, 0, 0, 0, 0, [])]
def zp_143 : List (List Nat) := [[], [], [879, 658, 659, 64, 660], [], [], [], [895, 640, 641, 64, 642], [], [], [], [], [], [896, 334, 335, 64, 336], [], []]
abbrev jX2_ranks : Nat := 144
def zd_144 : List zm_E := [(0, .aload_n 0, 1, 0, 0, 0, 0, 0, []),
  (1, .iload_n 1, 1, 1, 0, 0, 0, 0, []),
  (2, .invokevirtual 49, 3, 116, 1, 1, 0, 0, [1]),
  (5, .ifCond .eq 11, 3, 8, 0, 0, 0, 0, []),
  (8, .aload_n 0, 1, 0, 0, 0, 0, 0, []),
  (9, .iload_n 2, 1, 2, 0, 0, 0, 0, []),
  (10, .invokevirtual 49, 3, 116, 1, 1, 0, 0, [1]),
  (13, .ifCond .ne 5, 3, 10, 0, 0, 0, 0, []),
  (16, .iconst 0, 1, 0, 0, 0, 0, 0, []),
  (17, .ireturn, 1, 1, 0, 0, 0, 0, []),
  (18, .aload_n 0, 1, 0, 0, 0, 0, 0, []),
  (19, .iload_n 1, 1, 1, 0, 0, 0, 0, []),
  (20, .iload_n 2, 1, 2, 0, 0, 0, 0, []),
  (21, .iload_n 3, 1, 3, 0, 0, 0, 0, []),
  (22, .invokevirtual 101, 3, 123, 3, 0, 0, 0, [1]),
  (25, .iconst 1, 1, 0, 0, 0, 1, 0, []),
  (26, .ireturn, 1, 1, 0, 0, 0, 0, [])]
def zp_144 : List (List Nat) := [[], [], [879, 658, 659, 64, 660], [], [], [], [879, 658, 659, 64, 660], [], [], [], [], [], [], [], [900, 320, 321, 64, 322], [], []]
abbrev jX2_goesHome : Nat := 145
def zd_145 : List zm_E := [(0, .aload_n 0, 1, 0, 0, 0, 0, 0, []),
  (1, .invokevirtual 105, 3, 134, 0, 1, 0, 0, [1]),
  (4, .pop, 1, 0, 0, 0, 0, 0, []),
  (5, .iconst 1, 1, 0, 0, 0, 1, 0, []),
  (6, .ireturn, 1, 1, 0, 0, 0, 0, [])]
def zp_145 : List (List Nat) := [[], [904, 312, 313, 64, 314], [], [], []]
abbrev jX3_init : Nat := 146
def zd_146 : List zm_E := [(0, .aload_n 0, 1, 0, 0, 0, 0, 0, []),
  (1, .invokespecial 5, 3, 1001, 0, 0, 0, 0, []),
  (4, .aload_n 0, 1, 0, 0, 0, 0, 0, []),
  (5, .sipush 5040, 3, 0, 0, 0, 5040, 0, []),
  (8, .newarray .int, 2, 0, 0, 0, 0, 0, []),
  (10, .putfield 11, 3, 3, 0, 1, 0, 0, []),
  (13, .aload_n 0, 1, 0, 0, 0, 0, 0, []),
  (14, .bipush 79, 2, 0, 0, 0, 79, 0, []),
  (16, .newarray .long, 2, 1, 0, 0, 0, 0, []),
  (18, .putfield 15, 3, 3, 2, 1, 0, 0, []),
  (21, .return_, 1, 0, 0, 0, 0, 0, [])]
def zp_146 : List (List Nat) := [[], [228, 87, 88], [], [], [103], [229], [], [], [239], [231], []]
abbrev jX3_fewestExchanges : Nat := 147
def zd_147 : List zm_E := [(0, .aload_n 1, 1, 1, 0, 0, 0, 0, []),
  (1, .iload_n 2, 1, 2, 0, 0, 0, 0, []),
  (2, .invokevirtual 19, 3, 119, 1, 1, 0, 0, [1]),
  (5, .ifCond .ne 6, 3, 6, 0, 0, 0, 0, []),
  (8, .bipush (-9), 2, 0, 0, 0, (-9), 0, []),
  (10, .ireturn, 1, 0, 0, 0, 0, 0, []),
  (11, .aload_n 1, 1, 1, 0, 0, 0, 0, []),
  (12, .getfield 25, 3, 1, 3, 1, 0, 0, []),
  (15, .iload_n 2, 1, 2, 0, 0, 0, 0, []),
  (16, .iaload, 1, 0, 0, 0, 0, 0, []),
  (17, .iload_n 3, 1, 3, 0, 0, 0, 0, []),
  (18, .if_icmp .ne 5, 3, 14, 0, 0, 0, 0, []),
  (21, .iconst 0, 1, 0, 0, 0, 0, 0, []),
  (22, .ireturn, 1, 0, 0, 0, 0, 0, []),
  (23, .aload_n 0, 1, 0, 0, 0, 0, 0, []),
  (24, .iconst 0, 1, 0, 0, 0, 0, 0, []),
  (25, .putfield 28, 3, 3, 1, 0, 0, 0, []),
  (28, .aload_n 0, 1, 0, 0, 0, 0, 0, []),
  (29, .getfield 15, 3, 3, 2, 1, 0, 0, []),
  (32, .lconst 0, 1, 0, 0, 0, 0, 0, []),
  (33, .invokestatic 32, 3, 208, 2, 0, 0, 0, []),
  (36, .aload_n 0, 1, 0, 0, 0, 0, 0, []),
  (37, .aload_n 1, 1, 1, 0, 0, 0, 0, []),
  (38, .iconst 0, 1, 0, 0, 0, 0, 0, []),
  (39, .invokevirtual 38, 3, 149, 2, 0, 0, 0, [3]),
  (42, .iconst 0, 1, 0, 0, 0, 0, 0, []),
  (43, .istore 4, 2, 4, 0, 0, 0, 0, []),
  (45, .iload 4, 2, 4, 0, 0, 0, 0, []),
  (47, .aload_n 0, 1, 0, 0, 0, 0, 0, []),
  (48, .getfield 28, 3, 3, 1, 0, 0, 0, []),
  (51, .if_icmp .ge 57, 3, 60, 0, 0, 0, 0, []),
  (54, .iload 4, 2, 4, 0, 0, 0, 0, []),
  (56, .sipush 5040, 3, 0, 0, 0, 5040, 0, []),
  (59, .if_icmp .ge 49, 3, 60, 0, 0, 0, 0, []),
  (62, .aload_n 0, 1, 0, 0, 0, 0, 0, []),
  (63, .getfield 11, 3, 3, 0, 1, 0, 0, []),
  (66, .iload 4, 2, 4, 0, 0, 0, 0, []),
  (68, .iaload, 1, 0, 0, 0, 0, 0, []),
  (69, .bipush 21, 2, 0, 0, 0, 21, 0, []),
  (71, .ishr, 1, 0, 0, 0, 0, 0, []),
  (72, .iconst 1, 1, 0, 0, 0, 1, 0, []),
  (73, .iadd, 1, 0, 0, 0, 0, 0, []),
  (74, .istore 5, 2, 5, 0, 0, 0, 0, []),
  (76, .aload_n 0, 1, 0, 0, 0, 0, 0, []),
  (77, .getfield 11, 3, 3, 0, 1, 0, 0, []),
  (80, .iload 4, 2, 4, 0, 0, 0, 0, []),
  (82, .iaload, 1, 0, 0, 0, 0, 0, []),
  (83, .aload_n 1, 1, 1, 0, 0, 0, 0, []),
  (84, .invokestatic 42, 3, 152, 2, 0, 0, 0, []),
  (87, .aload_n 0, 1, 0, 0, 0, 0, 0, []),
  (88, .aload_n 1, 1, 1, 0, 0, 0, 0, []),
  (89, .iload 5, 2, 5, 0, 0, 0, 0, []),
  (91, .iload_n 2, 1, 2, 0, 0, 0, 0, []),
  (92, .iload_n 3, 1, 3, 0, 0, 0, 0, []),
  (93, .invokevirtual 46, 3, 148, 4, 1, 0, 0, [3]),
  (96, .ifCond .eq 6, 3, 58, 0, 0, 0, 0, []),
  (99, .iload 5, 2, 5, 0, 0, 0, 0, []),
  (101, .ireturn, 1, 0, 0, 0, 0, 0, []),
  (102, .iinc 4 1, 3, 4, 0, 0, 1, 0, []),
  (105, .goto (-60), 3, 27, 0, 0, 0, 0, []),
  (108, .bipush (-9), 2, 0, 0, 0, (-9), 0, []),
  (110, .ireturn, 1, 0, 0, 0, 0, 0, [])]
def zp_147 : List (List Nat) := [[], [], [831, 640, 641, 64, 642], [], [], [], [], [119], [], [], [], [], [], [], [], [], [230], [], [231], [], [832, 833, 80, 834], [], [], [], [835, 837, 20, 68, 838], [], [], [], [], [230], [], [], [], [], [], [229], [], [], [], [], [], [], [], [], [229], [], [], [], [848, 849, 68, 850], [], [], [], [], [], [851, 853, 21, 68, 854], [], [], [], [], [], [], []]
abbrev jX3_exchangeAll : Nat := 148
def zd_148 : List zm_E := [(0, .iconst 0, 1, 0, 0, 0, 0, 0, []),
  (1, .istore 5, 2, 5, 0, 0, 0, 0, []),
  (3, .iload 5, 2, 5, 0, 0, 0, 0, []),
  (5, .aload_n 1, 1, 1, 0, 0, 0, 0, []),
  (6, .getfield 50, 3, 1, 0, 0, 0, 0, []),
  (9, .if_icmp .ge 76, 3, 43, 0, 0, 0, 0, []),
  (12, .iload 5, 2, 5, 0, 0, 0, 0, []),
  (14, .iconst 1, 1, 0, 0, 0, 1, 0, []),
  (15, .iadd, 1, 0, 0, 0, 0, 0, []),
  (16, .istore 6, 2, 6, 0, 0, 0, 0, []),
  (18, .iload 6, 2, 6, 0, 0, 0, 0, []),
  (20, .aload_n 1, 1, 1, 0, 0, 0, 0, []),
  (21, .getfield 50, 3, 1, 0, 0, 0, 0, []),
  (24, .if_icmp .ge 55, 3, 41, 0, 0, 0, 0, []),
  (27, .aload_n 1, 1, 1, 0, 0, 0, 0, []),
  (28, .iload 5, 2, 5, 0, 0, 0, 0, []),
  (30, .iload 6, 2, 6, 0, 0, 0, 0, []),
  (32, .invokevirtual 53, 3, 130, 2, 1, 0, 0, [1]),
  (35, .ifCond .ne 38, 3, 39, 0, 0, 0, 0, []),
  (38, .aload_n 1, 1, 1, 0, 0, 0, 0, []),
  (39, .iload 5, 2, 5, 0, 0, 0, 0, []),
  (41, .iload 6, 2, 6, 0, 0, 0, 0, []),
  (43, .invokevirtual 57, 3, 131, 2, 0, 0, 0, [1]),
  (46, .aload_n 1, 1, 1, 0, 0, 0, 0, []),
  (47, .getfield 25, 3, 1, 3, 1, 0, 0, []),
  (50, .iload_n 3, 1, 3, 0, 0, 0, 0, []),
  (51, .iaload, 1, 0, 0, 0, 0, 0, []),
  (52, .iload 4, 2, 4, 0, 0, 0, 0, []),
  (54, .if_icmp .ne 5, 3, 31, 0, 0, 0, 0, []),
  (57, .iconst 1, 1, 0, 0, 0, 1, 0, []),
  (58, .ireturn, 1, 1, 0, 0, 0, 0, []),
  (59, .aload_n 0, 1, 0, 0, 0, 0, 0, []),
  (60, .aload_n 1, 1, 1, 0, 0, 0, 0, []),
  (61, .iload_n 2, 1, 2, 0, 0, 0, 0, []),
  (62, .invokevirtual 38, 3, 149, 2, 0, 0, 0, [3]),
  (65, .aload_n 1, 1, 1, 0, 0, 0, 0, []),
  (66, .iload 5, 2, 5, 0, 0, 0, 0, []),
  (68, .iload 6, 2, 6, 0, 0, 0, 0, []),
  (70, .invokevirtual 57, 3, 131, 2, 0, 0, 0, [1]),
  (73, .iinc 6 1, 3, 6, 0, 0, 1, 0, []),
  (76, .goto (-58), 3, 10, 0, 0, 0, 0, []),
  (79, .iinc 5 1, 3, 5, 0, 0, 1, 0, []),
  (82, .goto (-79), 3, 2, 0, 0, 0, 0, []),
  (85, .iconst 0, 1, 0, 0, 0, 0, 0, []),
  (86, .ireturn, 1, 1, 0, 0, 0, 0, [])]
def zp_148 : List (List Nat) := [[], [], [], [], [111], [], [], [], [], [], [], [], [111], [], [], [], [], [855, 734, 735, 64, 736], [], [], [], [], [856, 768, 769, 64, 770], [], [119], [], [], [], [], [], [], [], [], [], [835, 837, 20, 68, 838], [], [], [], [856, 768, 769, 64, 770], [], [], [], [], [], []]
abbrev jX3_meet : Nat := 149
def zd_149 : List zm_E := [(0, .aload_n 1, 1, 1, 0, 0, 0, 0, []),
  (1, .invokestatic 61, 3, 150, 1, 1, 0, 0, []),
  (4, .istore_n 3, 1, 3, 0, 0, 0, 0, []),
  (5, .iload_n 3, 1, 3, 0, 0, 0, 0, []),
  (6, .bipush 64, 2, 0, 0, 0, 64, 0, []),
  (8, .idiv, 1, 0, 0, 0, 0, 0, []),
  (9, .istore 4, 2, 4, 0, 0, 0, 0, []),
  (11, .lconst 1, 1, 0, 0, 0, 0, 1, []),
  (12, .iload_n 3, 1, 3, 0, 0, 0, 0, []),
  (13, .bipush 64, 2, 0, 0, 0, 64, 0, []),
  (15, .irem, 1, 0, 0, 0, 0, 0, []),
  (16, .lshl, 1, 0, 0, 0, 0, 0, []),
  (17, .lstore 5, 2, 5, 0, 0, 0, 0, []),
  (19, .iload 4, 2, 4, 0, 0, 0, 0, []),
  (21, .ifCond .lt 78, 3, 58, 0, 0, 0, 0, []),
  (24, .iload 4, 2, 4, 0, 0, 0, 0, []),
  (26, .aload_n 0, 1, 0, 0, 0, 0, 0, []),
  (27, .getfield 15, 3, 3, 2, 1, 0, 0, []),
  (30, .arraylength, 1, 0, 0, 0, 0, 0, []),
  (31, .if_icmp .ge 68, 3, 58, 0, 0, 0, 0, []),
  (34, .aload_n 0, 1, 0, 0, 0, 0, 0, []),
  (35, .getfield 15, 3, 3, 2, 1, 0, 0, []),
  (38, .iload 4, 2, 4, 0, 0, 0, 0, []),
  (40, .laload, 1, 0, 0, 0, 0, 0, []),
  (41, .lload 5, 2, 5, 0, 0, 0, 0, []),
  (43, .land, 1, 0, 0, 0, 0, 0, []),
  (44, .lconst 0, 1, 0, 0, 0, 0, 0, []),
  (45, .lcmp, 1, 0, 0, 0, 0, 0, []),
  (46, .ifCond .ne 53, 3, 58, 0, 0, 0, 0, []),
  (49, .aload_n 0, 1, 0, 0, 0, 0, 0, []),
  (50, .getfield 28, 3, 3, 1, 0, 0, 0, []),
  (53, .sipush 5040, 3, 0, 0, 0, 5040, 0, []),
  (56, .if_icmp .ge 43, 3, 58, 0, 0, 0, 0, []),
  (59, .aload_n 0, 1, 0, 0, 0, 0, 0, []),
  (60, .getfield 15, 3, 3, 2, 1, 0, 0, []),
  (63, .iload 4, 2, 4, 0, 0, 0, 0, []),
  (65, .dup2, 1, 0, 0, 0, 0, 0, []),
  (66, .laload, 1, 0, 0, 0, 0, 0, []),
  (67, .lload 5, 2, 5, 0, 0, 0, 0, []),
  (69, .lor, 1, 0, 0, 0, 0, 0, []),
  (70, .lastore, 1, 0, 0, 0, 0, 0, []),
  (71, .aload_n 0, 1, 0, 0, 0, 0, 0, []),
  (72, .getfield 11, 3, 3, 0, 1, 0, 0, []),
  (75, .aload_n 0, 1, 0, 0, 0, 0, 0, []),
  (76, .getfield 28, 3, 3, 1, 0, 0, 0, []),
  (79, .iload_n 2, 1, 2, 0, 0, 0, 0, []),
  (80, .bipush 21, 2, 0, 0, 0, 21, 0, []),
  (82, .ishl, 1, 0, 0, 0, 0, 0, []),
  (83, .aload_n 1, 1, 1, 0, 0, 0, 0, []),
  (84, .invokestatic 65, 3, 151, 1, 1, 0, 0, []),
  (87, .ior, 1, 0, 0, 0, 0, 0, []),
  (88, .iastore, 1, 0, 0, 0, 0, 0, []),
  (89, .aload_n 0, 1, 0, 0, 0, 0, 0, []),
  (90, .dup, 1, 0, 0, 0, 0, 0, []),
  (91, .getfield 28, 3, 3, 1, 0, 0, 0, []),
  (94, .iconst 1, 1, 0, 0, 0, 1, 0, []),
  (95, .iadd, 1, 0, 0, 0, 0, 0, []),
  (96, .putfield 28, 3, 3, 1, 0, 0, 0, []),
  (99, .return_, 1, 0, 0, 0, 0, 0, [])]
def zp_149 : List (List Nat) := [[], [839, 840, 68, 841], [], [], [], [], [], [], [], [], [], [], [], [], [], [], [], [231], [], [], [], [231], [], [], [], [], [], [], [], [], [230], [], [], [], [231], [], [], [], [], [], [], [], [229], [], [230], [], [], [], [], [845, 846, 68, 847], [], [], [], [], [230], [], [], [230], []]
abbrev jX3_numberOf : Nat := 150
def zd_150 : List zm_E := [(0, .iconst 0, 1, 0, 0, 0, 0, 0, []),
  (1, .istore_n 1, 1, 1, 0, 0, 0, 0, []),
  (2, .aload_n 0, 1, 0, 0, 0, 0, 0, []),
  (3, .invokevirtual 68, 3, 117, 0, 1, 0, 0, [1]),
  (6, .istore_n 2, 1, 2, 0, 0, 0, 0, []),
  (7, .iconst 0, 1, 0, 0, 0, 0, 0, []),
  (8, .istore_n 3, 1, 3, 0, 0, 0, 0, []),
  (9, .iload_n 3, 1, 3, 0, 0, 0, 0, []),
  (10, .aload_n 0, 1, 0, 0, 0, 0, 0, []),
  (11, .getfield 50, 3, 1, 0, 0, 0, 0, []),
  (14, .if_icmp .ge 49, 3, 40, 0, 0, 0, 0, []),
  (17, .aload_n 0, 1, 0, 0, 0, 0, 0, []),
  (18, .getfield 25, 3, 1, 3, 1, 0, 0, []),
  (21, .iload_n 3, 1, 3, 0, 0, 0, 0, []),
  (22, .iaload, 1, 0, 0, 0, 0, 0, []),
  (23, .istore 4, 2, 4, 0, 0, 0, 0, []),
  (25, .iload_n 1, 1, 1, 0, 0, 0, 0, []),
  (26, .aload_n 0, 1, 0, 0, 0, 0, 0, []),
  (27, .getfield 50, 3, 1, 0, 0, 0, 0, []),
  (30, .iload_n 3, 1, 3, 0, 0, 0, 0, []),
  (31, .isub, 1, 0, 0, 0, 0, 0, []),
  (32, .imul, 1, 0, 0, 0, 0, 0, []),
  (33, .iload_n 2, 1, 2, 0, 0, 0, 0, []),
  (34, .iload 4, 2, 4, 0, 0, 0, 0, []),
  (36, .invokestatic 72, 3, 36, 1, 1, 1, 0, []),
  (39, .iconst 1, 1, 0, 0, 0, 1, 0, []),
  (40, .isub, 1, 0, 0, 0, 0, 0, []),
  (41, .iand, 1, 0, 0, 0, 0, 0, []),
  (42, .invokestatic 76, 3, 207, 1, 1, 0, 0, []),
  (45, .iadd, 1, 0, 0, 0, 0, 0, []),
  (46, .istore_n 1, 1, 1, 0, 0, 0, 0, []),
  (47, .iload_n 2, 1, 2, 0, 0, 0, 0, []),
  (48, .iload 4, 2, 4, 0, 0, 0, 0, []),
  (50, .invokestatic 72, 3, 36, 1, 1, 1, 0, []),
  (53, .iconst (-1), 1, 0, 0, 0, (-1), 0, []),
  (54, .ixor, 1, 0, 0, 0, 0, 0, []),
  (55, .iand, 1, 0, 0, 0, 0, 0, []),
  (56, .istore_n 2, 1, 2, 0, 0, 0, 0, []),
  (57, .iinc 3 1, 3, 3, 0, 0, 1, 0, []),
  (60, .goto (-51), 3, 7, 0, 0, 0, 0, []),
  (63, .iload_n 1, 1, 1, 0, 0, 0, 0, []),
  (64, .ireturn, 1, 0, 0, 0, 0, 0, [])]
def zp_150 : List (List Nat) := [[], [], [], [842, 365, 366, 64, 367], [], [], [], [], [], [111], [], [], [119], [], [], [], [], [], [111], [], [], [], [], [], [15, 331, 62, 332], [], [], [], [844, 431, 77, 432], [], [], [], [], [15, 331, 62, 332], [], [], [], [], [], [], [], []]
abbrev jX3_pack : Nat := 151
def zd_151 : List zm_E := [(0, .iconst 0, 1, 0, 0, 0, 0, 0, []),
  (1, .istore_n 1, 1, 1, 0, 0, 0, 0, []),
  (2, .iconst 0, 1, 0, 0, 0, 0, 0, []),
  (3, .istore_n 2, 1, 2, 0, 0, 0, 0, []),
  (4, .iload_n 2, 1, 2, 0, 0, 0, 0, []),
  (5, .aload_n 0, 1, 0, 0, 0, 0, 0, []),
  (6, .getfield 50, 3, 1, 0, 0, 0, 0, []),
  (9, .if_icmp .ge 22, 3, 21, 0, 0, 0, 0, []),
  (12, .iload_n 1, 1, 1, 0, 0, 0, 0, []),
  (13, .aload_n 0, 1, 0, 0, 0, 0, 0, []),
  (14, .getfield 25, 3, 1, 3, 1, 0, 0, []),
  (17, .iload_n 2, 1, 2, 0, 0, 0, 0, []),
  (18, .iaload, 1, 0, 0, 0, 0, 0, []),
  (19, .iload_n 2, 1, 2, 0, 0, 0, 0, []),
  (20, .iconst 3, 1, 0, 0, 0, 3, 0, []),
  (21, .imul, 1, 0, 0, 0, 0, 0, []),
  (22, .ishl, 1, 0, 0, 0, 0, 0, []),
  (23, .ior, 1, 0, 0, 0, 0, 0, []),
  (24, .istore_n 1, 1, 1, 0, 0, 0, 0, []),
  (25, .iinc 2 1, 3, 2, 0, 0, 1, 0, []),
  (28, .goto (-24), 3, 4, 0, 0, 0, 0, []),
  (31, .iload_n 1, 1, 1, 0, 0, 0, 0, []),
  (32, .ireturn, 1, 0, 0, 0, 0, 0, [])]
def zp_151 : List (List Nat) := [[], [], [], [], [], [], [111], [], [], [], [119], [], [], [], [], [], [], [], [], [], [], [], []]
abbrev jX3_unpack : Nat := 152
def zd_152 : List zm_E := [(0, .iconst 0, 1, 0, 0, 0, 0, 0, []),
  (1, .istore_n 2, 1, 2, 0, 0, 0, 0, []),
  (2, .iload_n 2, 1, 2, 0, 0, 0, 0, []),
  (3, .aload_n 1, 1, 1, 0, 0, 0, 0, []),
  (4, .getfield 50, 3, 1, 0, 0, 0, 0, []),
  (7, .if_icmp .ge 23, 3, 19, 0, 0, 0, 0, []),
  (10, .aload_n 1, 1, 1, 0, 0, 0, 0, []),
  (11, .getfield 25, 3, 1, 3, 1, 0, 0, []),
  (14, .iload_n 2, 1, 2, 0, 0, 0, 0, []),
  (15, .iload_n 0, 1, 0, 0, 0, 0, 0, []),
  (16, .iload_n 2, 1, 2, 0, 0, 0, 0, []),
  (17, .iconst 3, 1, 0, 0, 0, 3, 0, []),
  (18, .imul, 1, 0, 0, 0, 0, 0, []),
  (19, .ishr, 1, 0, 0, 0, 0, 0, []),
  (20, .bipush 7, 2, 0, 0, 0, 7, 0, []),
  (22, .iand, 1, 0, 0, 0, 0, 0, []),
  (23, .iastore, 1, 0, 0, 0, 0, 0, []),
  (24, .iinc 2 1, 3, 2, 0, 0, 1, 0, []),
  (27, .goto (-25), 3, 2, 0, 0, 0, 0, []),
  (30, .return_, 1, 0, 0, 0, 0, 0, [])]
def zp_152 : List (List Nat) := [[], [], [], [], [111], [], [], [119], [], [], [], [], [], [], [], [], [], [], [], []]
abbrev jX4_init : Nat := 153
def zd_153 : List zm_E := [(0, .aload_n 0, 1, 0, 0, 0, 0, 0, []),
  (1, .invokespecial 3, 3, 1001, 0, 0, 0, 0, []),
  (4, .aload_n 0, 1, 0, 0, 0, 0, 0, []),
  (5, .bipush 7, 2, 0, 0, 0, 7, 0, []),
  (7, .newarray .int, 2, 0, 0, 0, 0, 0, []),
  (9, .putfield 9, 3, 4, 0, 1, 0, 0, []),
  (12, .aload_n 0, 1, 0, 0, 0, 0, 0, []),
  (13, .bipush 7, 2, 0, 0, 0, 7, 0, []),
  (15, .newarray .int, 2, 0, 0, 0, 0, 0, []),
  (17, .putfield 15, 3, 4, 1, 1, 0, 0, []),
  (20, .aload_n 0, 1, 0, 0, 0, 0, 0, []),
  (21, .bipush 7, 2, 0, 0, 0, 7, 0, []),
  (23, .newarray .int, 2, 0, 0, 0, 0, 0, []),
  (25, .putfield 18, 3, 4, 2, 1, 0, 0, []),
  (28, .aload_n 0, 1, 0, 0, 0, 0, 0, []),
  (29, .bipush 7, 2, 0, 0, 0, 7, 0, []),
  (31, .newarray .int, 2, 0, 0, 0, 0, 0, []),
  (33, .putfield 21, 3, 4, 3, 1, 0, 0, []),
  (36, .aload_n 0, 1, 0, 0, 0, 0, 0, []),
  (37, .sipush 128, 3, 0, 0, 0, 128, 0, []),
  (40, .newarray .int, 2, 0, 0, 0, 0, 0, []),
  (42, .putfield 24, 3, 4, 5, 1, 0, 0, []),
  (45, .return_, 1, 0, 0, 0, 0, 0, [])]
def zp_153 : List (List Nat) := [[], [203, 87, 88], [], [], [103], [204], [], [], [103], [205], [], [], [103], [206], [], [], [103], [207], [], [], [103], [209], []]
abbrev jX4_smallestGroup : Nat := 154
def zd_154 : List zm_E := [(0, .aload_n 0, 1, 0, 0, 0, 0, 0, []),
  (1, .aload_n 1, 1, 1, 0, 0, 0, 0, []),
  (2, .invokevirtual 27, 3, 158, 1, 0, 0, 0, [4]),
  (5, .bipush (-9), 2, 0, 0, 0, (-9), 0, []),
  (7, .istore_n 3, 1, 3, 0, 0, 0, 0, []),
  (8, .iconst 1, 1, 0, 0, 0, 1, 0, []),
  (9, .istore 4, 2, 4, 0, 0, 0, 0, []),
  (11, .iload 4, 2, 4, 0, 0, 0, 0, []),
  (13, .aload_n 1, 1, 1, 0, 0, 0, 0, []),
  (14, .invokevirtual 31, 3, 117, 0, 1, 0, 0, [1]),
  (17, .if_icmp .gt 53, 3, 35, 0, 0, 0, 0, []),
  (20, .iload_n 3, 1, 3, 0, 0, 0, 0, []),
  (21, .bipush (-9), 2, 0, 0, 0, (-9), 0, []),
  (23, .if_icmp .eq 15, 3, 19, 0, 0, 0, 0, []),
  (26, .iload 4, 2, 4, 0, 0, 0, 0, []),
  (28, .invokestatic 37, 3, 207, 1, 1, 0, 0, []),
  (31, .iload_n 3, 1, 3, 0, 0, 0, 0, []),
  (32, .invokestatic 37, 3, 207, 1, 1, 0, 0, []),
  (35, .if_icmp .ge 7, 3, 21, 0, 0, 0, 0, []),
  (38, .iconst 1, 1, 0, 0, 0, 1, 0, []),
  (39, .goto 4, 3, 22, 0, 0, 0, 0, []),
  (42, .iconst 0, 1, 0, 0, 0, 0, 0, []),
  (43, .istore 5, 2, 5, 0, 0, 0, 0, []),
  (45, .iload 5, 2, 5, 0, 0, 0, 0, []),
  (47, .ifCond .eq 17, 3, 33, 0, 0, 0, 0, []),
  (50, .aload_n 0, 1, 0, 0, 0, 0, 0, []),
  (51, .aload_n 1, 1, 1, 0, 0, 0, 0, []),
  (52, .iload 4, 2, 4, 0, 0, 0, 0, []),
  (54, .iload_n 2, 1, 2, 0, 0, 0, 0, []),
  (55, .invokevirtual 43, 3, 156, 3, 1, 0, 0, [4]),
  (58, .ifCond .eq 6, 3, 33, 0, 0, 0, 0, []),
  (61, .iload 4, 2, 4, 0, 0, 0, 0, []),
  (63, .istore_n 3, 1, 3, 0, 0, 0, 0, []),
  (64, .iinc 4 1, 3, 4, 0, 0, 1, 0, []),
  (67, .goto (-56), 3, 7, 0, 0, 0, 0, []),
  (70, .iload_n 3, 1, 3, 0, 0, 0, 0, []),
  (71, .ireturn, 1, 0, 0, 0, 0, 0, [])]
def zp_154 : List (List Nat) := [[], [], [419, 421, 10, 67, 422], [], [], [], [], [], [], [429, 365, 366, 64, 367], [], [], [], [], [], [430, 431, 77, 432], [], [430, 431, 77, 432], [], [], [], [], [], [], [], [], [], [], [], [436, 438, 11, 67, 439], [], [], [], [], [], [], []]
abbrev jX4_countGroups : Nat := 155
def zd_155 : List zm_E := [(0, .aload_n 0, 1, 0, 0, 0, 0, 0, []),
  (1, .aload_n 1, 1, 1, 0, 0, 0, 0, []),
  (2, .invokevirtual 27, 3, 158, 1, 0, 0, 0, [4]),
  (5, .iconst 0, 1, 0, 0, 0, 0, 0, []),
  (6, .istore_n 3, 1, 3, 0, 0, 0, 0, []),
  (7, .iconst 1, 1, 0, 0, 0, 1, 0, []),
  (8, .istore 4, 2, 4, 0, 0, 0, 0, []),
  (10, .iload 4, 2, 4, 0, 0, 0, 0, []),
  (12, .aload_n 1, 1, 1, 0, 0, 0, 0, []),
  (13, .invokevirtual 31, 3, 117, 0, 1, 0, 0, [1]),
  (16, .if_icmp .gt 23, 3, 20, 0, 0, 0, 0, []),
  (19, .aload_n 0, 1, 0, 0, 0, 0, 0, []),
  (20, .aload_n 1, 1, 1, 0, 0, 0, 0, []),
  (21, .iload 4, 2, 4, 0, 0, 0, 0, []),
  (23, .iload_n 2, 1, 2, 0, 0, 0, 0, []),
  (24, .invokevirtual 43, 3, 156, 3, 1, 0, 0, [4]),
  (27, .ifCond .eq 6, 3, 18, 0, 0, 0, 0, []),
  (30, .iinc 3 1, 3, 3, 0, 0, 1, 0, []),
  (33, .iinc 4 1, 3, 4, 0, 0, 1, 0, []),
  (36, .goto (-26), 3, 7, 0, 0, 0, 0, []),
  (39, .iload_n 3, 1, 3, 0, 0, 0, 0, []),
  (40, .ireturn, 1, 0, 0, 0, 0, 0, [])]
def zp_155 : List (List Nat) := [[], [], [419, 421, 10, 67, 422], [], [], [], [], [], [], [429, 365, 366, 64, 367], [], [], [], [], [], [436, 438, 11, 67, 439], [], [], [], [], [], []]
abbrev jX4_couldDoBetter : Nat := 156
def zd_156 : List zm_E := [(0, .aload_n 0, 1, 0, 0, 0, 0, 0, []),
  (1, .aload_n 1, 1, 1, 0, 0, 0, 0, []),
  (2, .iload_n 2, 1, 2, 0, 0, 0, 0, []),
  (3, .invokevirtual 47, 3, 159, 2, 0, 0, 0, [4]),
  (6, .iload_n 3, 1, 3, 0, 0, 0, 0, []),
  (7, .ifCond .eq 23, 3, 16, 0, 0, 0, 0, []),
  (10, .aload_n 0, 1, 0, 0, 0, 0, 0, []),
  (11, .iload_n 2, 1, 2, 0, 0, 0, 0, []),
  (12, .aload_n 0, 1, 0, 0, 0, 0, 0, []),
  (13, .getfield 9, 3, 4, 0, 1, 0, 0, []),
  (16, .invokevirtual 51, 3, 160, 2, 1, 0, 0, [4]),
  (19, .ifCond .le 7, 3, 14, 0, 0, 0, 0, []),
  (22, .iconst 1, 1, 0, 0, 0, 1, 0, []),
  (23, .goto 33, 3, 30, 0, 0, 0, 0, []),
  (26, .iconst 0, 1, 0, 0, 0, 0, 0, []),
  (27, .goto 29, 3, 30, 0, 0, 0, 0, []),
  (30, .aload_n 0, 1, 0, 0, 0, 0, 0, []),
  (31, .iload_n 2, 1, 2, 0, 0, 0, 0, []),
  (32, .aload_n 0, 1, 0, 0, 0, 0, 0, []),
  (33, .getfield 18, 3, 4, 2, 1, 0, 0, []),
  (36, .invokevirtual 51, 3, 160, 2, 1, 0, 0, [4]),
  (39, .aload_n 0, 1, 0, 0, 0, 0, 0, []),
  (40, .iload_n 2, 1, 2, 0, 0, 0, 0, []),
  (41, .aload_n 0, 1, 0, 0, 0, 0, 0, []),
  (42, .getfield 15, 3, 4, 1, 1, 0, 0, []),
  (45, .invokevirtual 51, 3, 160, 2, 1, 0, 0, [4]),
  (48, .if_icmp .le 7, 3, 29, 0, 0, 0, 0, []),
  (51, .iconst 1, 1, 0, 0, 0, 1, 0, []),
  (52, .goto 4, 3, 30, 0, 0, 0, 0, []),
  (55, .iconst 0, 1, 0, 0, 0, 0, 0, []),
  (56, .ireturn, 1, 1, 0, 0, 0, 0, [])]
def zp_156 : List (List Nat) := [[], [], [], [440, 442, 12, 67, 443], [], [], [], [], [], [204], [445, 447, 13, 67, 448], [], [], [], [], [], [], [], [], [206], [445, 447, 13, 67, 448], [], [], [], [205], [445, 447, 13, 67, 448], [], [], [], [], []]
abbrev jX4_countBetterWays : Nat := 157
def zd_157 : List zm_E := [(0, .aload_n 0, 1, 0, 0, 0, 0, 0, []),
  (1, .aload_n 1, 1, 1, 0, 0, 0, 0, []),
  (2, .invokevirtual 27, 3, 158, 1, 0, 0, 0, [4]),
  (5, .aload_n 0, 1, 0, 0, 0, 0, 0, []),
  (6, .aload_n 1, 1, 1, 0, 0, 0, 0, []),
  (7, .aload_n 1, 1, 1, 0, 0, 0, 0, []),
  (8, .invokevirtual 55, 3, 118, 0, 1, 0, 0, [1]),
  (11, .invokevirtual 47, 3, 159, 2, 0, 0, 0, [4]),
  (14, .aload_n 1, 1, 1, 0, 0, 0, 0, []),
  (15, .aload_n 1, 1, 1, 0, 0, 0, 0, []),
  (16, .invokevirtual 55, 3, 118, 0, 1, 0, 0, [1]),
  (19, .invokevirtual 58, 3, 126, 1, 1, 0, 0, [1]),
  (22, .istore_n 2, 1, 2, 0, 0, 0, 0, []),
  (23, .aload_n 0, 1, 0, 0, 0, 0, 0, []),
  (24, .iload_n 2, 1, 2, 0, 0, 0, 0, []),
  (25, .aload_n 0, 1, 0, 0, 0, 0, 0, []),
  (26, .getfield 18, 3, 4, 2, 1, 0, 0, []),
  (29, .invokevirtual 51, 3, 160, 2, 1, 0, 0, [4]),
  (32, .aload_n 0, 1, 0, 0, 0, 0, 0, []),
  (33, .iload_n 2, 1, 2, 0, 0, 0, 0, []),
  (34, .aload_n 0, 1, 0, 0, 0, 0, 0, []),
  (35, .getfield 15, 3, 4, 1, 1, 0, 0, []),
  (38, .invokevirtual 51, 3, 160, 2, 1, 0, 0, [4]),
  (41, .isub, 1, 0, 0, 0, 0, 0, []),
  (42, .ireturn, 1, 0, 0, 0, 0, 0, [])]
def zp_157 : List (List Nat) := [[], [], [419, 421, 10, 67, 422], [], [], [], [469, 361, 362, 64, 363], [440, 442, 12, 67, 443], [], [], [469, 361, 362, 64, 363], [470, 471, 472, 64, 473], [], [], [], [], [206], [445, 447, 13, 67, 448], [], [], [], [205], [445, 447, 13, 67, 448], [], []]
abbrev jX4_noteLikings : Nat := 158
def zd_158 : List zm_E := [(0, .iconst 0, 1, 0, 0, 0, 0, 0, []),
  (1, .istore_n 2, 1, 2, 0, 0, 0, 0, []),
  (2, .iload_n 2, 1, 2, 0, 0, 0, 0, []),
  (3, .aload_n 1, 1, 1, 0, 0, 0, 0, []),
  (4, .getfield 61, 3, 1, 0, 0, 0, 0, []),
  (7, .if_icmp .ge 105, 3, 67, 0, 0, 0, 0, []),
  (10, .aload_n 0, 1, 0, 0, 0, 0, 0, []),
  (11, .getfield 9, 3, 4, 0, 1, 0, 0, []),
  (14, .iload_n 2, 1, 2, 0, 0, 0, 0, []),
  (15, .iconst 0, 1, 0, 0, 0, 0, 0, []),
  (16, .iastore, 1, 0, 0, 0, 0, 0, []),
  (17, .aload_n 0, 1, 0, 0, 0, 0, 0, []),
  (18, .getfield 15, 3, 4, 1, 1, 0, 0, []),
  (21, .iload_n 2, 1, 2, 0, 0, 0, 0, []),
  (22, .iconst 0, 1, 0, 0, 0, 0, 0, []),
  (23, .iastore, 1, 0, 0, 0, 0, 0, []),
  (24, .iconst 0, 1, 0, 0, 0, 0, 0, []),
  (25, .istore_n 3, 1, 3, 0, 0, 0, 0, []),
  (26, .iload_n 3, 1, 3, 0, 0, 0, 0, []),
  (27, .aload_n 1, 1, 1, 0, 0, 0, 0, []),
  (28, .getfield 61, 3, 1, 0, 0, 0, 0, []),
  (31, .if_icmp .ge 56, 3, 52, 0, 0, 0, 0, []),
  (34, .aload_n 1, 1, 1, 0, 0, 0, 0, []),
  (35, .iload_n 2, 1, 2, 0, 0, 0, 0, []),
  (36, .iload_n 3, 1, 3, 0, 0, 0, 0, []),
  (37, .invokevirtual 65, 3, 124, 2, 1, 0, 0, [1]),
  (40, .istore 4, 2, 4, 0, 0, 0, 0, []),
  (42, .iload 4, 2, 4, 0, 0, 0, 0, []),
  (44, .ifCond .ge 19, 3, 39, 0, 0, 0, 0, []),
  (47, .aload_n 0, 1, 0, 0, 0, 0, 0, []),
  (48, .getfield 9, 3, 4, 0, 1, 0, 0, []),
  (51, .iload_n 2, 1, 2, 0, 0, 0, 0, []),
  (52, .dup2, 1, 0, 0, 0, 0, 0, []),
  (53, .iaload, 1, 0, 0, 0, 0, 0, []),
  (54, .iload_n 3, 1, 3, 0, 0, 0, 0, []),
  (55, .invokestatic 69, 3, 36, 1, 1, 1, 0, []),
  (58, .ior, 1, 0, 0, 0, 0, 0, []),
  (59, .iastore, 1, 0, 0, 0, 0, 0, []),
  (60, .goto 21, 3, 50, 0, 0, 0, 0, []),
  (63, .iload 4, 2, 4, 0, 0, 0, 0, []),
  (65, .ifCond .ne 16, 3, 50, 0, 0, 0, 0, []),
  (68, .aload_n 0, 1, 0, 0, 0, 0, 0, []),
  (69, .getfield 15, 3, 4, 1, 1, 0, 0, []),
  (72, .iload_n 2, 1, 2, 0, 0, 0, 0, []),
  (73, .dup2, 1, 0, 0, 0, 0, 0, []),
  (74, .iaload, 1, 0, 0, 0, 0, 0, []),
  (75, .iload_n 3, 1, 3, 0, 0, 0, 0, []),
  (76, .invokestatic 69, 3, 36, 1, 1, 1, 0, []),
  (79, .ior, 1, 0, 0, 0, 0, 0, []),
  (80, .iastore, 1, 0, 0, 0, 0, 0, []),
  (81, .iinc 3 1, 3, 3, 0, 0, 1, 0, []),
  (84, .goto (-58), 3, 18, 0, 0, 0, 0, []),
  (87, .aload_n 0, 1, 0, 0, 0, 0, 0, []),
  (88, .getfield 18, 3, 4, 2, 1, 0, 0, []),
  (91, .iload_n 2, 1, 2, 0, 0, 0, 0, []),
  (92, .aload_n 0, 1, 0, 0, 0, 0, 0, []),
  (93, .getfield 9, 3, 4, 0, 1, 0, 0, []),
  (96, .iload_n 2, 1, 2, 0, 0, 0, 0, []),
  (97, .iaload, 1, 0, 0, 0, 0, 0, []),
  (98, .aload_n 0, 1, 0, 0, 0, 0, 0, []),
  (99, .getfield 15, 3, 4, 1, 1, 0, 0, []),
  (102, .iload_n 2, 1, 2, 0, 0, 0, 0, []),
  (103, .iaload, 1, 0, 0, 0, 0, 0, []),
  (104, .ior, 1, 0, 0, 0, 0, 0, []),
  (105, .iastore, 1, 0, 0, 0, 0, 0, []),
  (106, .iinc 2 1, 3, 2, 0, 0, 1, 0, []),
  (109, .goto (-107), 3, 2, 0, 0, 0, 0, []),
  (112, .return_, 1, 0, 0, 0, 0, 0, [])]
def zp_158 : List (List Nat) := [[], [], [], [], [113], [], [], [204], [], [], [], [], [205], [], [], [], [], [], [], [], [113], [], [], [], [], [423, 424, 425, 64, 426], [], [], [], [], [204], [], [], [], [], [13, 331, 62, 332], [], [], [], [], [], [], [205], [], [], [], [], [13, 331, 62, 332], [], [], [], [], [], [206], [], [], [204], [], [], [], [205], [], [], [], [], [], [], []]
abbrev jX4_lineUp : Nat := 159
def zd_159 : List zm_E := [(0, .aload_n 0, 1, 0, 0, 0, 0, 0, []),
  (1, .iconst 0, 1, 0, 0, 0, 0, 0, []),
  (2, .putfield 72, 3, 4, 4, 0, 0, 0, []),
  (5, .iconst 0, 1, 0, 0, 0, 0, 0, []),
  (6, .istore_n 3, 1, 3, 0, 0, 0, 0, []),
  (7, .iload_n 3, 1, 3, 0, 0, 0, 0, []),
  (8, .aload_n 1, 1, 1, 0, 0, 0, 0, []),
  (9, .getfield 61, 3, 1, 0, 0, 0, 0, []),
  (12, .if_icmp .ge 37, 3, 27, 0, 0, 0, 0, []),
  (15, .iload_n 2, 1, 2, 0, 0, 0, 0, []),
  (16, .iload_n 3, 1, 3, 0, 0, 0, 0, []),
  (17, .invokestatic 75, 3, 37, 2, 1, 1, 0, []),
  (20, .ifCond .eq 23, 3, 25, 0, 0, 0, 0, []),
  (23, .aload_n 0, 1, 0, 0, 0, 0, 0, []),
  (24, .getfield 21, 3, 4, 3, 1, 0, 0, []),
  (27, .aload_n 0, 1, 0, 0, 0, 0, 0, []),
  (28, .getfield 72, 3, 4, 4, 0, 0, 0, []),
  (31, .iload_n 3, 1, 3, 0, 0, 0, 0, []),
  (32, .iastore, 1, 0, 0, 0, 0, 0, []),
  (33, .aload_n 0, 1, 0, 0, 0, 0, 0, []),
  (34, .dup, 1, 0, 0, 0, 0, 0, []),
  (35, .getfield 72, 3, 4, 4, 0, 0, 0, []),
  (38, .iconst 1, 1, 0, 0, 0, 1, 0, []),
  (39, .iadd, 1, 0, 0, 0, 0, 0, []),
  (40, .putfield 72, 3, 4, 4, 0, 0, 0, []),
  (43, .iinc 3 1, 3, 3, 0, 0, 1, 0, []),
  (46, .goto (-39), 3, 5, 0, 0, 0, 0, []),
  (49, .return_, 1, 0, 0, 0, 0, 0, [])]
def zp_159 : List (List Nat) := [[], [], [208], [], [], [], [], [113], [], [], [], [14, 328, 62, 329], [], [], [207], [], [208], [], [], [], [], [208], [], [], [208], [], [], []]
abbrev jX4_countWays : Nat := 160
def zd_160 : List zm_E := [(0, .iconst 1, 1, 0, 0, 0, 1, 0, []),
  (1, .istore_n 3, 1, 3, 0, 0, 0, 0, []),
  (2, .iload_n 3, 1, 3, 0, 0, 0, 0, []),
  (3, .iload_n 1, 1, 1, 0, 0, 0, 0, []),
  (4, .if_icmp .gt 16, 3, 12, 0, 0, 0, 0, []),
  (7, .aload_n 0, 1, 0, 0, 0, 0, 0, []),
  (8, .getfield 24, 3, 4, 5, 1, 0, 0, []),
  (11, .iload_n 3, 1, 3, 0, 0, 0, 0, []),
  (12, .iconst 0, 1, 0, 0, 0, 0, 0, []),
  (13, .iastore, 1, 0, 0, 0, 0, 0, []),
  (14, .iinc 3 1, 3, 3, 0, 0, 1, 0, []),
  (17, .goto (-15), 3, 2, 0, 0, 0, 0, []),
  (20, .aload_n 0, 1, 0, 0, 0, 0, 0, []),
  (21, .getfield 24, 3, 4, 5, 1, 0, 0, []),
  (24, .iconst 0, 1, 0, 0, 0, 0, 0, []),
  (25, .iconst 1, 1, 0, 0, 0, 1, 0, []),
  (26, .iastore, 1, 0, 0, 0, 0, 0, []),
  (27, .iconst 0, 1, 0, 0, 0, 0, 0, []),
  (28, .istore_n 3, 1, 3, 0, 0, 0, 0, []),
  (29, .iload_n 3, 1, 3, 0, 0, 0, 0, []),
  (30, .iload_n 1, 1, 1, 0, 0, 0, 0, []),
  (31, .if_icmp .ge 53, 3, 51, 0, 0, 0, 0, []),
  (34, .iload_n 3, 1, 3, 0, 0, 0, 0, []),
  (35, .invokestatic 37, 3, 207, 1, 1, 0, 0, []),
  (38, .istore 4, 2, 4, 0, 0, 0, 0, []),
  (40, .aload_n 0, 1, 0, 0, 0, 0, 0, []),
  (41, .getfield 24, 3, 4, 5, 1, 0, 0, []),
  (44, .iload_n 3, 1, 3, 0, 0, 0, 0, []),
  (45, .iaload, 1, 0, 0, 0, 0, 0, []),
  (46, .ifCond .eq 32, 3, 49, 0, 0, 0, 0, []),
  (49, .iload 4, 2, 4, 0, 0, 0, 0, []),
  (51, .aload_n 0, 1, 0, 0, 0, 0, 0, []),
  (52, .getfield 72, 3, 4, 4, 0, 0, 0, []),
  (55, .if_icmp .ge 23, 3, 49, 0, 0, 0, 0, []),
  (58, .aload_n 0, 1, 0, 0, 0, 0, 0, []),
  (59, .iload_n 3, 1, 3, 0, 0, 0, 0, []),
  (60, .aload_n 2, 1, 2, 0, 0, 0, 0, []),
  (61, .aload_n 0, 1, 0, 0, 0, 0, 0, []),
  (62, .getfield 21, 3, 4, 3, 1, 0, 0, []),
  (65, .iload 4, 2, 4, 0, 0, 0, 0, []),
  (67, .iaload, 1, 0, 0, 0, 0, 0, []),
  (68, .iaload, 1, 0, 0, 0, 0, 0, []),
  (69, .iload_n 1, 1, 1, 0, 0, 0, 0, []),
  (70, .iand, 1, 0, 0, 0, 0, 0, []),
  (71, .iload_n 3, 1, 3, 0, 0, 0, 0, []),
  (72, .iconst (-1), 1, 0, 0, 0, (-1), 0, []),
  (73, .ixor, 1, 0, 0, 0, 0, 0, []),
  (74, .iand, 1, 0, 0, 0, 0, 0, []),
  (75, .invokevirtual 79, 3, 161, 2, 0, 0, 0, [4]),
  (78, .iinc 3 1, 3, 3, 0, 0, 1, 0, []),
  (81, .goto (-52), 3, 19, 0, 0, 0, 0, []),
  (84, .aload_n 0, 1, 0, 0, 0, 0, 0, []),
  (85, .getfield 24, 3, 4, 5, 1, 0, 0, []),
  (88, .iload_n 1, 1, 1, 0, 0, 0, 0, []),
  (89, .iaload, 1, 0, 0, 0, 0, 0, []),
  (90, .ireturn, 1, 0, 0, 0, 0, 0, [])]
def zp_160 : List (List Nat) := [[], [], [], [], [], [], [209], [], [], [], [], [], [], [209], [], [], [], [], [], [], [], [], [], [430, 431, 77, 432], [], [], [209], [], [], [], [], [], [208], [], [], [], [], [], [207], [], [], [], [], [], [], [], [], [], [449, 451, 14, 67, 452], [], [], [], [209], [], [], []]
abbrev jX4_spread : Nat := 161
def zd_161 : List zm_E := [(0, .iconst 0, 1, 0, 0, 0, 0, 0, []),
  (1, .istore_n 3, 1, 3, 0, 0, 0, 0, []),
  (2, .iload_n 3, 1, 3, 0, 0, 0, 0, []),
  (3, .bipush 7, 2, 0, 0, 0, 7, 0, []),
  (5, .if_icmp .ge 37, 3, 25, 0, 0, 0, 0, []),
  (8, .iload_n 2, 1, 2, 0, 0, 0, 0, []),
  (9, .iload_n 3, 1, 3, 0, 0, 0, 0, []),
  (10, .invokestatic 75, 3, 37, 2, 1, 1, 0, []),
  (13, .ifCond .eq 23, 3, 23, 0, 0, 0, 0, []),
  (16, .aload_n 0, 1, 0, 0, 0, 0, 0, []),
  (17, .getfield 24, 3, 4, 5, 1, 0, 0, []),
  (20, .iload_n 1, 1, 1, 0, 0, 0, 0, []),
  (21, .iload_n 3, 1, 3, 0, 0, 0, 0, []),
  (22, .invokestatic 69, 3, 36, 1, 1, 1, 0, []),
  (25, .ior, 1, 0, 0, 0, 0, 0, []),
  (26, .dup2, 1, 0, 0, 0, 0, 0, []),
  (27, .iaload, 1, 0, 0, 0, 0, 0, []),
  (28, .aload_n 0, 1, 0, 0, 0, 0, 0, []),
  (29, .getfield 24, 3, 4, 5, 1, 0, 0, []),
  (32, .iload_n 1, 1, 1, 0, 0, 0, 0, []),
  (33, .iaload, 1, 0, 0, 0, 0, 0, []),
  (34, .iadd, 1, 0, 0, 0, 0, 0, []),
  (35, .iastore, 1, 0, 0, 0, 0, 0, []),
  (36, .iinc 3 1, 3, 3, 0, 0, 1, 0, []),
  (39, .goto (-37), 3, 2, 0, 0, 0, 0, []),
  (42, .return_, 1, 0, 0, 0, 0, 0, [])]
def zp_161 : List (List Nat) := [[], [], [], [], [], [], [], [14, 328, 62, 329], [], [], [209], [], [], [13, 331, 62, 332], [], [], [], [], [209], [], [], [], [], [], [], []]
abbrev jX4_leastSum : Nat := 162
def zd_162 : List zm_E := [(0, .aload_n 1, 1, 1, 0, 0, 0, 0, []),
  (1, .aload_n 1, 1, 1, 0, 0, 0, 0, []),
  (2, .invokevirtual 55, 3, 118, 0, 1, 0, 0, [1]),
  (5, .invokevirtual 58, 3, 126, 1, 1, 0, 0, [1]),
  (8, .istore_n 2, 1, 2, 0, 0, 0, 0, []),
  (9, .aload_n 0, 1, 0, 0, 0, 0, 0, []),
  (10, .aload_n 1, 1, 1, 0, 0, 0, 0, []),
  (11, .aload_n 1, 1, 1, 0, 0, 0, 0, []),
  (12, .invokevirtual 55, 3, 118, 0, 1, 0, 0, [1]),
  (15, .invokevirtual 47, 3, 159, 2, 0, 0, 0, [4]),
  (18, .aload_n 0, 1, 0, 0, 0, 0, 0, []),
  (19, .getfield 24, 3, 4, 5, 1, 0, 0, []),
  (22, .iload_n 2, 1, 2, 0, 0, 0, 0, []),
  (23, .iconst 0, 1, 0, 0, 0, 0, 0, []),
  (24, .iastore, 1, 0, 0, 0, 0, 0, []),
  (25, .iload_n 2, 1, 2, 0, 0, 0, 0, []),
  (26, .iconst 1, 1, 0, 0, 0, 1, 0, []),
  (27, .isub, 1, 0, 0, 0, 0, 0, []),
  (28, .istore_n 3, 1, 3, 0, 0, 0, 0, []),
  (29, .iload_n 3, 1, 3, 0, 0, 0, 0, []),
  (30, .ifCond .lt 80, 3, 64, 0, 0, 0, 0, []),
  (33, .iload_n 3, 1, 3, 0, 0, 0, 0, []),
  (34, .invokestatic 37, 3, 207, 1, 1, 0, 0, []),
  (37, .istore 4, 2, 4, 0, 0, 0, 0, []),
  (39, .iload_n 3, 1, 3, 0, 0, 0, 0, []),
  (40, .iload_n 2, 1, 2, 0, 0, 0, 0, []),
  (41, .iconst (-1), 1, 0, 0, 0, (-1), 0, []),
  (42, .ixor, 1, 0, 0, 0, 0, 0, []),
  (43, .iand, 1, 0, 0, 0, 0, 0, []),
  (44, .ifCond .ne 60, 3, 62, 0, 0, 0, 0, []),
  (47, .iload 4, 2, 4, 0, 0, 0, 0, []),
  (49, .aload_n 0, 1, 0, 0, 0, 0, 0, []),
  (50, .getfield 72, 3, 4, 4, 0, 0, 0, []),
  (53, .if_icmp .ge 51, 3, 62, 0, 0, 0, 0, []),
  (56, .aload_n 0, 1, 0, 0, 0, 0, 0, []),
  (57, .aload_n 1, 1, 1, 0, 0, 0, 0, []),
  (58, .aload_n 0, 1, 0, 0, 0, 0, 0, []),
  (59, .getfield 21, 3, 4, 3, 1, 0, 0, []),
  (62, .iload 4, 2, 4, 0, 0, 0, 0, []),
  (64, .iaload, 1, 0, 0, 0, 0, 0, []),
  (65, .iload_n 3, 1, 3, 0, 0, 0, 0, []),
  (66, .iload_n 2, 1, 2, 0, 0, 0, 0, []),
  (67, .invokevirtual 83, 3, 164, 4, 1, 0, 0, [4]),
  (70, .istore 5, 2, 5, 0, 0, 0, 0, []),
  (72, .aload_n 0, 1, 0, 0, 0, 0, 0, []),
  (73, .getfield 24, 3, 4, 5, 1, 0, 0, []),
  (76, .iload_n 3, 1, 3, 0, 0, 0, 0, []),
  (77, .iload 5, 2, 5, 0, 0, 0, 0, []),
  (79, .bipush (-9), 2, 0, 0, 0, (-9), 0, []),
  (81, .if_icmp .ne 7, 3, 52, 0, 0, 0, 0, []),
  (84, .iconst 0, 1, 0, 0, 0, 0, 0, []),
  (85, .goto 18, 3, 61, 0, 0, 0, 0, []),
  (88, .aload_n 0, 1, 0, 0, 0, 0, 0, []),
  (89, .aload_n 1, 1, 1, 0, 0, 0, 0, []),
  (90, .aload_n 0, 1, 0, 0, 0, 0, 0, []),
  (91, .getfield 21, 3, 4, 3, 1, 0, 0, []),
  (94, .iload 4, 2, 4, 0, 0, 0, 0, []),
  (96, .iaload, 1, 0, 0, 0, 0, 0, []),
  (97, .iload_n 3, 1, 3, 0, 0, 0, 0, []),
  (98, .iload 5, 2, 5, 0, 0, 0, 0, []),
  (100, .invokevirtual 87, 3, 165, 4, 1, 0, 0, [4]),
  (103, .iastore, 1, 0, 0, 0, 0, 0, []),
  (104, .iinc 3 (-1), 3, 3, 0, 0, (-1), 0, []),
  (107, .goto (-78), 3, 19, 0, 0, 0, 0, []),
  (110, .aload_n 0, 1, 0, 0, 0, 0, 0, []),
  (111, .getfield 24, 3, 4, 5, 1, 0, 0, []),
  (114, .iconst 0, 1, 0, 0, 0, 0, 0, []),
  (115, .iaload, 1, 0, 0, 0, 0, 0, []),
  (116, .ireturn, 1, 0, 0, 0, 0, 0, [])]
def zp_162 : List (List Nat) := [[], [], [469, 361, 362, 64, 363], [470, 471, 472, 64, 473], [], [], [], [], [469, 361, 362, 64, 363], [440, 442, 12, 67, 443], [], [209], [], [], [], [], [], [], [], [], [], [], [430, 431, 77, 432], [], [], [], [], [], [], [], [], [], [208], [], [], [], [], [207], [], [], [], [], [474, 476, 15, 67, 477], [], [], [209], [], [], [], [], [], [], [], [], [], [207], [], [], [], [], [478, 480, 16, 67, 481], [], [], [], [], [209], [], [], []]
abbrev jX4_thingAtLeast : Nat := 163
def zd_163 : List zm_E := [(0, .aload_n 0, 1, 0, 0, 0, 0, 0, []),
  (1, .aload_n 1, 1, 1, 0, 0, 0, 0, []),
  (2, .invokevirtual 90, 3, 162, 1, 1, 0, 0, [4]),
  (5, .pop, 1, 0, 0, 0, 0, 0, []),
  (6, .aload_n 1, 1, 1, 0, 0, 0, 0, []),
  (7, .aload_n 1, 1, 1, 0, 0, 0, 0, []),
  (8, .invokevirtual 55, 3, 118, 0, 1, 0, 0, [1]),
  (11, .invokevirtual 58, 3, 126, 1, 1, 0, 0, [1]),
  (14, .istore_n 3, 1, 3, 0, 0, 0, 0, []),
  (15, .iconst 0, 1, 0, 0, 0, 0, 0, []),
  (16, .istore 4, 2, 4, 0, 0, 0, 0, []),
  (18, .iconst 0, 1, 0, 0, 0, 0, 0, []),
  (19, .istore 5, 2, 5, 0, 0, 0, 0, []),
  (21, .iload 5, 2, 5, 0, 0, 0, 0, []),
  (23, .aload_n 0, 1, 0, 0, 0, 0, 0, []),
  (24, .getfield 72, 3, 4, 4, 0, 0, 0, []),
  (27, .if_icmp .ge 57, 3, 45, 0, 0, 0, 0, []),
  (30, .aload_n 0, 1, 0, 0, 0, 0, 0, []),
  (31, .aload_n 1, 1, 1, 0, 0, 0, 0, []),
  (32, .aload_n 0, 1, 0, 0, 0, 0, 0, []),
  (33, .getfield 21, 3, 4, 3, 1, 0, 0, []),
  (36, .iload 5, 2, 5, 0, 0, 0, 0, []),
  (38, .iaload, 1, 0, 0, 0, 0, 0, []),
  (39, .iload 4, 2, 4, 0, 0, 0, 0, []),
  (41, .iload_n 3, 1, 3, 0, 0, 0, 0, []),
  (42, .invokevirtual 83, 3, 164, 4, 1, 0, 0, [4]),
  (45, .istore 6, 2, 6, 0, 0, 0, 0, []),
  (47, .aload_n 0, 1, 0, 0, 0, 0, 0, []),
  (48, .getfield 21, 3, 4, 3, 1, 0, 0, []),
  (51, .iload 5, 2, 5, 0, 0, 0, 0, []),
  (53, .iaload, 1, 0, 0, 0, 0, 0, []),
  (54, .iload_n 2, 1, 2, 0, 0, 0, 0, []),
  (55, .if_icmp .eq 10, 3, 36, 0, 0, 0, 0, []),
  (58, .iload 6, 2, 6, 0, 0, 0, 0, []),
  (60, .bipush (-9), 2, 0, 0, 0, (-9), 0, []),
  (62, .if_icmp .ne 6, 3, 38, 0, 0, 0, 0, []),
  (65, .iload 6, 2, 6, 0, 0, 0, 0, []),
  (67, .ireturn, 1, 0, 0, 0, 0, 0, []),
  (68, .iload 4, 2, 4, 0, 0, 0, 0, []),
  (70, .iload 6, 2, 6, 0, 0, 0, 0, []),
  (72, .invokestatic 69, 3, 36, 1, 1, 1, 0, []),
  (75, .ior, 1, 0, 0, 0, 0, 0, []),
  (76, .istore 4, 2, 4, 0, 0, 0, 0, []),
  (78, .iinc 5 1, 3, 5, 0, 0, 1, 0, []),
  (81, .goto (-60), 3, 13, 0, 0, 0, 0, []),
  (84, .bipush (-9), 2, 0, 0, 0, (-9), 0, []),
  (86, .ireturn, 1, 0, 0, 0, 0, 0, [])]
def zp_163 : List (List Nat) := [[], [], [810, 466, 467, 67, 468], [], [], [], [469, 361, 362, 64, 363], [470, 471, 472, 64, 473], [], [], [], [], [], [], [], [208], [], [], [], [], [207], [], [], [], [], [474, 476, 15, 67, 477], [], [], [207], [], [], [], [], [], [], [], [], [], [], [], [13, 331, 62, 332], [], [], [], [], [], []]
abbrev jX4_bestThing : Nat := 164
def zd_164 : List zm_E := [(0, .iload 4, 2, 4, 0, 0, 0, 0, []),
  (2, .iload_n 3, 1, 3, 0, 0, 0, 0, []),
  (3, .iconst (-1), 1, 0, 0, 0, (-1), 0, []),
  (4, .ixor, 1, 0, 0, 0, 0, 0, []),
  (5, .iand, 1, 0, 0, 0, 0, 0, []),
  (6, .istore 5, 2, 5, 0, 0, 0, 0, []),
  (8, .bipush (-9), 2, 0, 0, 0, (-9), 0, []),
  (10, .istore 6, 2, 6, 0, 0, 0, 0, []),
  (12, .iconst 0, 1, 0, 0, 0, 0, 0, []),
  (13, .istore 7, 2, 7, 0, 0, 0, 0, []),
  (15, .iload 7, 2, 7, 0, 0, 0, 0, []),
  (17, .aload_n 1, 1, 1, 0, 0, 0, 0, []),
  (18, .getfield 61, 3, 1, 0, 0, 0, 0, []),
  (21, .if_icmp .ge 51, 3, 38, 0, 0, 0, 0, []),
  (24, .iload 5, 2, 5, 0, 0, 0, 0, []),
  (26, .iload 7, 2, 7, 0, 0, 0, 0, []),
  (28, .invokestatic 75, 3, 37, 2, 1, 1, 0, []),
  (31, .ifCond .eq 35, 3, 36, 0, 0, 0, 0, []),
  (34, .iload 6, 2, 6, 0, 0, 0, 0, []),
  (36, .bipush (-9), 2, 0, 0, 0, (-9), 0, []),
  (38, .if_icmp .eq 24, 3, 34, 0, 0, 0, 0, []),
  (41, .aload_n 0, 1, 0, 0, 0, 0, 0, []),
  (42, .aload_n 1, 1, 1, 0, 0, 0, 0, []),
  (43, .iload_n 2, 1, 2, 0, 0, 0, 0, []),
  (44, .iload_n 3, 1, 3, 0, 0, 0, 0, []),
  (45, .iload 7, 2, 7, 0, 0, 0, 0, []),
  (47, .invokevirtual 87, 3, 165, 4, 1, 0, 0, [4]),
  (50, .aload_n 0, 1, 0, 0, 0, 0, 0, []),
  (51, .aload_n 1, 1, 1, 0, 0, 0, 0, []),
  (52, .iload_n 2, 1, 2, 0, 0, 0, 0, []),
  (53, .iload_n 3, 1, 3, 0, 0, 0, 0, []),
  (54, .iload 6, 2, 6, 0, 0, 0, 0, []),
  (56, .invokevirtual 87, 3, 165, 4, 1, 0, 0, [4]),
  (59, .if_icmp .ge 7, 3, 36, 0, 0, 0, 0, []),
  (62, .iload 7, 2, 7, 0, 0, 0, 0, []),
  (64, .istore 6, 2, 6, 0, 0, 0, 0, []),
  (66, .iinc 7 1, 3, 7, 0, 0, 1, 0, []),
  (69, .goto (-54), 3, 10, 0, 0, 0, 0, []),
  (72, .iload 6, 2, 6, 0, 0, 0, 0, []),
  (74, .ireturn, 1, 0, 0, 0, 0, 0, [])]
def zp_164 : List (List Nat) := [[], [], [], [], [], [], [], [], [], [], [], [], [113], [], [], [], [14, 328, 62, 329], [], [], [], [], [], [], [], [], [], [478, 480, 16, 67, 481], [], [], [], [], [], [478, 480, 16, 67, 481], [], [], [], [], [], [], []]
abbrev jX4_sumWith : Nat := 165
def zd_165 : List zm_E := [(0, .aload_n 1, 1, 1, 0, 0, 0, 0, []),
  (1, .iload_n 2, 1, 2, 0, 0, 0, 0, []),
  (2, .iload 4, 2, 4, 0, 0, 0, 0, []),
  (4, .invokevirtual 94, 3, 121, 2, 1, 0, 0, [1]),
  (7, .aload_n 0, 1, 0, 0, 0, 0, 0, []),
  (8, .getfield 24, 3, 4, 5, 1, 0, 0, []),
  (11, .iload_n 3, 1, 3, 0, 0, 0, 0, []),
  (12, .iload 4, 2, 4, 0, 0, 0, 0, []),
  (14, .invokestatic 69, 3, 36, 1, 1, 1, 0, []),
  (17, .ior, 1, 0, 0, 0, 0, 0, []),
  (18, .iaload, 1, 0, 0, 0, 0, 0, []),
  (19, .iadd, 1, 0, 0, 0, 0, 0, []),
  (20, .ireturn, 1, 0, 0, 0, 0, 0, [])]
def zp_165 : List (List Nat) := [[], [], [], [482, 385, 386, 64, 387], [], [209], [], [], [13, 331, 62, 332], [], [], [], []]
abbrev jX5_init : Nat := 166
def zd_166 : List zm_E := [(0, .aload_n 0, 1, 0, 0, 0, 0, 0, []),
  (1, .invokespecial 3, 3, 1001, 0, 0, 0, 0, []),
  (4, .aload_n 0, 1, 0, 0, 0, 0, 0, []),
  (5, .bipush 70, 2, 0, 0, 0, 70, 0, []),
  (7, .newarray .int, 2, 0, 0, 0, 0, 0, []),
  (9, .putfield 11, 3, 5, 0, 1, 0, 0, []),
  (12, .return_, 1, 0, 0, 0, 0, 0, [])]
def zp_166 : List (List Nat) := [[], [94, 87, 88], [], [], [103], [95], []]
abbrev jX5_isFull : Nat := 167
def zd_167 : List zm_E := [(0, .aload_n 0, 1, 0, 0, 0, 0, 0, []),
  (1, .getfield 15, 3, 5, 1, 0, 0, 0, []),
  (4, .bipush 70, 2, 0, 0, 0, 70, 0, []),
  (6, .if_icmp .lt 7, 3, 6, 0, 0, 0, 0, []),
  (9, .iconst 1, 1, 0, 0, 0, 1, 0, []),
  (10, .goto 4, 3, 7, 0, 0, 0, 0, []),
  (13, .iconst 0, 1, 0, 0, 0, 0, 0, []),
  (14, .ireturn, 1, 1, 0, 0, 0, 0, [])]
def zp_167 : List (List Nat) := [[], [96], [], [], [], [], [], []]
abbrev jX5_add : Nat := 168
def zd_168 : List zm_E := [(0, .aload_n 0, 1, 0, 0, 0, 0, 0, []),
  (1, .invokevirtual 19, 3, 167, 0, 1, 0, 0, [5]),
  (4, .ifCond .ne 23, 3, 15, 0, 0, 0, 0, []),
  (7, .aload_n 0, 1, 0, 0, 0, 0, 0, []),
  (8, .getfield 11, 3, 5, 0, 1, 0, 0, []),
  (11, .aload_n 0, 1, 0, 0, 0, 0, 0, []),
  (12, .getfield 15, 3, 5, 1, 0, 0, 0, []),
  (15, .iload_n 1, 1, 1, 0, 0, 0, 0, []),
  (16, .iastore, 1, 0, 0, 0, 0, 0, []),
  (17, .aload_n 0, 1, 0, 0, 0, 0, 0, []),
  (18, .dup, 1, 0, 0, 0, 0, 0, []),
  (19, .getfield 15, 3, 5, 1, 0, 0, 0, []),
  (22, .iconst 1, 1, 0, 0, 0, 1, 0, []),
  (23, .iadd, 1, 0, 0, 0, 0, 0, []),
  (24, .putfield 15, 3, 5, 1, 0, 0, 0, []),
  (27, .return_, 1, 0, 0, 0, 0, 0, [])]
def zp_168 : List (List Nat) := [[], [592, 569, 570, 63, 571], [], [], [95], [], [96], [], [], [], [], [96], [], [], [96], []]
abbrev jX5_at : Nat := 169
def zd_169 : List zm_E := [(0, .iload_n 1, 1, 1, 0, 0, 0, 0, []),
  (1, .ifCond .lt 20, 3, 11, 0, 0, 0, 0, []),
  (4, .iload_n 1, 1, 1, 0, 0, 0, 0, []),
  (5, .aload_n 0, 1, 0, 0, 0, 0, 0, []),
  (6, .getfield 15, 3, 5, 1, 0, 0, 0, []),
  (9, .if_icmp .ge 12, 3, 11, 0, 0, 0, 0, []),
  (12, .aload_n 0, 1, 0, 0, 0, 0, 0, []),
  (13, .getfield 11, 3, 5, 0, 1, 0, 0, []),
  (16, .iload_n 1, 1, 1, 0, 0, 0, 0, []),
  (17, .iaload, 1, 0, 0, 0, 0, 0, []),
  (18, .goto 4, 3, 12, 0, 0, 0, 0, []),
  (21, .iconst (-1), 1, 0, 0, 0, (-1), 0, []),
  (22, .ireturn, 1, 0, 0, 0, 0, 0, [])]
def zp_169 : List (List Nat) := [[], [], [], [], [96], [], [], [95], [], [], [], [], []]
abbrev jX5_digitAt : Nat := 170
def zd_170 : List zm_E := [(0, .aload_n 0, 1, 0, 0, 0, 0, 0, []),
  (1, .iload_n 1, 1, 1, 0, 0, 0, 0, []),
  (2, .invokevirtual 23, 3, 169, 1, 1, 0, 0, [5]),
  (5, .bipush 48, 2, 0, 0, 0, 48, 0, []),
  (7, .isub, 1, 0, 0, 0, 0, 0, []),
  (8, .istore 4, 2, 4, 0, 0, 0, 0, []),
  (10, .iload 4, 2, 4, 0, 0, 0, 0, []),
  (12, .iload_n 2, 1, 2, 0, 0, 0, 0, []),
  (13, .if_icmp .lt 14, 3, 14, 0, 0, 0, 0, []),
  (16, .iload 4, 2, 4, 0, 0, 0, 0, []),
  (18, .iload_n 3, 1, 3, 0, 0, 0, 0, []),
  (19, .if_icmp .gt 8, 3, 14, 0, 0, 0, 0, []),
  (22, .iload 4, 2, 4, 0, 0, 0, 0, []),
  (24, .goto 5, 3, 15, 0, 0, 0, 0, []),
  (27, .bipush (-9), 2, 0, 0, 0, (-9), 0, []),
  (29, .ireturn, 1, 0, 0, 0, 0, 0, [])]
def zp_170 : List (List Nat) := [[], [], [299, 301, 0, 63, 302], [], [], [], [], [], [], [], [], [], [], [], [], []]
abbrev jX5_readMarket : Nat := 171
def zd_171 : List zm_E := [(0, .aload_n 0, 1, 0, 0, 0, 0, 0, []),
  (1, .iconst 0, 1, 0, 0, 0, 0, 0, []),
  (2, .invokevirtual 23, 3, 169, 1, 1, 0, 0, [5]),
  (5, .bipush 77, 2, 0, 0, 0, 77, 0, []),
  (7, .if_icmp .eq 5, 3, 7, 0, 0, 0, 0, []),
  (10, .iconst 0, 1, 0, 0, 0, 0, 0, []),
  (11, .ireturn, 1, 0, 0, 0, 0, 0, []),
  (12, .aload_n 0, 1, 0, 0, 0, 0, 0, []),
  (13, .iconst 1, 1, 0, 0, 0, 1, 0, []),
  (14, .iconst 1, 1, 0, 0, 0, 1, 0, []),
  (15, .bipush 7, 2, 0, 0, 0, 7, 0, []),
  (17, .invokevirtual 27, 3, 170, 3, 1, 0, 0, [5]),
  (20, .istore_n 2, 1, 2, 0, 0, 0, 0, []),
  (21, .iload_n 2, 1, 2, 0, 0, 0, 0, []),
  (22, .bipush (-9), 2, 0, 0, 0, (-9), 0, []),
  (24, .if_icmp .ne 5, 3, 18, 0, 0, 0, 0, []),
  (27, .iconst 1, 1, 0, 0, 0, 1, 0, []),
  (28, .ireturn, 1, 0, 0, 0, 0, 0, []),
  (29, .aload_n 1, 1, 1, 0, 0, 0, 0, []),
  (30, .iload_n 2, 1, 2, 0, 0, 0, 0, []),
  (31, .invokevirtual 31, 3, 135, 1, 0, 0, 0, [1]),
  (34, .aload_n 0, 1, 0, 0, 0, 0, 0, []),
  (35, .aload_n 1, 1, 1, 0, 0, 0, 0, []),
  (36, .iconst 2, 1, 0, 0, 0, 2, 0, []),
  (37, .invokevirtual 37, 3, 172, 2, 1, 0, 0, [5]),
  (40, .istore_n 3, 1, 3, 0, 0, 0, 0, []),
  (41, .iload_n 3, 1, 3, 0, 0, 0, 0, []),
  (42, .bipush (-9), 2, 0, 0, 0, (-9), 0, []),
  (44, .if_icmp .eq 5, 3, 31, 0, 0, 0, 0, []),
  (47, .iload_n 3, 1, 3, 0, 0, 0, 0, []),
  (48, .ireturn, 1, 0, 0, 0, 0, 0, []),
  (49, .iconst 2, 1, 0, 0, 0, 2, 0, []),
  (50, .iload_n 2, 1, 2, 0, 0, 0, 0, []),
  (51, .iload_n 2, 1, 2, 0, 0, 0, 0, []),
  (52, .imul, 1, 0, 0, 0, 0, 0, []),
  (53, .iadd, 1, 0, 0, 0, 0, 0, []),
  (54, .istore 4, 2, 4, 0, 0, 0, 0, []),
  (56, .aload_n 0, 1, 0, 0, 0, 0, 0, []),
  (57, .iload 4, 2, 4, 0, 0, 0, 0, []),
  (59, .invokevirtual 23, 3, 169, 1, 1, 0, 0, [5]),
  (62, .iconst (-1), 1, 0, 0, 0, (-1), 0, []),
  (63, .if_icmp .ne 6, 3, 44, 0, 0, 0, 0, []),
  (66, .bipush (-9), 2, 0, 0, 0, (-9), 0, []),
  (68, .ireturn, 1, 0, 0, 0, 0, 0, []),
  (69, .aload_n 0, 1, 0, 0, 0, 0, 0, []),
  (70, .iload 4, 2, 4, 0, 0, 0, 0, []),
  (72, .invokevirtual 23, 3, 169, 1, 1, 0, 0, [5]),
  (75, .bipush 47, 2, 0, 0, 0, 47, 0, []),
  (77, .if_icmp .ne 15, 3, 56, 0, 0, 0, 0, []),
  (80, .aload_n 0, 1, 0, 0, 0, 0, 0, []),
  (81, .aload_n 1, 1, 1, 0, 0, 0, 0, []),
  (82, .iload 4, 2, 4, 0, 0, 0, 0, []),
  (84, .iconst 1, 1, 0, 0, 0, 1, 0, []),
  (85, .iadd, 1, 0, 0, 0, 0, 0, []),
  (86, .invokevirtual 41, 3, 173, 2, 1, 0, 0, [5]),
  (89, .goto 5, 3, 57, 0, 0, 0, 0, []),
  (92, .iload 4, 2, 4, 0, 0, 0, 0, []),
  (94, .ireturn, 1, 0, 0, 0, 0, 0, [])]
def zp_171 : List (List Nat) := [[], [], [299, 301, 0, 63, 302], [], [], [], [], [], [], [], [], [303, 305, 1, 63, 306], [], [], [], [], [], [], [], [], [307, 308, 309, 64, 310], [], [], [], [315, 317, 2, 63, 318], [], [], [], [], [], [], [], [], [], [], [], [], [], [], [299, 301, 0, 63, 302], [], [], [], [], [], [], [299, 301, 0, 63, 302], [], [], [], [], [], [], [], [323, 325, 3, 63, 326], [], [], []]
abbrev jX5_readRanks : Nat := 172
def zd_172 : List zm_E := [(0, .iload_n 2, 1, 2, 0, 0, 0, 0, []),
  (1, .istore_n 3, 1, 3, 0, 0, 0, 0, []),
  (2, .iconst 0, 1, 0, 0, 0, 0, 0, []),
  (3, .istore 4, 2, 4, 0, 0, 0, 0, []),
  (5, .iload 4, 2, 4, 0, 0, 0, 0, []),
  (7, .aload_n 1, 1, 1, 0, 0, 0, 0, []),
  (8, .getfield 44, 3, 1, 0, 0, 0, 0, []),
  (11, .if_icmp .ge 59, 3, 35, 0, 0, 0, 0, []),
  (14, .iconst 0, 1, 0, 0, 0, 0, 0, []),
  (15, .istore 5, 2, 5, 0, 0, 0, 0, []),
  (17, .iload 5, 2, 5, 0, 0, 0, 0, []),
  (19, .aload_n 1, 1, 1, 0, 0, 0, 0, []),
  (20, .getfield 44, 3, 1, 0, 0, 0, 0, []),
  (23, .if_icmp .ge 41, 3, 33, 0, 0, 0, 0, []),
  (26, .aload_n 0, 1, 0, 0, 0, 0, 0, []),
  (27, .iload_n 3, 1, 3, 0, 0, 0, 0, []),
  (28, .iconst 0, 1, 0, 0, 0, 0, 0, []),
  (29, .bipush 9, 2, 0, 0, 0, 9, 0, []),
  (31, .invokevirtual 27, 3, 170, 3, 1, 0, 0, [5]),
  (34, .istore 6, 2, 6, 0, 0, 0, 0, []),
  (36, .iload 6, 2, 6, 0, 0, 0, 0, []),
  (38, .bipush (-9), 2, 0, 0, 0, (-9), 0, []),
  (40, .if_icmp .ne 5, 3, 25, 0, 0, 0, 0, []),
  (43, .iload_n 3, 1, 3, 0, 0, 0, 0, []),
  (44, .ireturn, 1, 0, 0, 0, 0, 0, []),
  (45, .aload_n 1, 1, 1, 0, 0, 0, 0, []),
  (46, .iload 4, 2, 4, 0, 0, 0, 0, []),
  (48, .iload 5, 2, 5, 0, 0, 0, 0, []),
  (50, .iload 6, 2, 6, 0, 0, 0, 0, []),
  (52, .invokevirtual 47, 3, 123, 3, 0, 0, 0, [1]),
  (55, .iinc 3 1, 3, 3, 0, 0, 1, 0, []),
  (58, .iinc 5 1, 3, 5, 0, 0, 1, 0, []),
  (61, .goto (-44), 3, 10, 0, 0, 0, 0, []),
  (64, .iinc 4 1, 3, 4, 0, 0, 1, 0, []),
  (67, .goto (-62), 3, 4, 0, 0, 0, 0, []),
  (70, .bipush (-9), 2, 0, 0, 0, (-9), 0, []),
  (72, .ireturn, 1, 0, 0, 0, 0, 0, [])]
def zp_172 : List (List Nat) := [[], [], [], [], [], [], [115], [], [], [], [], [], [115], [], [], [], [], [], [303, 305, 1, 63, 306], [], [], [], [], [], [], [], [], [], [], [319, 320, 321, 64, 322], [], [], [], [], [], [], []]
abbrev jX5_readHoldings : Nat := 173
def zd_173 : List zm_E := [(0, .iload_n 2, 1, 2, 0, 0, 0, 0, []),
  (1, .istore_n 3, 1, 3, 0, 0, 0, 0, []),
  (2, .iconst 0, 1, 0, 0, 0, 0, 0, []),
  (3, .istore 4, 2, 4, 0, 0, 0, 0, []),
  (5, .iconst 0, 1, 0, 0, 0, 0, 0, []),
  (6, .istore 5, 2, 5, 0, 0, 0, 0, []),
  (8, .iload 5, 2, 5, 0, 0, 0, 0, []),
  (10, .aload_n 1, 1, 1, 0, 0, 0, 0, []),
  (11, .getfield 44, 3, 1, 0, 0, 0, 0, []),
  (14, .if_icmp .ge 83, 3, 50, 0, 0, 0, 0, []),
  (17, .aload_n 0, 1, 0, 0, 0, 0, 0, []),
  (18, .iload_n 3, 1, 3, 0, 0, 0, 0, []),
  (19, .iconst 0, 1, 0, 0, 0, 0, 0, []),
  (20, .aload_n 1, 1, 1, 0, 0, 0, 0, []),
  (21, .getfield 44, 3, 1, 0, 0, 0, 0, []),
  (24, .iconst 1, 1, 0, 0, 0, 1, 0, []),
  (25, .isub, 1, 0, 0, 0, 0, 0, []),
  (26, .invokevirtual 27, 3, 170, 3, 1, 0, 0, [5]),
  (29, .istore 6, 2, 6, 0, 0, 0, 0, []),
  (31, .iload 6, 2, 6, 0, 0, 0, 0, []),
  (33, .bipush (-9), 2, 0, 0, 0, (-9), 0, []),
  (35, .if_icmp .eq 13, 3, 26, 0, 0, 0, 0, []),
  (38, .iload 4, 2, 4, 0, 0, 0, 0, []),
  (40, .iload 6, 2, 6, 0, 0, 0, 0, []),
  (42, .invokestatic 51, 3, 37, 2, 1, 1, 0, []),
  (45, .ifCond .eq 5, 3, 28, 0, 0, 0, 0, []),
  (48, .iload_n 3, 1, 3, 0, 0, 0, 0, []),
  (49, .ireturn, 1, 0, 0, 0, 0, 0, []),
  (50, .iload 4, 2, 4, 0, 0, 0, 0, []),
  (52, .iload 6, 2, 6, 0, 0, 0, 0, []),
  (54, .invokestatic 55, 3, 36, 1, 1, 1, 0, []),
  (57, .ior, 1, 0, 0, 0, 0, 0, []),
  (58, .istore 4, 2, 4, 0, 0, 0, 0, []),
  (60, .aload_n 1, 1, 1, 0, 0, 0, 0, []),
  (61, .getfield 58, 3, 1, 3, 1, 0, 0, []),
  (64, .iload 5, 2, 5, 0, 0, 0, 0, []),
  (66, .iload 6, 2, 6, 0, 0, 0, 0, []),
  (68, .iastore, 1, 0, 0, 0, 0, 0, []),
  (69, .iinc 3 1, 3, 3, 0, 0, 1, 0, []),
  (72, .aload_n 0, 1, 0, 0, 0, 0, 0, []),
  (73, .iload_n 3, 1, 3, 0, 0, 0, 0, []),
  (74, .invokevirtual 23, 3, 169, 1, 1, 0, 0, [5]),
  (77, .bipush 33, 2, 0, 0, 0, 33, 0, []),
  (79, .if_icmp .ne 12, 3, 48, 0, 0, 0, 0, []),
  (82, .aload_n 1, 1, 1, 0, 0, 0, 0, []),
  (83, .iload 5, 2, 5, 0, 0, 0, 0, []),
  (85, .invokevirtual 61, 3, 133, 1, 0, 0, 0, [1]),
  (88, .iinc 3 1, 3, 3, 0, 0, 1, 0, []),
  (91, .iinc 5 1, 3, 5, 0, 0, 1, 0, []),
  (94, .goto (-86), 3, 6, 0, 0, 0, 0, []),
  (97, .aload_n 0, 1, 0, 0, 0, 0, 0, []),
  (98, .iload_n 3, 1, 3, 0, 0, 0, 0, []),
  (99, .invokevirtual 23, 3, 169, 1, 1, 0, 0, [5]),
  (102, .iconst (-1), 1, 0, 0, 0, (-1), 0, []),
  (103, .if_icmp .ne 8, 3, 57, 0, 0, 0, 0, []),
  (106, .bipush (-9), 2, 0, 0, 0, (-9), 0, []),
  (108, .goto 4, 3, 58, 0, 0, 0, 0, []),
  (111, .iload_n 3, 1, 3, 0, 0, 0, 0, []),
  (112, .ireturn, 1, 0, 0, 0, 0, 0, [])]
def zp_173 : List (List Nat) := [[], [], [], [], [], [], [], [], [115], [], [], [], [], [], [115], [], [], [303, 305, 1, 63, 306], [], [], [], [], [], [], [7, 328, 62, 329], [], [], [], [], [], [8, 331, 62, 332], [], [], [], [123], [], [], [], [], [], [], [299, 301, 0, 63, 302], [], [], [], [], [333, 334, 335, 64, 336], [], [], [], [], [], [299, 301, 0, 63, 302], [], [], [], [], [], []]
abbrev jX6_init : Nat := 174
def zd_174 : List zm_E := [(0, .aload_n 0, 1, 0, 0, 0, 0, 0, []),
  (1, .invokespecial 3, 3, 1001, 0, 0, 0, 0, []),
  (4, .aload_n 0, 1, 0, 0, 0, 0, 0, []),
  (5, .bipush 7, 2, 0, 0, 0, 7, 0, []),
  (7, .newarray .int, 2, 0, 0, 0, 0, 0, []),
  (9, .putfield 9, 3, 6, 2, 1, 0, 0, []),
  (12, .aload_n 0, 1, 0, 0, 0, 0, 0, []),
  (13, .bipush 7, 2, 0, 0, 0, 7, 0, []),
  (15, .newarray .int, 2, 0, 0, 0, 0, 0, []),
  (17, .putfield 15, 3, 6, 3, 1, 0, 0, []),
  (20, .aload_n 0, 1, 0, 0, 0, 0, 0, []),
  (21, .bipush 7, 2, 0, 0, 0, 7, 0, []),
  (23, .newarray .int, 2, 0, 0, 0, 0, 0, []),
  (25, .putfield 18, 3, 6, 4, 1, 0, 0, []),
  (28, .aload_n 0, 1, 0, 0, 0, 0, 0, []),
  (29, .bipush 7, 2, 0, 0, 0, 7, 0, []),
  (31, .newarray .int, 2, 0, 0, 0, 0, 0, []),
  (33, .putfield 21, 3, 6, 5, 1, 0, 0, []),
  (36, .aload_n 0, 1, 0, 0, 0, 0, 0, []),
  (37, .bipush 7, 2, 0, 0, 0, 7, 0, []),
  (39, .newarray .int, 2, 0, 0, 0, 0, 0, []),
  (41, .putfield 24, 3, 6, 6, 1, 0, 0, []),
  (44, .aload_n 0, 1, 0, 0, 0, 0, 0, []),
  (45, .bipush 7, 2, 0, 0, 0, 7, 0, []),
  (47, .newarray .int, 2, 0, 0, 0, 0, 0, []),
  (49, .putfield 27, 3, 6, 7, 1, 0, 0, []),
  (52, .aload_n 0, 1, 0, 0, 0, 0, 0, []),
  (53, .bipush 7, 2, 0, 0, 0, 7, 0, []),
  (55, .newarray .int, 2, 0, 0, 0, 0, 0, []),
  (57, .putfield 30, 3, 6, 8, 1, 0, 0, []),
  (60, .return_, 1, 0, 0, 0, 0, 0, [])]
def zp_174 : List (List Nat) := [[], [158, 87, 88], [], [], [103], [163], [], [], [103], [166], [], [], [103], [168], [], [], [103], [170], [], [], [103], [172], [], [], [103], [175], [], [], [103], [177], []]
abbrev jX6_find : Nat := 175
def zd_175 : List zm_E := [(0, .aload_n 0, 1, 0, 0, 0, 0, 0, []),
  (1, .invokevirtual 33, 3, 179, 0, 0, 0, 0, [6]),
  (4, .iload_n 2, 1, 2, 0, 0, 0, 0, []),
  (5, .istore_n 3, 1, 3, 0, 0, 0, 0, []),
  (6, .iload_n 3, 1, 3, 0, 0, 0, 0, []),
  (7, .ifCond .eq 42, 3, 30, 0, 0, 0, 0, []),
  (10, .aload_n 0, 1, 0, 0, 0, 0, 0, []),
  (11, .getfield 36, 3, 6, 1, 0, 0, 0, []),
  (14, .bipush 7, 2, 0, 0, 0, 7, 0, []),
  (16, .if_icmp .ge 33, 3, 30, 0, 0, 0, 0, []),
  (19, .aload_n 0, 1, 0, 0, 0, 0, 0, []),
  (20, .aload_n 1, 1, 1, 0, 0, 0, 0, []),
  (21, .iload_n 3, 1, 3, 0, 0, 0, 0, []),
  (22, .invokevirtual 40, 3, 180, 2, 0, 0, 0, [6]),
  (25, .iload_n 3, 1, 3, 0, 0, 0, 0, []),
  (26, .aload_n 0, 1, 0, 0, 0, 0, 0, []),
  (27, .aload_n 1, 1, 1, 0, 0, 0, 0, []),
  (28, .iload_n 3, 1, 3, 0, 0, 0, 0, []),
  (29, .invokevirtual 44, 3, 182, 2, 1, 0, 0, [6]),
  (32, .iconst (-1), 1, 0, 0, 0, (-1), 0, []),
  (33, .ixor, 1, 0, 0, 0, 0, 0, []),
  (34, .iand, 1, 0, 0, 0, 0, 0, []),
  (35, .istore_n 3, 1, 3, 0, 0, 0, 0, []),
  (36, .aload_n 0, 1, 0, 0, 0, 0, 0, []),
  (37, .dup, 1, 0, 0, 0, 0, 0, []),
  (38, .getfield 36, 3, 6, 1, 0, 0, 0, []),
  (41, .iconst 1, 1, 0, 0, 0, 1, 0, []),
  (42, .iadd, 1, 0, 0, 0, 0, 0, []),
  (43, .putfield 36, 3, 6, 1, 0, 0, 0, []),
  (46, .goto (-40), 3, 4, 0, 0, 0, 0, []),
  (49, .return_, 1, 0, 0, 0, 0, 0, [])]
def zp_175 : List (List Nat) := [[], [372, 374, 5, 66, 375], [], [], [], [], [], [161], [], [], [], [], [], [376, 378, 6, 66, 379], [], [], [], [], [388, 390, 7, 66, 391], [], [], [], [], [], [], [161], [], [], [161], [], []]
abbrev jX6_hasRing : Nat := 176
def zd_176 : List zm_E := [(0, .iload_n 1, 1, 1, 0, 0, 0, 0, []),
  (1, .ifCond .lt 15, 3, 8, 0, 0, 0, 0, []),
  (4, .iload_n 1, 1, 1, 0, 0, 0, 0, []),
  (5, .aload_n 0, 1, 0, 0, 0, 0, 0, []),
  (6, .getfield 48, 3, 6, 0, 0, 0, 0, []),
  (9, .if_icmp .ge 7, 3, 8, 0, 0, 0, 0, []),
  (12, .iconst 1, 1, 0, 0, 0, 1, 0, []),
  (13, .goto 4, 3, 9, 0, 0, 0, 0, []),
  (16, .iconst 0, 1, 0, 0, 0, 0, 0, []),
  (17, .ireturn, 1, 1, 0, 0, 0, 0, [])]
def zp_176 : List (List Nat) := [[], [], [], [], [159], [], [], [], [], []]
abbrev jX6_movers : Nat := 177
def zd_177 : List zm_E := [(0, .iconst 0, 1, 0, 0, 0, 0, 0, []),
  (1, .istore_n 2, 1, 2, 0, 0, 0, 0, []),
  (2, .iconst 0, 1, 0, 0, 0, 0, 0, []),
  (3, .istore_n 3, 1, 3, 0, 0, 0, 0, []),
  (4, .iload_n 3, 1, 3, 0, 0, 0, 0, []),
  (5, .aload_n 1, 1, 1, 0, 0, 0, 0, []),
  (6, .getfield 51, 3, 1, 0, 0, 0, 0, []),
  (9, .if_icmp .ge 38, 3, 26, 0, 0, 0, 0, []),
  (12, .aload_n 0, 1, 0, 0, 0, 0, 0, []),
  (13, .getfield 9, 3, 6, 2, 1, 0, 0, []),
  (16, .iload_n 3, 1, 3, 0, 0, 0, 0, []),
  (17, .iaload, 1, 0, 0, 0, 0, 0, []),
  (18, .bipush (-9), 2, 0, 0, 0, (-9), 0, []),
  (20, .if_icmp .eq 21, 3, 24, 0, 0, 0, 0, []),
  (23, .aload_n 0, 1, 0, 0, 0, 0, 0, []),
  (24, .getfield 9, 3, 6, 2, 1, 0, 0, []),
  (27, .iload_n 3, 1, 3, 0, 0, 0, 0, []),
  (28, .iaload, 1, 0, 0, 0, 0, 0, []),
  (29, .aload_n 1, 1, 1, 0, 0, 0, 0, []),
  (30, .getfield 56, 3, 1, 3, 1, 0, 0, []),
  (33, .iload_n 3, 1, 3, 0, 0, 0, 0, []),
  (34, .iaload, 1, 0, 0, 0, 0, 0, []),
  (35, .if_icmp .eq 6, 3, 24, 0, 0, 0, 0, []),
  (38, .iinc 2 1, 3, 2, 0, 0, 1, 0, []),
  (41, .iinc 3 1, 3, 3, 0, 0, 1, 0, []),
  (44, .goto (-40), 3, 4, 0, 0, 0, 0, []),
  (47, .iload_n 2, 1, 2, 0, 0, 0, 0, []),
  (48, .ireturn, 1, 0, 0, 0, 0, 0, [])]
def zp_177 : List (List Nat) := [[], [], [], [], [], [], [112], [], [], [163], [], [], [], [], [], [163], [], [], [], [121], [], [], [], [], [], [], [], []]
abbrev jX6_gainOf : Nat := 178
def zd_178 : List zm_E := [(0, .iconst 0, 1, 0, 0, 0, 0, 0, []),
  (1, .istore_n 3, 1, 3, 0, 0, 0, 0, []),
  (2, .iconst 0, 1, 0, 0, 0, 0, 0, []),
  (3, .istore 4, 2, 4, 0, 0, 0, 0, []),
  (5, .iload 4, 2, 4, 0, 0, 0, 0, []),
  (7, .aload_n 1, 1, 1, 0, 0, 0, 0, []),
  (8, .getfield 51, 3, 1, 0, 0, 0, 0, []),
  (11, .if_icmp .ge 39, 3, 27, 0, 0, 0, 0, []),
  (14, .aload_n 0, 1, 0, 0, 0, 0, 0, []),
  (15, .getfield 24, 3, 6, 6, 1, 0, 0, []),
  (18, .iload_n 2, 1, 2, 0, 0, 0, 0, []),
  (19, .iaload, 1, 0, 0, 0, 0, 0, []),
  (20, .iload 4, 2, 4, 0, 0, 0, 0, []),
  (22, .invokestatic 59, 3, 37, 2, 1, 1, 0, []),
  (25, .ifCond .eq 19, 3, 25, 0, 0, 0, 0, []),
  (28, .iload_n 3, 1, 3, 0, 0, 0, 0, []),
  (29, .aload_n 1, 1, 1, 0, 0, 0, 0, []),
  (30, .iload 4, 2, 4, 0, 0, 0, 0, []),
  (32, .aload_n 0, 1, 0, 0, 0, 0, 0, []),
  (33, .getfield 9, 3, 6, 2, 1, 0, 0, []),
  (36, .iload 4, 2, 4, 0, 0, 0, 0, []),
  (38, .iaload, 1, 0, 0, 0, 0, 0, []),
  (39, .invokevirtual 63, 3, 124, 2, 1, 0, 0, [1]),
  (42, .isub, 1, 0, 0, 0, 0, 0, []),
  (43, .istore_n 3, 1, 3, 0, 0, 0, 0, []),
  (44, .iinc 4 1, 3, 4, 0, 0, 1, 0, []),
  (47, .goto (-42), 3, 4, 0, 0, 0, 0, []),
  (50, .iload_n 3, 1, 3, 0, 0, 0, 0, []),
  (51, .ireturn, 1, 0, 0, 0, 0, 0, [])]
def zp_178 : List (List Nat) := [[], [], [], [], [], [], [112], [], [], [172], [], [], [], [10, 328, 62, 329], [], [], [], [], [], [163], [], [], [724, 424, 425, 64, 426], [], [], [], [], [], []]
abbrev jX6_forget : Nat := 179
def zd_179 : List zm_E := [(0, .aload_n 0, 1, 0, 0, 0, 0, 0, []),
  (1, .iconst 0, 1, 0, 0, 0, 0, 0, []),
  (2, .putfield 48, 3, 6, 0, 0, 0, 0, []),
  (5, .aload_n 0, 1, 0, 0, 0, 0, 0, []),
  (6, .iconst 0, 1, 0, 0, 0, 0, 0, []),
  (7, .putfield 36, 3, 6, 1, 0, 0, 0, []),
  (10, .iconst 0, 1, 0, 0, 0, 0, 0, []),
  (11, .istore_n 1, 1, 1, 0, 0, 0, 0, []),
  (12, .iload_n 1, 1, 1, 0, 0, 0, 0, []),
  (13, .bipush 7, 2, 0, 0, 0, 7, 0, []),
  (15, .if_icmp .ge 41, 3, 33, 0, 0, 0, 0, []),
  (18, .aload_n 0, 1, 0, 0, 0, 0, 0, []),
  (19, .getfield 9, 3, 6, 2, 1, 0, 0, []),
  (22, .iload_n 1, 1, 1, 0, 0, 0, 0, []),
  (23, .bipush (-9), 2, 0, 0, 0, (-9), 0, []),
  (25, .iastore, 1, 0, 0, 0, 0, 0, []),
  (26, .aload_n 0, 1, 0, 0, 0, 0, 0, []),
  (27, .getfield 15, 3, 6, 3, 1, 0, 0, []),
  (30, .iload_n 1, 1, 1, 0, 0, 0, 0, []),
  (31, .bipush (-9), 2, 0, 0, 0, (-9), 0, []),
  (33, .iastore, 1, 0, 0, 0, 0, 0, []),
  (34, .aload_n 0, 1, 0, 0, 0, 0, 0, []),
  (35, .getfield 18, 3, 6, 4, 1, 0, 0, []),
  (38, .iload_n 1, 1, 1, 0, 0, 0, 0, []),
  (39, .bipush (-9), 2, 0, 0, 0, (-9), 0, []),
  (41, .iastore, 1, 0, 0, 0, 0, 0, []),
  (42, .aload_n 0, 1, 0, 0, 0, 0, 0, []),
  (43, .getfield 21, 3, 6, 5, 1, 0, 0, []),
  (46, .iload_n 1, 1, 1, 0, 0, 0, 0, []),
  (47, .bipush (-9), 2, 0, 0, 0, (-9), 0, []),
  (49, .iastore, 1, 0, 0, 0, 0, 0, []),
  (50, .iinc 1 1, 3, 1, 0, 0, 1, 0, []),
  (53, .goto (-41), 3, 8, 0, 0, 0, 0, []),
  (56, .return_, 1, 0, 0, 0, 0, 0, [])]
def zp_179 : List (List Nat) := [[], [], [159], [], [], [161], [], [], [], [], [], [], [163], [], [], [], [], [166], [], [], [], [], [168], [], [], [], [], [170], [], [], [], [], [], []]
abbrev jX6_point : Nat := 180
def zd_180 : List zm_E := [(0, .iconst 0, 1, 0, 0, 0, 0, 0, []),
  (1, .istore_n 3, 1, 3, 0, 0, 0, 0, []),
  (2, .iload_n 3, 1, 3, 0, 0, 0, 0, []),
  (3, .aload_n 1, 1, 1, 0, 0, 0, 0, []),
  (4, .getfield 51, 3, 1, 0, 0, 0, 0, []),
  (7, .if_icmp .ge 48, 3, 31, 0, 0, 0, 0, []),
  (10, .iload_n 2, 1, 2, 0, 0, 0, 0, []),
  (11, .iload_n 3, 1, 3, 0, 0, 0, 0, []),
  (12, .invokestatic 59, 3, 37, 2, 1, 1, 0, []),
  (15, .ifCond .eq 34, 3, 29, 0, 0, 0, 0, []),
  (18, .aload_n 0, 1, 0, 0, 0, 0, 0, []),
  (19, .getfield 30, 3, 6, 8, 1, 0, 0, []),
  (22, .iload_n 3, 1, 3, 0, 0, 0, 0, []),
  (23, .aload_n 1, 1, 1, 0, 0, 0, 0, []),
  (24, .iload_n 3, 1, 3, 0, 0, 0, 0, []),
  (25, .iload_n 2, 1, 2, 0, 0, 0, 0, []),
  (26, .invokestatic 67, 3, 181, 3, 1, 0, 0, []),
  (29, .iastore, 1, 0, 0, 0, 0, 0, []),
  (30, .aload_n 0, 1, 0, 0, 0, 0, 0, []),
  (31, .getfield 36, 3, 6, 1, 0, 0, 0, []),
  (34, .ifCond .ne 15, 3, 29, 0, 0, 0, 0, []),
  (37, .aload_n 0, 1, 0, 0, 0, 0, 0, []),
  (38, .getfield 21, 3, 6, 5, 1, 0, 0, []),
  (41, .iload_n 3, 1, 3, 0, 0, 0, 0, []),
  (42, .aload_n 0, 1, 0, 0, 0, 0, 0, []),
  (43, .getfield 30, 3, 6, 8, 1, 0, 0, []),
  (46, .iload_n 3, 1, 3, 0, 0, 0, 0, []),
  (47, .iaload, 1, 0, 0, 0, 0, 0, []),
  (48, .iastore, 1, 0, 0, 0, 0, 0, []),
  (49, .iinc 3 1, 3, 3, 0, 0, 1, 0, []),
  (52, .goto (-50), 3, 2, 0, 0, 0, 0, []),
  (55, .return_, 1, 0, 0, 0, 0, 0, [])]
def zp_180 : List (List Nat) := [[], [], [], [], [112], [], [], [], [10, 328, 62, 329], [], [], [177], [], [], [], [], [381, 382, 66, 383], [], [], [161], [], [], [170], [], [], [177], [], [], [], [], [], []]
abbrev jX6_choice : Nat := 181
def zd_181 : List zm_E := [(0, .iload_n 1, 1, 1, 0, 0, 0, 0, []),
  (1, .istore_n 3, 1, 3, 0, 0, 0, 0, []),
  (2, .iconst 0, 1, 0, 0, 0, 0, 0, []),
  (3, .istore 4, 2, 4, 0, 0, 0, 0, []),
  (5, .iload 4, 2, 4, 0, 0, 0, 0, []),
  (7, .aload_n 0, 1, 0, 0, 0, 0, 0, []),
  (8, .getfield 51, 3, 1, 0, 0, 0, 0, []),
  (11, .if_icmp .ge 47, 3, 31, 0, 0, 0, 0, []),
  (14, .iload_n 2, 1, 2, 0, 0, 0, 0, []),
  (15, .iload 4, 2, 4, 0, 0, 0, 0, []),
  (17, .invokestatic 59, 3, 37, 2, 1, 1, 0, []),
  (20, .ifCond .eq 32, 3, 29, 0, 0, 0, 0, []),
  (23, .aload_n 0, 1, 0, 0, 0, 0, 0, []),
  (24, .iload_n 1, 1, 1, 0, 0, 0, 0, []),
  (25, .aload_n 0, 1, 0, 0, 0, 0, 0, []),
  (26, .getfield 56, 3, 1, 3, 1, 0, 0, []),
  (29, .iload 4, 2, 4, 0, 0, 0, 0, []),
  (31, .iaload, 1, 0, 0, 0, 0, 0, []),
  (32, .invokevirtual 71, 3, 121, 2, 1, 0, 0, [1]),
  (35, .aload_n 0, 1, 0, 0, 0, 0, 0, []),
  (36, .iload_n 1, 1, 1, 0, 0, 0, 0, []),
  (37, .aload_n 0, 1, 0, 0, 0, 0, 0, []),
  (38, .getfield 56, 3, 1, 3, 1, 0, 0, []),
  (41, .iload_n 3, 1, 3, 0, 0, 0, 0, []),
  (42, .iaload, 1, 0, 0, 0, 0, 0, []),
  (43, .invokevirtual 71, 3, 121, 2, 1, 0, 0, [1]),
  (46, .if_icmp .ge 6, 3, 29, 0, 0, 0, 0, []),
  (49, .iload 4, 2, 4, 0, 0, 0, 0, []),
  (51, .istore_n 3, 1, 3, 0, 0, 0, 0, []),
  (52, .iinc 4 1, 3, 4, 0, 0, 1, 0, []),
  (55, .goto (-50), 3, 4, 0, 0, 0, 0, []),
  (58, .iload_n 3, 1, 3, 0, 0, 0, 0, []),
  (59, .ireturn, 1, 0, 0, 0, 0, 0, [])]
def zp_181 : List (List Nat) := [[], [], [], [], [], [], [112], [], [], [], [10, 328, 62, 329], [], [], [], [], [121], [], [], [384, 385, 386, 64, 387], [], [], [], [121], [], [], [384, 385, 386, 64, 387], [], [], [], [], [], [], []]
abbrev jX6_closeRings : Nat := 182
def zd_182 : List zm_E := [(0, .iconst 0, 1, 0, 0, 0, 0, 0, []),
  (1, .istore_n 3, 1, 3, 0, 0, 0, 0, []),
  (2, .iconst 0, 1, 0, 0, 0, 0, 0, []),
  (3, .istore 4, 2, 4, 0, 0, 0, 0, []),
  (5, .iload 4, 2, 4, 0, 0, 0, 0, []),
  (7, .aload_n 1, 1, 1, 0, 0, 0, 0, []),
  (8, .getfield 51, 3, 1, 0, 0, 0, 0, []),
  (11, .if_icmp .ge 47, 3, 32, 0, 0, 0, 0, []),
  (14, .iload_n 2, 1, 2, 0, 0, 0, 0, []),
  (15, .iload_n 3, 1, 3, 0, 0, 0, 0, []),
  (16, .iconst (-1), 1, 0, 0, 0, (-1), 0, []),
  (17, .ixor, 1, 0, 0, 0, 0, 0, []),
  (18, .iand, 1, 0, 0, 0, 0, 0, []),
  (19, .iload 4, 2, 4, 0, 0, 0, 0, []),
  (21, .invokestatic 59, 3, 37, 2, 1, 1, 0, []),
  (24, .ifCond .eq 28, 3, 30, 0, 0, 0, 0, []),
  (27, .aload_n 0, 1, 0, 0, 0, 0, 0, []),
  (28, .iload 4, 2, 4, 0, 0, 0, 0, []),
  (30, .invokevirtual 74, 3, 183, 1, 1, 0, 0, [6]),
  (33, .istore 5, 2, 5, 0, 0, 0, 0, []),
  (35, .iload 5, 2, 5, 0, 0, 0, 0, []),
  (37, .ifCond .eq 15, 3, 30, 0, 0, 0, 0, []),
  (40, .aload_n 0, 1, 0, 0, 0, 0, 0, []),
  (41, .aload_n 1, 1, 1, 0, 0, 0, 0, []),
  (42, .iload 5, 2, 5, 0, 0, 0, 0, []),
  (44, .invokevirtual 78, 3, 184, 2, 0, 0, 0, [6]),
  (47, .iload_n 3, 1, 3, 0, 0, 0, 0, []),
  (48, .iload 5, 2, 5, 0, 0, 0, 0, []),
  (50, .ior, 1, 0, 0, 0, 0, 0, []),
  (51, .istore_n 3, 1, 3, 0, 0, 0, 0, []),
  (52, .iinc 4 1, 3, 4, 0, 0, 1, 0, []),
  (55, .goto (-50), 3, 4, 0, 0, 0, 0, []),
  (58, .iload_n 3, 1, 3, 0, 0, 0, 0, []),
  (59, .ireturn, 1, 0, 0, 0, 0, 0, [])]
def zp_182 : List (List Nat) := [[], [], [], [], [], [], [112], [], [], [], [], [], [], [], [10, 328, 62, 329], [], [], [], [392, 394, 8, 66, 395], [], [], [], [], [], [], [397, 399, 9, 66, 400], [], [], [], [], [], [], [], []]
abbrev jX6_ringThrough : Nat := 183
def zd_183 : List zm_E := [(0, .iconst 0, 1, 0, 0, 0, 0, 0, []),
  (1, .istore_n 2, 1, 2, 0, 0, 0, 0, []),
  (2, .iload_n 1, 1, 1, 0, 0, 0, 0, []),
  (3, .istore_n 3, 1, 3, 0, 0, 0, 0, []),
  (4, .iconst 0, 1, 0, 0, 0, 0, 0, []),
  (5, .istore 4, 2, 4, 0, 0, 0, 0, []),
  (7, .iload 4, 2, 4, 0, 0, 0, 0, []),
  (9, .bipush 7, 2, 0, 0, 0, 7, 0, []),
  (11, .if_icmp .ge 30, 3, 26, 0, 0, 0, 0, []),
  (14, .iload_n 2, 1, 2, 0, 0, 0, 0, []),
  (15, .iload_n 3, 1, 3, 0, 0, 0, 0, []),
  (16, .invokestatic 81, 3, 36, 1, 1, 1, 0, []),
  (19, .ior, 1, 0, 0, 0, 0, 0, []),
  (20, .istore_n 2, 1, 2, 0, 0, 0, 0, []),
  (21, .aload_n 0, 1, 0, 0, 0, 0, 0, []),
  (22, .getfield 30, 3, 6, 8, 1, 0, 0, []),
  (25, .iload_n 3, 1, 3, 0, 0, 0, 0, []),
  (26, .iaload, 1, 0, 0, 0, 0, 0, []),
  (27, .istore_n 3, 1, 3, 0, 0, 0, 0, []),
  (28, .iload_n 3, 1, 3, 0, 0, 0, 0, []),
  (29, .iload_n 1, 1, 1, 0, 0, 0, 0, []),
  (30, .if_icmp .ne 5, 3, 24, 0, 0, 0, 0, []),
  (33, .iload_n 2, 1, 2, 0, 0, 0, 0, []),
  (34, .ireturn, 1, 0, 0, 0, 0, 0, []),
  (35, .iinc 4 1, 3, 4, 0, 0, 1, 0, []),
  (38, .goto (-31), 3, 6, 0, 0, 0, 0, []),
  (41, .iconst 0, 1, 0, 0, 0, 0, 0, []),
  (42, .ireturn, 1, 0, 0, 0, 0, 0, [])]
def zp_183 : List (List Nat) := [[], [], [], [], [], [], [], [], [], [], [], [11, 331, 62, 332], [], [], [], [177], [], [], [], [], [], [], [], [], [], [], [], []]
abbrev jX6_addRing : Nat := 184
def zd_184 : List zm_E := [(0, .aload_n 0, 1, 0, 0, 0, 0, 0, []),
  (1, .getfield 48, 3, 6, 0, 0, 0, 0, []),
  (4, .bipush 7, 2, 0, 0, 0, 7, 0, []),
  (6, .if_icmp .lt 4, 3, 5, 0, 0, 0, 0, []),
  (9, .return_, 1, 0, 0, 0, 0, 0, []),
  (10, .iconst 0, 1, 0, 0, 0, 0, 0, []),
  (11, .istore_n 3, 1, 3, 0, 0, 0, 0, []),
  (12, .iload_n 3, 1, 3, 0, 0, 0, 0, []),
  (13, .aload_n 1, 1, 1, 0, 0, 0, 0, []),
  (14, .getfield 51, 3, 1, 0, 0, 0, 0, []),
  (17, .if_icmp .ge 54, 3, 40, 0, 0, 0, 0, []),
  (20, .iload_n 2, 1, 2, 0, 0, 0, 0, []),
  (21, .iload_n 3, 1, 3, 0, 0, 0, 0, []),
  (22, .invokestatic 59, 3, 37, 2, 1, 1, 0, []),
  (25, .ifCond .eq 40, 3, 38, 0, 0, 0, 0, []),
  (28, .aload_n 0, 1, 0, 0, 0, 0, 0, []),
  (29, .getfield 9, 3, 6, 2, 1, 0, 0, []),
  (32, .iload_n 3, 1, 3, 0, 0, 0, 0, []),
  (33, .aload_n 1, 1, 1, 0, 0, 0, 0, []),
  (34, .getfield 56, 3, 1, 3, 1, 0, 0, []),
  (37, .aload_n 0, 1, 0, 0, 0, 0, 0, []),
  (38, .getfield 30, 3, 6, 8, 1, 0, 0, []),
  (41, .iload_n 3, 1, 3, 0, 0, 0, 0, []),
  (42, .iaload, 1, 0, 0, 0, 0, 0, []),
  (43, .iaload, 1, 0, 0, 0, 0, 0, []),
  (44, .iastore, 1, 0, 0, 0, 0, 0, []),
  (45, .aload_n 0, 1, 0, 0, 0, 0, 0, []),
  (46, .getfield 15, 3, 6, 3, 1, 0, 0, []),
  (49, .iload_n 3, 1, 3, 0, 0, 0, 0, []),
  (50, .aload_n 0, 1, 0, 0, 0, 0, 0, []),
  (51, .getfield 36, 3, 6, 1, 0, 0, 0, []),
  (54, .iastore, 1, 0, 0, 0, 0, 0, []),
  (55, .aload_n 0, 1, 0, 0, 0, 0, 0, []),
  (56, .getfield 18, 3, 6, 4, 1, 0, 0, []),
  (59, .iload_n 3, 1, 3, 0, 0, 0, 0, []),
  (60, .aload_n 0, 1, 0, 0, 0, 0, 0, []),
  (61, .getfield 48, 3, 6, 0, 0, 0, 0, []),
  (64, .iastore, 1, 0, 0, 0, 0, 0, []),
  (65, .iinc 3 1, 3, 3, 0, 0, 1, 0, []),
  (68, .goto (-56), 3, 7, 0, 0, 0, 0, []),
  (71, .aload_n 0, 1, 0, 0, 0, 0, 0, []),
  (72, .getfield 24, 3, 6, 6, 1, 0, 0, []),
  (75, .aload_n 0, 1, 0, 0, 0, 0, 0, []),
  (76, .getfield 48, 3, 6, 0, 0, 0, 0, []),
  (79, .iload_n 2, 1, 2, 0, 0, 0, 0, []),
  (80, .iastore, 1, 0, 0, 0, 0, 0, []),
  (81, .aload_n 0, 1, 0, 0, 0, 0, 0, []),
  (82, .getfield 27, 3, 6, 7, 1, 0, 0, []),
  (85, .aload_n 0, 1, 0, 0, 0, 0, 0, []),
  (86, .getfield 48, 3, 6, 0, 0, 0, 0, []),
  (89, .aload_n 0, 1, 0, 0, 0, 0, 0, []),
  (90, .getfield 36, 3, 6, 1, 0, 0, 0, []),
  (93, .iastore, 1, 0, 0, 0, 0, 0, []),
  (94, .aload_n 0, 1, 0, 0, 0, 0, 0, []),
  (95, .dup, 1, 0, 0, 0, 0, 0, []),
  (96, .getfield 48, 3, 6, 0, 0, 0, 0, []),
  (99, .iconst 1, 1, 0, 0, 0, 1, 0, []),
  (100, .iadd, 1, 0, 0, 0, 0, 0, []),
  (101, .putfield 48, 3, 6, 0, 0, 0, 0, []),
  (104, .return_, 1, 0, 0, 0, 0, 0, [])]
def zp_184 : List (List Nat) := [[], [159], [], [], [], [], [], [], [], [112], [], [], [], [10, 328, 62, 329], [], [], [163], [], [], [121], [], [177], [], [], [], [], [], [166], [], [], [161], [], [], [168], [], [], [159], [], [], [], [], [172], [], [159], [], [], [], [175], [], [159], [], [161], [], [], [], [159], [], [], [159], []]
abbrev jL_append : Nat := 185
def zd_185 : List zm_E := [(0, .aload_n 2, 1, 2, 0, 0, 0, 0, []),
  (1, .iconst 0, 1, 0, 0, 0, 0, 0, []),
  (2, .aload_n 0, 1, 0, 0, 0, 0, 0, []),
  (3, .iload_n 1, 1, 1, 0, 0, 0, 0, []),
  (4, .invokevirtual 7, 3, 1, 1, 1, 0, 0, [7]),
  (7, .i2l, 1, 0, 0, 0, 0, 0, []),
  (8, .lastore, 1, 0, 0, 0, 0, 0, []),
  (9, .goto 9, 3, 14, 0, 0, 0, 0, []),
  (12, .astore_n 3, 1, 3, 0, 0, 0, 0, []),
  (13, .iconst 1, 1, 0, 0, 0, 1, 0, []),
  (14, .ireturn, 1, 0, 0, 0, 0, 0, []),
  (15, .astore_n 3, 1, 3, 0, 0, 0, 0, []),
  (16, .iconst 2, 1, 0, 0, 0, 2, 0, []),
  (17, .ireturn, 1, 0, 0, 0, 0, 0, []),
  (18, .iconst 0, 1, 0, 0, 0, 0, 0, []),
  (19, .ireturn, 1, 0, 0, 0, 0, 0, [])]
def zp_185 : List (List Nat) := [[], [], [], [], [496, 497, 498, 62, 499], [], [], [], [], [], [], [], [], [], [], []]
abbrev jL_load : Nat := 186
def zd_186 : List zm_E := [(0, .aload_n 1, 1, 1, 0, 0, 0, 0, []),
  (1, .iconst 0, 1, 0, 0, 0, 0, 0, []),
  (2, .aload_n 0, 1, 0, 0, 0, 0, 0, []),
  (3, .invokevirtual 17, 3, 4, 0, 1, 0, 0, [7]),
  (6, .i2l, 1, 0, 0, 0, 0, 0, []),
  (7, .lastore, 1, 0, 0, 0, 0, 0, []),
  (8, .goto 6, 3, 10, 0, 0, 0, 0, []),
  (11, .astore_n 2, 1, 2, 0, 0, 0, 0, []),
  (12, .iconst 1, 1, 0, 0, 0, 1, 0, []),
  (13, .ireturn, 1, 0, 0, 0, 0, 0, []),
  (14, .iconst 0, 1, 0, 0, 0, 0, 0, []),
  (15, .ireturn, 1, 0, 0, 0, 0, 0, [])]
def zp_186 : List (List Nat) := [[], [], [], [596, 597, 598, 62, 599], [], [], [], [], [], [], [], []]
abbrev jL_about : Nat := 187
def zd_187 : List zm_E := [(0, .aload_n 2, 1, 2, 0, 0, 0, 0, []),
  (1, .iconst 0, 1, 0, 0, 0, 0, 0, []),
  (2, .aload_n 0, 1, 0, 0, 0, 0, 0, []),
  (3, .iload_n 1, 1, 1, 0, 0, 0, 0, []),
  (4, .invokevirtual 21, 3, 5, 1, 1, 0, 0, [7]),
  (7, .i2l, 1, 0, 0, 0, 0, 0, []),
  (8, .lastore, 1, 0, 0, 0, 0, 0, []),
  (9, .goto 6, 3, 11, 0, 0, 0, 0, []),
  (12, .astore_n 3, 1, 3, 0, 0, 0, 0, []),
  (13, .iconst 1, 1, 0, 0, 0, 1, 0, []),
  (14, .ireturn, 1, 0, 0, 0, 0, 0, []),
  (15, .iconst 0, 1, 0, 0, 0, 0, 0, []),
  (16, .ireturn, 1, 0, 0, 0, 0, 0, [])]
def zp_187 : List (List Nat) := [[], [], [], [], [615, 616, 617, 62, 618], [], [], [], [], [], [], [], []]
abbrev jL_trader : Nat := 188
def zd_188 : List zm_E := [(0, .aload_n 3, 1, 3, 0, 0, 0, 0, []),
  (1, .iconst 0, 1, 0, 0, 0, 0, 0, []),
  (2, .aload_n 0, 1, 0, 0, 0, 0, 0, []),
  (3, .iload_n 1, 1, 1, 0, 0, 0, 0, []),
  (4, .iload_n 2, 1, 2, 0, 0, 0, 0, []),
  (5, .invokevirtual 24, 3, 6, 2, 1, 0, 0, [7]),
  (8, .i2l, 1, 0, 0, 0, 0, 0, []),
  (9, .lastore, 1, 0, 0, 0, 0, 0, []),
  (10, .goto 11, 3, 15, 0, 0, 0, 0, []),
  (13, .astore 4, 2, 4, 0, 0, 0, 0, []),
  (15, .iconst 1, 1, 0, 0, 0, 1, 0, []),
  (16, .ireturn, 1, 0, 0, 0, 0, 0, []),
  (17, .astore 4, 2, 4, 0, 0, 0, 0, []),
  (19, .iconst 2, 1, 0, 0, 0, 2, 0, []),
  (20, .ireturn, 1, 0, 0, 0, 0, 0, []),
  (21, .iconst 0, 1, 0, 0, 0, 0, 0, []),
  (22, .ireturn, 1, 0, 0, 0, 0, 0, [])]
def zp_188 : List (List Nat) := [[], [], [], [], [], [649, 650, 651, 62, 652], [], [], [], [], [], [], [], [], [], [], []]
abbrev jL_rank : Nat := 189
def zd_189 : List zm_E := [(0, .aload_n 3, 1, 3, 0, 0, 0, 0, []),
  (1, .iconst 0, 1, 0, 0, 0, 0, 0, []),
  (2, .aload_n 0, 1, 0, 0, 0, 0, 0, []),
  (3, .iload_n 1, 1, 1, 0, 0, 0, 0, []),
  (4, .iload_n 2, 1, 2, 0, 0, 0, 0, []),
  (5, .invokevirtual 30, 3, 7, 2, 1, 0, 0, [7]),
  (8, .i2l, 1, 0, 0, 0, 0, 0, []),
  (9, .lastore, 1, 0, 0, 0, 0, 0, []),
  (10, .goto 7, 3, 12, 0, 0, 0, 0, []),
  (13, .astore 4, 2, 4, 0, 0, 0, 0, []),
  (15, .iconst 1, 1, 0, 0, 0, 1, 0, []),
  (16, .ireturn, 1, 0, 0, 0, 0, 0, []),
  (17, .iconst 0, 1, 0, 0, 0, 0, 0, []),
  (18, .ireturn, 1, 0, 0, 0, 0, 0, [])]
def zp_189 : List (List Nat) := [[], [], [], [], [], [683, 684, 685, 62, 686], [], [], [], [], [], [], [], []]
abbrev jL_holder : Nat := 190
def zd_190 : List zm_E := [(0, .aload_n 2, 1, 2, 0, 0, 0, 0, []),
  (1, .iconst 0, 1, 0, 0, 0, 0, 0, []),
  (2, .aload_n 0, 1, 0, 0, 0, 0, 0, []),
  (3, .iload_n 1, 1, 1, 0, 0, 0, 0, []),
  (4, .invokevirtual 33, 3, 8, 1, 1, 0, 0, [7]),
  (7, .i2l, 1, 0, 0, 0, 0, 0, []),
  (8, .lastore, 1, 0, 0, 0, 0, 0, []),
  (9, .goto 6, 3, 11, 0, 0, 0, 0, []),
  (12, .astore_n 3, 1, 3, 0, 0, 0, 0, []),
  (13, .iconst 1, 1, 0, 0, 0, 1, 0, []),
  (14, .ireturn, 1, 0, 0, 0, 0, 0, []),
  (15, .iconst 0, 1, 0, 0, 0, 0, 0, []),
  (16, .ireturn, 1, 0, 0, 0, 0, 0, [])]
def zp_190 : List (List Nat) := [[], [], [], [], [696, 697, 698, 62, 699], [], [], [], [], [], [], [], []]
abbrev jL_ring : Nat := 191
def zd_191 : List zm_E := [(0, .aload_n 3, 1, 3, 0, 0, 0, 0, []),
  (1, .iconst 0, 1, 0, 0, 0, 0, 0, []),
  (2, .aload_n 0, 1, 0, 0, 0, 0, 0, []),
  (3, .iload_n 1, 1, 1, 0, 0, 0, 0, []),
  (4, .iload_n 2, 1, 2, 0, 0, 0, 0, []),
  (5, .invokevirtual 36, 3, 9, 2, 1, 0, 0, [7]),
  (8, .i2l, 1, 0, 0, 0, 0, 0, []),
  (9, .lastore, 1, 0, 0, 0, 0, 0, []),
  (10, .goto 11, 3, 15, 0, 0, 0, 0, []),
  (13, .astore 4, 2, 4, 0, 0, 0, 0, []),
  (15, .iconst 1, 1, 0, 0, 0, 1, 0, []),
  (16, .ireturn, 1, 0, 0, 0, 0, 0, []),
  (17, .astore 4, 2, 4, 0, 0, 0, 0, []),
  (19, .iconst 2, 1, 0, 0, 0, 2, 0, []),
  (20, .ireturn, 1, 0, 0, 0, 0, 0, []),
  (21, .iconst 0, 1, 0, 0, 0, 0, 0, []),
  (22, .ireturn, 1, 0, 0, 0, 0, 0, [])]
def zp_191 : List (List Nat) := [[], [], [], [], [], [707, 708, 709, 62, 710], [], [], [], [], [], [], [], [], [], [], []]
abbrev jL_whyNot : Nat := 192
def zd_192 : List zm_E := [(0, .aload_n 3, 1, 3, 0, 0, 0, 0, []),
  (1, .iconst 0, 1, 0, 0, 0, 0, 0, []),
  (2, .aload_n 0, 1, 0, 0, 0, 0, 0, []),
  (3, .iload_n 1, 1, 1, 0, 0, 0, 0, []),
  (4, .iload_n 2, 1, 2, 0, 0, 0, 0, []),
  (5, .invokevirtual 39, 3, 10, 2, 1, 0, 0, [7]),
  (8, .i2l, 1, 0, 0, 0, 0, 0, []),
  (9, .lastore, 1, 0, 0, 0, 0, 0, []),
  (10, .goto 7, 3, 12, 0, 0, 0, 0, []),
  (13, .astore 4, 2, 4, 0, 0, 0, 0, []),
  (15, .iconst 1, 1, 0, 0, 0, 1, 0, []),
  (16, .ireturn, 1, 0, 0, 0, 0, 0, []),
  (17, .iconst 0, 1, 0, 0, 0, 0, 0, []),
  (18, .ireturn, 1, 0, 0, 0, 0, 0, [])]
def zp_192 : List (List Nat) := [[], [], [], [], [], [729, 730, 731, 62, 732], [], [], [], [], [], [], [], []]
abbrev jL_addTrader : Nat := 193
def zd_193 : List zm_E := [(0, .aload_n 1, 1, 1, 0, 0, 0, 0, []),
  (1, .iconst 0, 1, 0, 0, 0, 0, 0, []),
  (2, .aload_n 0, 1, 0, 0, 0, 0, 0, []),
  (3, .invokevirtual 42, 3, 11, 0, 1, 0, 0, [7]),
  (6, .i2l, 1, 0, 0, 0, 0, 0, []),
  (7, .lastore, 1, 0, 0, 0, 0, 0, []),
  (8, .goto 6, 3, 10, 0, 0, 0, 0, []),
  (11, .astore_n 2, 1, 2, 0, 0, 0, 0, []),
  (12, .iconst 1, 1, 0, 0, 0, 1, 0, []),
  (13, .ireturn, 1, 0, 0, 0, 0, 0, []),
  (14, .iconst 0, 1, 0, 0, 0, 0, 0, []),
  (15, .ireturn, 1, 0, 0, 0, 0, 0, [])]
def zp_193 : List (List Nat) := [[], [], [], [740, 741, 742, 62, 743], [], [], [], [], [], [], [], []]
abbrev jL_setRank : Nat := 194
def zd_194 : List zm_E := [(0, .aload 4, 2, 4, 0, 0, 0, 0, []),
  (2, .iconst 0, 1, 0, 0, 0, 0, 0, []),
  (3, .aload_n 0, 1, 0, 0, 0, 0, 0, []),
  (4, .iload_n 1, 1, 1, 0, 0, 0, 0, []),
  (5, .iload_n 2, 1, 2, 0, 0, 0, 0, []),
  (6, .iload_n 3, 1, 3, 0, 0, 0, 0, []),
  (7, .invokevirtual 45, 3, 12, 3, 1, 0, 0, [7]),
  (10, .i2l, 1, 0, 0, 0, 0, 0, []),
  (11, .lastore, 1, 0, 0, 0, 0, 0, []),
  (12, .goto 11, 3, 16, 0, 0, 0, 0, []),
  (15, .astore 5, 2, 5, 0, 0, 0, 0, []),
  (17, .iconst 1, 1, 0, 0, 0, 1, 0, []),
  (18, .ireturn, 1, 0, 0, 0, 0, 0, []),
  (19, .astore 5, 2, 5, 0, 0, 0, 0, []),
  (21, .iconst 2, 1, 0, 0, 0, 2, 0, []),
  (22, .ireturn, 1, 0, 0, 0, 0, 0, []),
  (23, .iconst 0, 1, 0, 0, 0, 0, 0, []),
  (24, .ireturn, 1, 0, 0, 0, 0, 0, [])]
def zp_194 : List (List Nat) := [[], [], [], [], [], [], [753, 754, 755, 62, 756], [], [], [], [], [], [], [], [], [], [], []]
abbrev jL_exchange : Nat := 195
def zd_195 : List zm_E := [(0, .aload_n 3, 1, 3, 0, 0, 0, 0, []),
  (1, .iconst 0, 1, 0, 0, 0, 0, 0, []),
  (2, .aload_n 0, 1, 0, 0, 0, 0, 0, []),
  (3, .iload_n 1, 1, 1, 0, 0, 0, 0, []),
  (4, .iload_n 2, 1, 2, 0, 0, 0, 0, []),
  (5, .invokevirtual 49, 3, 13, 2, 1, 0, 0, [7]),
  (8, .i2l, 1, 0, 0, 0, 0, 0, []),
  (9, .lastore, 1, 0, 0, 0, 0, 0, []),
  (10, .goto 11, 3, 15, 0, 0, 0, 0, []),
  (13, .astore 4, 2, 4, 0, 0, 0, 0, []),
  (15, .iconst 1, 1, 0, 0, 0, 1, 0, []),
  (16, .ireturn, 1, 0, 0, 0, 0, 0, []),
  (17, .astore 4, 2, 4, 0, 0, 0, 0, []),
  (19, .iconst 2, 1, 0, 0, 0, 2, 0, []),
  (20, .ireturn, 1, 0, 0, 0, 0, 0, []),
  (21, .iconst 0, 1, 0, 0, 0, 0, 0, []),
  (22, .ireturn, 1, 0, 0, 0, 0, 0, [])]
def zp_195 : List (List Nat) := [[], [], [], [], [], [762, 763, 764, 62, 765], [], [], [], [], [], [], [], [], [], [], []]
abbrev jL_doRing : Nat := 196
def zd_196 : List zm_E := [(0, .aload_n 2, 1, 2, 0, 0, 0, 0, []),
  (1, .iconst 0, 1, 0, 0, 0, 0, 0, []),
  (2, .aload_n 0, 1, 0, 0, 0, 0, 0, []),
  (3, .iload_n 1, 1, 1, 0, 0, 0, 0, []),
  (4, .invokevirtual 52, 3, 14, 1, 1, 0, 0, [7]),
  (7, .i2l, 1, 0, 0, 0, 0, 0, []),
  (8, .lastore, 1, 0, 0, 0, 0, 0, []),
  (9, .goto 6, 3, 11, 0, 0, 0, 0, []),
  (12, .astore_n 3, 1, 3, 0, 0, 0, 0, []),
  (13, .iconst 1, 1, 0, 0, 0, 1, 0, []),
  (14, .ireturn, 1, 0, 0, 0, 0, 0, []),
  (15, .iconst 0, 1, 0, 0, 0, 0, 0, []),
  (16, .ireturn, 1, 0, 0, 0, 0, 0, [])]
def zp_196 : List (List Nat) := [[], [], [], [], [774, 775, 776, 62, 777], [], [], [], [], [], [], [], []]
abbrev jL_leave : Nat := 197
def zd_197 : List zm_E := [(0, .aload_n 2, 1, 2, 0, 0, 0, 0, []),
  (1, .iconst 0, 1, 0, 0, 0, 0, 0, []),
  (2, .aload_n 0, 1, 0, 0, 0, 0, 0, []),
  (3, .iload_n 1, 1, 1, 0, 0, 0, 0, []),
  (4, .invokevirtual 55, 3, 16, 1, 1, 0, 0, [7]),
  (7, .i2l, 1, 0, 0, 0, 0, 0, []),
  (8, .lastore, 1, 0, 0, 0, 0, 0, []),
  (9, .goto 9, 3, 14, 0, 0, 0, 0, []),
  (12, .astore_n 3, 1, 3, 0, 0, 0, 0, []),
  (13, .iconst 1, 1, 0, 0, 0, 1, 0, []),
  (14, .ireturn, 1, 0, 0, 0, 0, 0, []),
  (15, .astore_n 3, 1, 3, 0, 0, 0, 0, []),
  (16, .iconst 2, 1, 0, 0, 0, 2, 0, []),
  (17, .ireturn, 1, 0, 0, 0, 0, 0, []),
  (18, .iconst 0, 1, 0, 0, 0, 0, 0, []),
  (19, .ireturn, 1, 0, 0, 0, 0, 0, [])]
def zp_197 : List (List Nat) := [[], [], [], [], [781, 782, 783, 62, 784], [], [], [], [], [], [], [], [], [], [], []]
abbrev jL_undo : Nat := 198
def zd_198 : List zm_E := [(0, .aload_n 1, 1, 1, 0, 0, 0, 0, []),
  (1, .iconst 0, 1, 0, 0, 0, 0, 0, []),
  (2, .aload_n 0, 1, 0, 0, 0, 0, 0, []),
  (3, .invokevirtual 58, 3, 18, 0, 1, 0, 0, [7]),
  (6, .i2l, 1, 0, 0, 0, 0, 0, []),
  (7, .lastore, 1, 0, 0, 0, 0, 0, []),
  (8, .goto 6, 3, 10, 0, 0, 0, 0, []),
  (11, .astore_n 2, 1, 2, 0, 0, 0, 0, []),
  (12, .iconst 1, 1, 0, 0, 0, 1, 0, []),
  (13, .ireturn, 1, 0, 0, 0, 0, 0, []),
  (14, .iconst 0, 1, 0, 0, 0, 0, 0, []),
  (15, .ireturn, 1, 0, 0, 0, 0, 0, [])]
def zp_198 : List (List Nat) := [[], [], [], [790, 791, 792, 62, 793], [], [], [], [], [], [], [], []]
abbrev jL_leastOf : Nat := 199
def zd_199 : List zm_E := [(0, .aload_n 2, 1, 2, 0, 0, 0, 0, []),
  (1, .iconst 0, 1, 0, 0, 0, 0, 0, []),
  (2, .aload_n 0, 1, 0, 0, 0, 0, 0, []),
  (3, .iload_n 1, 1, 1, 0, 0, 0, 0, []),
  (4, .invokevirtual 61, 3, 22, 1, 1, 0, 0, [7]),
  (7, .i2l, 1, 0, 0, 0, 0, 0, []),
  (8, .lastore, 1, 0, 0, 0, 0, 0, []),
  (9, .goto 6, 3, 11, 0, 0, 0, 0, []),
  (12, .astore_n 3, 1, 3, 0, 0, 0, 0, []),
  (13, .iconst 1, 1, 0, 0, 0, 1, 0, []),
  (14, .ireturn, 1, 0, 0, 0, 0, 0, []),
  (15, .iconst 0, 1, 0, 0, 0, 0, 0, []),
  (16, .ireturn, 1, 0, 0, 0, 0, 0, [])]
def zp_199 : List (List Nat) := [[], [], [], [], [802, 803, 804, 62, 805], [], [], [], [], [], [], [], []]
abbrev jL_harms : Nat := 200
def zd_200 : List zm_E := [(0, .aload_n 2, 1, 2, 0, 0, 0, 0, []),
  (1, .iconst 0, 1, 0, 0, 0, 0, 0, []),
  (2, .aload_n 0, 1, 0, 0, 0, 0, 0, []),
  (3, .iload_n 1, 1, 1, 0, 0, 0, 0, []),
  (4, .invokevirtual 64, 3, 24, 1, 1, 0, 0, [7]),
  (7, .i2l, 1, 0, 0, 0, 0, 0, []),
  (8, .lastore, 1, 0, 0, 0, 0, 0, []),
  (9, .goto 6, 3, 11, 0, 0, 0, 0, []),
  (12, .astore_n 3, 1, 3, 0, 0, 0, 0, []),
  (13, .iconst 1, 1, 0, 0, 0, 1, 0, []),
  (14, .ireturn, 1, 0, 0, 0, 0, 0, []),
  (15, .iconst 0, 1, 0, 0, 0, 0, 0, []),
  (16, .ireturn, 1, 0, 0, 0, 0, 0, [])]
def zp_200 : List (List Nat) := [[], [], [], [], [814, 815, 816, 62, 817], [], [], [], [], [], [], [], []]
abbrev jL_fewest : Nat := 201
def zd_201 : List zm_E := [(0, .aload_n 3, 1, 3, 0, 0, 0, 0, []),
  (1, .iconst 0, 1, 0, 0, 0, 0, 0, []),
  (2, .aload_n 0, 1, 0, 0, 0, 0, 0, []),
  (3, .iload_n 1, 1, 1, 0, 0, 0, 0, []),
  (4, .iload_n 2, 1, 2, 0, 0, 0, 0, []),
  (5, .invokevirtual 67, 3, 25, 2, 1, 0, 0, [7]),
  (8, .i2l, 1, 0, 0, 0, 0, 0, []),
  (9, .lastore, 1, 0, 0, 0, 0, 0, []),
  (10, .goto 7, 3, 12, 0, 0, 0, 0, []),
  (13, .astore 4, 2, 4, 0, 0, 0, 0, []),
  (15, .iconst 1, 1, 0, 0, 0, 1, 0, []),
  (16, .ireturn, 1, 0, 0, 0, 0, 0, []),
  (17, .iconst 0, 1, 0, 0, 0, 0, 0, []),
  (18, .ireturn, 1, 0, 0, 0, 0, 0, [])]
def zp_201 : List (List Nat) := [[], [], [], [], [], [823, 824, 825, 62, 826], [], [], [], [], [], [], [], []]
abbrev jL_runScript : Nat := 202
def zd_202 : List zm_E := [(0, .aload 4, 2, 4, 0, 0, 0, 0, []),
  (2, .iconst 0, 1, 0, 0, 0, 0, 0, []),
  (3, .aload_n 0, 1, 0, 0, 0, 0, 0, []),
  (4, .iload_n 1, 1, 1, 0, 0, 0, 0, []),
  (5, .lload_n 2, 1, 2, 0, 0, 0, 0, []),
  (6, .invokevirtual 70, 3, 26, 2, 1, 0, 0, [7]),
  (9, .i2l, 1, 0, 0, 0, 0, 0, []),
  (10, .lastore, 1, 0, 0, 0, 0, 0, []),
  (11, .goto 7, 3, 12, 0, 0, 0, 0, []),
  (14, .astore 5, 2, 5, 0, 0, 0, 0, []),
  (16, .iconst 1, 1, 0, 0, 0, 1, 0, []),
  (17, .ireturn, 1, 0, 0, 0, 0, 0, []),
  (18, .iconst 0, 1, 0, 0, 0, 0, 0, []),
  (19, .ireturn, 1, 0, 0, 0, 0, 0, [])]
def zp_202 : List (List Nat) := [[], [], [], [], [], [860, 861, 862, 62, 863], [], [], [], [], [], [], [], []]
abbrev jL_simulate : Nat := 203
def zd_203 : List zm_E := [(0, .aload 4, 2, 4, 0, 0, 0, 0, []),
  (2, .iconst 0, 1, 0, 0, 0, 0, 0, []),
  (3, .aload_n 0, 1, 0, 0, 0, 0, 0, []),
  (4, .lload_n 1, 1, 1, 0, 0, 0, 0, []),
  (5, .iload_n 3, 1, 3, 0, 0, 0, 0, []),
  (6, .invokevirtual 74, 3, 27, 2, 1, 0, 0, [7]),
  (9, .i2l, 1, 0, 0, 0, 0, 0, []),
  (10, .lastore, 1, 0, 0, 0, 0, 0, []),
  (11, .goto 7, 3, 12, 0, 0, 0, 0, []),
  (14, .astore 5, 2, 5, 0, 0, 0, 0, []),
  (16, .iconst 1, 1, 0, 0, 0, 1, 0, []),
  (17, .ireturn, 1, 0, 0, 0, 0, 0, []),
  (18, .iconst 0, 1, 0, 0, 0, 0, 0, []),
  (19, .ireturn, 1, 0, 0, 0, 0, 0, [])]
def zp_203 : List (List Nat) := [[], [], [], [], [], [910, 911, 912, 62, 913], [], [], [], [], [], [], [], []]
abbrev jL_save : Nat := 204
def zd_204 : List zm_E := [(0, .aload_n 2, 1, 2, 0, 0, 0, 0, []),
  (1, .iconst 0, 1, 0, 0, 0, 0, 0, []),
  (2, .aload_n 0, 1, 0, 0, 0, 0, 0, []),
  (3, .iload_n 1, 1, 1, 0, 0, 0, 0, []),
  (4, .invokevirtual 78, 3, 28, 1, 1, 0, 0, [7]),
  (7, .i2l, 1, 0, 0, 0, 0, 0, []),
  (8, .lastore, 1, 0, 0, 0, 0, 0, []),
  (9, .goto 6, 3, 11, 0, 0, 0, 0, []),
  (12, .astore_n 3, 1, 3, 0, 0, 0, 0, []),
  (13, .iconst 1, 1, 0, 0, 0, 1, 0, []),
  (14, .ireturn, 1, 0, 0, 0, 0, 0, []),
  (15, .iconst 0, 1, 0, 0, 0, 0, 0, []),
  (16, .ireturn, 1, 0, 0, 0, 0, 0, [])]
def zp_204 : List (List Nat) := [[], [], [], [], [923, 924, 925, 62, 926], [], [], [], [], [], [], [], []]
abbrev jL_restore : Nat := 205
def zd_205 : List zm_E := [(0, .aload_n 2, 1, 2, 0, 0, 0, 0, []),
  (1, .iconst 0, 1, 0, 0, 0, 0, 0, []),
  (2, .aload_n 0, 1, 0, 0, 0, 0, 0, []),
  (3, .iload_n 1, 1, 1, 0, 0, 0, 0, []),
  (4, .invokevirtual 81, 3, 29, 1, 1, 0, 0, [7]),
  (7, .i2l, 1, 0, 0, 0, 0, 0, []),
  (8, .lastore, 1, 0, 0, 0, 0, 0, []),
  (9, .goto 9, 3, 14, 0, 0, 0, 0, []),
  (12, .astore_n 3, 1, 3, 0, 0, 0, 0, []),
  (13, .iconst 1, 1, 0, 0, 0, 1, 0, []),
  (14, .ireturn, 1, 0, 0, 0, 0, 0, []),
  (15, .astore_n 3, 1, 3, 0, 0, 0, 0, []),
  (16, .iconst 2, 1, 0, 0, 0, 2, 0, []),
  (17, .ireturn, 1, 0, 0, 0, 0, 0, []),
  (18, .iconst 0, 1, 0, 0, 0, 0, 0, []),
  (19, .ireturn, 1, 0, 0, 0, 0, 0, [])]
def zp_205 : List (List Nat) := [[], [], [], [], [935, 936, 937, 62, 938], [], [], [], [], [], [], [], [], [], [], []]
abbrev jL_law : Nat := 206
def zd_206_0 : List zm_E := [(0, .new 8, 3, 7, 0, 0, 0, 0, []),
  (3, .dup, 1, 0, 0, 0, 0, 0, []),
  (4, .invokespecial 84, 3, 0, 0, 0, 0, 0, []),
  (7, .astore_n 1, 1, 1, 0, 0, 0, 0, []),
  (8, .new 85, 3, 8, 0, 0, 0, 0, []),
  (11, .dup, 1, 0, 0, 0, 0, 0, []),
  (12, .invokespecial 87, 3, 38, 0, 0, 0, 0, []),
  (15, .astore_n 2, 1, 2, 0, 0, 0, 0, []),
  (16, .iconst 1, 1, 0, 0, 0, 1, 0, []),
  (17, .newarray .long, 2, 1, 0, 0, 0, 0, []),
  (19, .astore_n 3, 1, 3, 0, 0, 0, 0, []),
  (20, .iconst 0, 1, 0, 0, 0, 0, 0, []),
  (21, .istore 4, 2, 4, 0, 0, 0, 0, []),
  (23, .iload 4, 2, 4, 0, 0, 0, 0, []),
  (25, .aload_n 0, 1, 0, 0, 0, 0, 0, []),
  (26, .arraylength, 1, 0, 0, 0, 0, 0, []),
  (27, .iconst 4, 1, 0, 0, 0, 4, 0, []),
  (28, .isub, 1, 0, 0, 0, 0, 0, []),
  (29, .if_icmp .gt 1629, 3, 972, 0, 0, 0, 0, []),
  (32, .aload_n 0, 1, 0, 0, 0, 0, 0, []),
  (33, .iload 4, 2, 4, 0, 0, 0, 0, []),
  (35, .iaload, 1, 0, 0, 0, 0, 0, []),
  (36, .bipush 31, 2, 0, 0, 0, 31, 0, []),
  (38, .iand, 1, 0, 0, 0, 0, 0, []),
  (39, .tableswitch 1613 0 28 #[129, 185, 198, 211, 255, 311, 379, 447, 503, 571, 639, 683, 763, 831, 887, 900, 956, 969, 1013, 1054, 1095, 1108, 1164, 1177, 1233, 1301, 1401, 1501, 1557], 129, 970, 0, 0, 0, 0, [25, 60, 67, 74, 99, 134, 179, 224, 259, 304, 349, 374, 429, 474, 509, 516, 551, 558, 583, 608, 633, 640, 675, 682, 717, 762, 831, 900, 935]),
  (168, .aload_n 1, 1, 1, 0, 0, 0, 0, []),
  (169, .aload_n 0, 1, 0, 0, 0, 0, 0, []),
  (170, .iload 4, 2, 4, 0, 0, 0, 0, []),
  (172, .iconst 1, 1, 0, 0, 0, 1, 0, []),
  (173, .iadd, 1, 0, 0, 0, 0, 0, []),
  (174, .iaload, 1, 0, 0, 0, 0, 0, []),
  (175, .aload_n 3, 1, 3, 0, 0, 0, 0, []),
  (176, .invokestatic 88, 3, 185, 3, 1, 0, 0, []),
  (179, .istore 5, 2, 5, 0, 0, 0, 0, []),
  (181, .aload_n 2, 1, 2, 0, 0, 0, 0, []),
  (182, .aload_n 0, 1, 0, 0, 0, 0, 0, []),
  (183, .iload 4, 2, 4, 0, 0, 0, 0, []),
  (185, .iconst 1, 1, 0, 0, 0, 1, 0, []),
  (186, .iadd, 1, 0, 0, 0, 0, 0, []),
  (187, .iaload, 1, 0, 0, 0, 0, 0, []),
  (188, .invokevirtual 93, 3, 57, 1, 1, 0, 0, [8]),
  (191, .istore 6, 2, 6, 0, 0, 0, 0, []),
  (193, .aload_n 2, 1, 2, 0, 0, 0, 0, []),
  (194, .invokevirtual 94, 3, 39, 0, 1, 0, 0, [8]),
  (197, .iload 5, 2, 5, 0, 0, 0, 0, []),
  (199, .if_icmp .eq 5, 3, 48, 0, 0, 0, 0, []),
  (202, .iconst 0, 1, 0, 0, 0, 0, 0, []),
  (203, .ireturn, 1, 1, 0, 0, 0, 0, []),
  (204, .iload 5, 2, 5, 0, 0, 0, 0, []),
  (206, .ifCond .ne 15, 3, 59, 0, 0, 0, 0, []),
  (209, .aload_n 3, 1, 3, 0, 0, 0, 0, []),
  (210, .iconst 0, 1, 0, 0, 0, 0, 0, []),
  (211, .laload, 1, 0, 0, 0, 0, 0, []),
  (212, .iload 6, 2, 6, 0, 0, 0, 0, []),
  (214, .i2l, 1, 0, 0, 0, 0, 0, []),
  (215, .lcmp, 1, 0, 0, 0, 0, 0, []),
  (216, .ifCond .eq 5, 3, 59, 0, 0, 0, 0, []),
  (219, .iconst 0, 1, 0, 0, 0, 0, 0, []),
  (220, .ireturn, 1, 1, 0, 0, 0, 0, []),
  (221, .goto 1431, 3, 970, 0, 0, 0, 0, [])]
def zp_206_0 : List (List Nat) := [[81, 82, 62], [], [83, 84, 62, 85], [], [940, 941, 70], [], [942, 943, 70, 944], [], [], [239], [], [], [], [], [], [], [], [], [], [], [], [], [], [], [], [], [], [], [], [], [], [], [491, 492, 61, 493], [], [], [], [], [], [], [], [1032, 1033, 1034, 70, 1035], [], [], [1028, 1029, 1030, 70, 1031], [], [], [], [], [], [], [], [], [], [], [], [], [], [], [], []]
def zd_206_1 : List zm_E := [(224, .aload_n 1, 1, 1, 0, 0, 0, 0, []),
  (225, .invokevirtual 97, 3, 2, 0, 1, 0, 0, [7]),
  (228, .aload_n 2, 1, 2, 0, 0, 0, 0, []),
  (229, .invokevirtual 100, 3, 58, 0, 1, 0, 0, [8]),
  (232, .if_icmp .eq 1420, 3, 970, 0, 0, 0, 0, []),
  (235, .iconst 0, 1, 0, 0, 0, 0, 0, []),
  (236, .ireturn, 1, 1, 0, 0, 0, 0, []),
  (237, .aload_n 1, 1, 1, 0, 0, 0, 0, []),
  (238, .invokevirtual 101, 3, 3, 0, 1, 0, 0, [7]),
  (241, .aload_n 2, 1, 2, 0, 0, 0, 0, []),
  (242, .invokevirtual 104, 3, 63, 0, 1, 0, 0, [8]),
  (245, .if_icmp .eq 1407, 3, 970, 0, 0, 0, 0, []),
  (248, .iconst 0, 1, 0, 0, 0, 0, 0, []),
  (249, .ireturn, 1, 1, 0, 0, 0, 0, []),
  (250, .aload_n 1, 1, 1, 0, 0, 0, 0, []),
  (251, .aload_n 3, 1, 3, 0, 0, 0, 0, []),
  (252, .invokestatic 105, 3, 186, 2, 1, 0, 0, []),
  (255, .istore 5, 2, 5, 0, 0, 0, 0, []),
  (257, .aload_n 2, 1, 2, 0, 0, 0, 0, []),
  (258, .invokevirtual 108, 3, 64, 0, 1, 0, 0, [8]),
  (261, .istore 6, 2, 6, 0, 0, 0, 0, []),
  (263, .aload_n 2, 1, 2, 0, 0, 0, 0, []),
  (264, .invokevirtual 94, 3, 39, 0, 1, 0, 0, [8]),
  (267, .iload 5, 2, 5, 0, 0, 0, 0, []),
  (269, .if_icmp .eq 5, 3, 87, 0, 0, 0, 0, []),
  (272, .iconst 0, 1, 0, 0, 0, 0, 0, []),
  (273, .ireturn, 1, 1, 0, 0, 0, 0, []),
  (274, .iload 5, 2, 5, 0, 0, 0, 0, []),
  (276, .ifCond .ne 15, 3, 98, 0, 0, 0, 0, []),
  (279, .aload_n 3, 1, 3, 0, 0, 0, 0, []),
  (280, .iconst 0, 1, 0, 0, 0, 0, 0, []),
  (281, .laload, 1, 0, 0, 0, 0, 0, []),
  (282, .iload 6, 2, 6, 0, 0, 0, 0, []),
  (284, .i2l, 1, 0, 0, 0, 0, 0, []),
  (285, .lcmp, 1, 0, 0, 0, 0, 0, []),
  (286, .ifCond .eq 5, 3, 98, 0, 0, 0, 0, []),
  (289, .iconst 0, 1, 0, 0, 0, 0, 0, []),
  (290, .ireturn, 1, 1, 0, 0, 0, 0, []),
  (291, .goto 1361, 3, 970, 0, 0, 0, 0, []),
  (294, .aload_n 1, 1, 1, 0, 0, 0, 0, []),
  (295, .aload_n 0, 1, 0, 0, 0, 0, 0, []),
  (296, .iload 4, 2, 4, 0, 0, 0, 0, []),
  (298, .iconst 1, 1, 0, 0, 0, 1, 0, []),
  (299, .iadd, 1, 0, 0, 0, 0, 0, []),
  (300, .iaload, 1, 0, 0, 0, 0, 0, []),
  (301, .aload_n 3, 1, 3, 0, 0, 0, 0, []),
  (302, .invokestatic 109, 3, 187, 3, 1, 0, 0, []),
  (305, .istore 5, 2, 5, 0, 0, 0, 0, []),
  (307, .aload_n 2, 1, 2, 0, 0, 0, 0, []),
  (308, .aload_n 0, 1, 0, 0, 0, 0, 0, []),
  (309, .iload 4, 2, 4, 0, 0, 0, 0, []),
  (311, .iconst 1, 1, 0, 0, 0, 1, 0, []),
  (312, .iadd, 1, 0, 0, 0, 0, 0, []),
  (313, .iaload, 1, 0, 0, 0, 0, 0, []),
  (314, .invokevirtual 111, 3, 66, 1, 1, 0, 0, [8]),
  (317, .istore 6, 2, 6, 0, 0, 0, 0, []),
  (319, .aload_n 2, 1, 2, 0, 0, 0, 0, []),
  (320, .invokevirtual 94, 3, 39, 0, 1, 0, 0, [8]),
  (323, .iload 5, 2, 5, 0, 0, 0, 0, []),
  (325, .if_icmp .eq 5, 3, 122, 0, 0, 0, 0, [])]
def zp_206_1 : List (List Nat) := [[], [287, 288, 289, 62, 290], [], [1044, 1045, 1046, 70, 1047], [], [], [], [], [291, 292, 293, 62, 294], [], [1048, 1049, 1050, 70, 1051], [], [], [], [], [], [593, 594, 61, 595], [], [], [1071, 1072, 1073, 70, 1074], [], [], [1028, 1029, 1030, 70, 1031], [], [], [], [], [], [], [], [], [], [], [], [], [], [], [], [], [], [], [], [], [], [], [], [612, 613, 61, 614], [], [], [], [], [], [], [], [1082, 1083, 1084, 70, 1085], [], [], [1028, 1029, 1030, 70, 1031], [], []]
def zd_206_2 : List zm_E := [(328, .iconst 0, 1, 0, 0, 0, 0, 0, []),
  (329, .ireturn, 1, 1, 0, 0, 0, 0, []),
  (330, .iload 5, 2, 5, 0, 0, 0, 0, []),
  (332, .ifCond .ne 15, 3, 133, 0, 0, 0, 0, []),
  (335, .aload_n 3, 1, 3, 0, 0, 0, 0, []),
  (336, .iconst 0, 1, 0, 0, 0, 0, 0, []),
  (337, .laload, 1, 0, 0, 0, 0, 0, []),
  (338, .iload 6, 2, 6, 0, 0, 0, 0, []),
  (340, .i2l, 1, 0, 0, 0, 0, 0, []),
  (341, .lcmp, 1, 0, 0, 0, 0, 0, []),
  (342, .ifCond .eq 5, 3, 133, 0, 0, 0, 0, []),
  (345, .iconst 0, 1, 0, 0, 0, 0, 0, []),
  (346, .ireturn, 1, 1, 0, 0, 0, 0, []),
  (347, .goto 1305, 3, 970, 0, 0, 0, 0, []),
  (350, .aload_n 1, 1, 1, 0, 0, 0, 0, []),
  (351, .aload_n 0, 1, 0, 0, 0, 0, 0, []),
  (352, .iload 4, 2, 4, 0, 0, 0, 0, []),
  (354, .iconst 1, 1, 0, 0, 0, 1, 0, []),
  (355, .iadd, 1, 0, 0, 0, 0, 0, []),
  (356, .iaload, 1, 0, 0, 0, 0, 0, []),
  (357, .aload_n 0, 1, 0, 0, 0, 0, 0, []),
  (358, .iload 4, 2, 4, 0, 0, 0, 0, []),
  (360, .iconst 2, 1, 0, 0, 0, 2, 0, []),
  (361, .iadd, 1, 0, 0, 0, 0, 0, []),
  (362, .iaload, 1, 0, 0, 0, 0, 0, []),
  (363, .aload_n 3, 1, 3, 0, 0, 0, 0, []),
  (364, .invokestatic 112, 3, 188, 4, 1, 0, 0, []),
  (367, .istore 5, 2, 5, 0, 0, 0, 0, []),
  (369, .aload_n 2, 1, 2, 0, 0, 0, 0, []),
  (370, .aload_n 0, 1, 0, 0, 0, 0, 0, []),
  (371, .iload 4, 2, 4, 0, 0, 0, 0, []),
  (373, .iconst 1, 1, 0, 0, 0, 1, 0, []),
  (374, .iadd, 1, 0, 0, 0, 0, 0, []),
  (375, .iaload, 1, 0, 0, 0, 0, 0, []),
  (376, .aload_n 0, 1, 0, 0, 0, 0, 0, []),
  (377, .iload 4, 2, 4, 0, 0, 0, 0, []),
  (379, .iconst 2, 1, 0, 0, 0, 2, 0, []),
  (380, .iadd, 1, 0, 0, 0, 0, 0, []),
  (381, .iaload, 1, 0, 0, 0, 0, 0, []),
  (382, .invokevirtual 115, 3, 67, 2, 1, 0, 0, [8]),
  (385, .istore 6, 2, 6, 0, 0, 0, 0, []),
  (387, .aload_n 2, 1, 2, 0, 0, 0, 0, []),
  (388, .invokevirtual 94, 3, 39, 0, 1, 0, 0, [8]),
  (391, .iload 5, 2, 5, 0, 0, 0, 0, []),
  (393, .if_icmp .eq 5, 3, 167, 0, 0, 0, 0, []),
  (396, .iconst 0, 1, 0, 0, 0, 0, 0, []),
  (397, .ireturn, 1, 1, 0, 0, 0, 0, []),
  (398, .iload 5, 2, 5, 0, 0, 0, 0, []),
  (400, .ifCond .ne 15, 3, 178, 0, 0, 0, 0, []),
  (403, .aload_n 3, 1, 3, 0, 0, 0, 0, []),
  (404, .iconst 0, 1, 0, 0, 0, 0, 0, []),
  (405, .laload, 1, 0, 0, 0, 0, 0, []),
  (406, .iload 6, 2, 6, 0, 0, 0, 0, []),
  (408, .i2l, 1, 0, 0, 0, 0, 0, []),
  (409, .lcmp, 1, 0, 0, 0, 0, 0, []),
  (410, .ifCond .eq 5, 3, 178, 0, 0, 0, 0, []),
  (413, .iconst 0, 1, 0, 0, 0, 0, 0, []),
  (414, .ireturn, 1, 1, 0, 0, 0, 0, []),
  (415, .goto 1237, 3, 970, 0, 0, 0, 0, []),
  (418, .aload_n 1, 1, 1, 0, 0, 0, 0, [])]
def zp_206_2 : List (List Nat) := [[], [], [], [], [], [], [], [], [], [], [], [], [], [], [], [], [], [], [], [], [], [], [], [], [], [], [645, 646, 61, 647], [], [], [], [], [], [], [], [], [], [], [], [], [1122, 1123, 1124, 70, 1125], [], [], [1028, 1029, 1030, 70, 1031], [], [], [], [], [], [], [], [], [], [], [], [], [], [], [], [], []]
def zd_206_3 : List zm_E := [(419, .aload_n 0, 1, 0, 0, 0, 0, 0, []),
  (420, .iload 4, 2, 4, 0, 0, 0, 0, []),
  (422, .iconst 1, 1, 0, 0, 0, 1, 0, []),
  (423, .iadd, 1, 0, 0, 0, 0, 0, []),
  (424, .iaload, 1, 0, 0, 0, 0, 0, []),
  (425, .aload_n 0, 1, 0, 0, 0, 0, 0, []),
  (426, .iload 4, 2, 4, 0, 0, 0, 0, []),
  (428, .iconst 2, 1, 0, 0, 0, 2, 0, []),
  (429, .iadd, 1, 0, 0, 0, 0, 0, []),
  (430, .iaload, 1, 0, 0, 0, 0, 0, []),
  (431, .aload_n 3, 1, 3, 0, 0, 0, 0, []),
  (432, .invokestatic 116, 3, 189, 4, 1, 0, 0, []),
  (435, .istore 5, 2, 5, 0, 0, 0, 0, []),
  (437, .aload_n 2, 1, 2, 0, 0, 0, 0, []),
  (438, .aload_n 0, 1, 0, 0, 0, 0, 0, []),
  (439, .iload 4, 2, 4, 0, 0, 0, 0, []),
  (441, .iconst 1, 1, 0, 0, 0, 1, 0, []),
  (442, .iadd, 1, 0, 0, 0, 0, 0, []),
  (443, .iaload, 1, 0, 0, 0, 0, 0, []),
  (444, .aload_n 0, 1, 0, 0, 0, 0, 0, []),
  (445, .iload 4, 2, 4, 0, 0, 0, 0, []),
  (447, .iconst 2, 1, 0, 0, 0, 2, 0, []),
  (448, .iadd, 1, 0, 0, 0, 0, 0, []),
  (449, .iaload, 1, 0, 0, 0, 0, 0, []),
  (450, .invokevirtual 118, 3, 68, 2, 1, 0, 0, [8]),
  (453, .istore 6, 2, 6, 0, 0, 0, 0, []),
  (455, .aload_n 2, 1, 2, 0, 0, 0, 0, []),
  (456, .invokevirtual 94, 3, 39, 0, 1, 0, 0, [8]),
  (459, .iload 5, 2, 5, 0, 0, 0, 0, []),
  (461, .if_icmp .eq 5, 3, 212, 0, 0, 0, 0, []),
  (464, .iconst 0, 1, 0, 0, 0, 0, 0, []),
  (465, .ireturn, 1, 1, 0, 0, 0, 0, []),
  (466, .iload 5, 2, 5, 0, 0, 0, 0, []),
  (468, .ifCond .ne 15, 3, 223, 0, 0, 0, 0, []),
  (471, .aload_n 3, 1, 3, 0, 0, 0, 0, []),
  (472, .iconst 0, 1, 0, 0, 0, 0, 0, []),
  (473, .laload, 1, 0, 0, 0, 0, 0, []),
  (474, .iload 6, 2, 6, 0, 0, 0, 0, []),
  (476, .i2l, 1, 0, 0, 0, 0, 0, []),
  (477, .lcmp, 1, 0, 0, 0, 0, 0, []),
  (478, .ifCond .eq 5, 3, 223, 0, 0, 0, 0, []),
  (481, .iconst 0, 1, 0, 0, 0, 0, 0, []),
  (482, .ireturn, 1, 1, 0, 0, 0, 0, []),
  (483, .goto 1169, 3, 970, 0, 0, 0, 0, []),
  (486, .aload_n 1, 1, 1, 0, 0, 0, 0, []),
  (487, .aload_n 0, 1, 0, 0, 0, 0, 0, []),
  (488, .iload 4, 2, 4, 0, 0, 0, 0, []),
  (490, .iconst 1, 1, 0, 0, 0, 1, 0, []),
  (491, .iadd, 1, 0, 0, 0, 0, 0, []),
  (492, .iaload, 1, 0, 0, 0, 0, 0, []),
  (493, .aload_n 3, 1, 3, 0, 0, 0, 0, []),
  (494, .invokestatic 119, 3, 190, 3, 1, 0, 0, []),
  (497, .istore 5, 2, 5, 0, 0, 0, 0, []),
  (499, .aload_n 2, 1, 2, 0, 0, 0, 0, []),
  (500, .aload_n 0, 1, 0, 0, 0, 0, 0, []),
  (501, .iload 4, 2, 4, 0, 0, 0, 0, []),
  (503, .iconst 1, 1, 0, 0, 0, 1, 0, []),
  (504, .iadd, 1, 0, 0, 0, 0, 0, []),
  (505, .iaload, 1, 0, 0, 0, 0, 0, []),
  (506, .invokevirtual 121, 3, 69, 1, 1, 0, 0, [8])]
def zp_206_3 : List (List Nat) := [[], [], [], [], [], [], [], [], [], [], [], [680, 681, 61, 682], [], [], [], [], [], [], [], [], [], [], [], [], [1130, 1131, 1132, 70, 1133], [], [], [1028, 1029, 1030, 70, 1031], [], [], [], [], [], [], [], [], [], [], [], [], [], [], [], [], [], [], [], [], [], [], [], [693, 694, 61, 695], [], [], [], [], [], [], [], [1134, 1135, 1136, 70, 1137]]
def zd_206_4 : List zm_E := [(509, .istore 6, 2, 6, 0, 0, 0, 0, []),
  (511, .aload_n 2, 1, 2, 0, 0, 0, 0, []),
  (512, .invokevirtual 94, 3, 39, 0, 1, 0, 0, [8]),
  (515, .iload 5, 2, 5, 0, 0, 0, 0, []),
  (517, .if_icmp .eq 5, 3, 247, 0, 0, 0, 0, []),
  (520, .iconst 0, 1, 0, 0, 0, 0, 0, []),
  (521, .ireturn, 1, 1, 0, 0, 0, 0, []),
  (522, .iload 5, 2, 5, 0, 0, 0, 0, []),
  (524, .ifCond .ne 15, 3, 258, 0, 0, 0, 0, []),
  (527, .aload_n 3, 1, 3, 0, 0, 0, 0, []),
  (528, .iconst 0, 1, 0, 0, 0, 0, 0, []),
  (529, .laload, 1, 0, 0, 0, 0, 0, []),
  (530, .iload 6, 2, 6, 0, 0, 0, 0, []),
  (532, .i2l, 1, 0, 0, 0, 0, 0, []),
  (533, .lcmp, 1, 0, 0, 0, 0, 0, []),
  (534, .ifCond .eq 5, 3, 258, 0, 0, 0, 0, []),
  (537, .iconst 0, 1, 0, 0, 0, 0, 0, []),
  (538, .ireturn, 1, 1, 0, 0, 0, 0, []),
  (539, .goto 1113, 3, 970, 0, 0, 0, 0, []),
  (542, .aload_n 1, 1, 1, 0, 0, 0, 0, []),
  (543, .aload_n 0, 1, 0, 0, 0, 0, 0, []),
  (544, .iload 4, 2, 4, 0, 0, 0, 0, []),
  (546, .iconst 1, 1, 0, 0, 0, 1, 0, []),
  (547, .iadd, 1, 0, 0, 0, 0, 0, []),
  (548, .iaload, 1, 0, 0, 0, 0, 0, []),
  (549, .aload_n 0, 1, 0, 0, 0, 0, 0, []),
  (550, .iload 4, 2, 4, 0, 0, 0, 0, []),
  (552, .iconst 2, 1, 0, 0, 0, 2, 0, []),
  (553, .iadd, 1, 0, 0, 0, 0, 0, []),
  (554, .iaload, 1, 0, 0, 0, 0, 0, []),
  (555, .aload_n 3, 1, 3, 0, 0, 0, 0, []),
  (556, .invokestatic 122, 3, 191, 4, 1, 0, 0, []),
  (559, .istore 5, 2, 5, 0, 0, 0, 0, []),
  (561, .aload_n 2, 1, 2, 0, 0, 0, 0, []),
  (562, .aload_n 0, 1, 0, 0, 0, 0, 0, []),
  (563, .iload 4, 2, 4, 0, 0, 0, 0, []),
  (565, .iconst 1, 1, 0, 0, 0, 1, 0, []),
  (566, .iadd, 1, 0, 0, 0, 0, 0, []),
  (567, .iaload, 1, 0, 0, 0, 0, 0, []),
  (568, .aload_n 0, 1, 0, 0, 0, 0, 0, []),
  (569, .iload 4, 2, 4, 0, 0, 0, 0, []),
  (571, .iconst 2, 1, 0, 0, 0, 2, 0, []),
  (572, .iadd, 1, 0, 0, 0, 0, 0, []),
  (573, .iaload, 1, 0, 0, 0, 0, 0, []),
  (574, .invokevirtual 124, 3, 70, 2, 1, 0, 0, [8]),
  (577, .istore 6, 2, 6, 0, 0, 0, 0, []),
  (579, .aload_n 2, 1, 2, 0, 0, 0, 0, []),
  (580, .invokevirtual 94, 3, 39, 0, 1, 0, 0, [8]),
  (583, .iload 5, 2, 5, 0, 0, 0, 0, []),
  (585, .if_icmp .eq 5, 3, 292, 0, 0, 0, 0, []),
  (588, .iconst 0, 1, 0, 0, 0, 0, 0, []),
  (589, .ireturn, 1, 1, 0, 0, 0, 0, []),
  (590, .iload 5, 2, 5, 0, 0, 0, 0, []),
  (592, .ifCond .ne 15, 3, 303, 0, 0, 0, 0, []),
  (595, .aload_n 3, 1, 3, 0, 0, 0, 0, []),
  (596, .iconst 0, 1, 0, 0, 0, 0, 0, []),
  (597, .laload, 1, 0, 0, 0, 0, 0, []),
  (598, .iload 6, 2, 6, 0, 0, 0, 0, []),
  (600, .i2l, 1, 0, 0, 0, 0, 0, []),
  (601, .lcmp, 1, 0, 0, 0, 0, 0, [])]
def zp_206_4 : List (List Nat) := [[], [], [1028, 1029, 1030, 70, 1031], [], [], [], [], [], [], [], [], [], [], [], [], [], [], [], [], [], [], [], [], [], [], [], [], [], [], [], [], [704, 705, 61, 706], [], [], [], [], [], [], [], [], [], [], [], [], [1138, 1139, 1140, 70, 1141], [], [], [1028, 1029, 1030, 70, 1031], [], [], [], [], [], [], [], [], [], [], [], []]
def zd_206_5 : List zm_E := [(602, .ifCond .eq 5, 3, 303, 0, 0, 0, 0, []),
  (605, .iconst 0, 1, 0, 0, 0, 0, 0, []),
  (606, .ireturn, 1, 1, 0, 0, 0, 0, []),
  (607, .goto 1045, 3, 970, 0, 0, 0, 0, []),
  (610, .aload_n 1, 1, 1, 0, 0, 0, 0, []),
  (611, .aload_n 0, 1, 0, 0, 0, 0, 0, []),
  (612, .iload 4, 2, 4, 0, 0, 0, 0, []),
  (614, .iconst 1, 1, 0, 0, 0, 1, 0, []),
  (615, .iadd, 1, 0, 0, 0, 0, 0, []),
  (616, .iaload, 1, 0, 0, 0, 0, 0, []),
  (617, .aload_n 0, 1, 0, 0, 0, 0, 0, []),
  (618, .iload 4, 2, 4, 0, 0, 0, 0, []),
  (620, .iconst 2, 1, 0, 0, 0, 2, 0, []),
  (621, .iadd, 1, 0, 0, 0, 0, 0, []),
  (622, .iaload, 1, 0, 0, 0, 0, 0, []),
  (623, .aload_n 3, 1, 3, 0, 0, 0, 0, []),
  (624, .invokestatic 125, 3, 192, 4, 1, 0, 0, []),
  (627, .istore 5, 2, 5, 0, 0, 0, 0, []),
  (629, .aload_n 2, 1, 2, 0, 0, 0, 0, []),
  (630, .aload_n 0, 1, 0, 0, 0, 0, 0, []),
  (631, .iload 4, 2, 4, 0, 0, 0, 0, []),
  (633, .iconst 1, 1, 0, 0, 0, 1, 0, []),
  (634, .iadd, 1, 0, 0, 0, 0, 0, []),
  (635, .iaload, 1, 0, 0, 0, 0, 0, []),
  (636, .aload_n 0, 1, 0, 0, 0, 0, 0, []),
  (637, .iload 4, 2, 4, 0, 0, 0, 0, []),
  (639, .iconst 2, 1, 0, 0, 0, 2, 0, []),
  (640, .iadd, 1, 0, 0, 0, 0, 0, []),
  (641, .iaload, 1, 0, 0, 0, 0, 0, []),
  (642, .invokevirtual 127, 3, 72, 2, 1, 0, 0, [8]),
  (645, .istore 6, 2, 6, 0, 0, 0, 0, []),
  (647, .aload_n 2, 1, 2, 0, 0, 0, 0, []),
  (648, .invokevirtual 94, 3, 39, 0, 1, 0, 0, [8]),
  (651, .iload 5, 2, 5, 0, 0, 0, 0, []),
  (653, .if_icmp .eq 5, 3, 337, 0, 0, 0, 0, []),
  (656, .iconst 0, 1, 0, 0, 0, 0, 0, []),
  (657, .ireturn, 1, 1, 0, 0, 0, 0, []),
  (658, .iload 5, 2, 5, 0, 0, 0, 0, []),
  (660, .ifCond .ne 15, 3, 348, 0, 0, 0, 0, []),
  (663, .aload_n 3, 1, 3, 0, 0, 0, 0, []),
  (664, .iconst 0, 1, 0, 0, 0, 0, 0, []),
  (665, .laload, 1, 0, 0, 0, 0, 0, []),
  (666, .iload 6, 2, 6, 0, 0, 0, 0, []),
  (668, .i2l, 1, 0, 0, 0, 0, 0, []),
  (669, .lcmp, 1, 0, 0, 0, 0, 0, []),
  (670, .ifCond .eq 5, 3, 348, 0, 0, 0, 0, []),
  (673, .iconst 0, 1, 0, 0, 0, 0, 0, []),
  (674, .ireturn, 1, 1, 0, 0, 0, 0, []),
  (675, .goto 977, 3, 970, 0, 0, 0, 0, []),
  (678, .aload_n 1, 1, 1, 0, 0, 0, 0, []),
  (679, .aload_n 3, 1, 3, 0, 0, 0, 0, []),
  (680, .invokestatic 128, 3, 193, 2, 1, 0, 0, []),
  (683, .istore 5, 2, 5, 0, 0, 0, 0, []),
  (685, .aload_n 2, 1, 2, 0, 0, 0, 0, []),
  (686, .invokevirtual 130, 3, 73, 0, 1, 0, 0, [8]),
  (689, .istore 6, 2, 6, 0, 0, 0, 0, []),
  (691, .aload_n 2, 1, 2, 0, 0, 0, 0, []),
  (692, .invokevirtual 94, 3, 39, 0, 1, 0, 0, [8]),
  (695, .iload 5, 2, 5, 0, 0, 0, 0, []),
  (697, .if_icmp .eq 5, 3, 362, 0, 0, 0, 0, [])]
def zp_206_5 : List (List Nat) := [[], [], [], [], [], [], [], [], [], [], [], [], [], [], [], [], [726, 727, 61, 728], [], [], [], [], [], [], [], [], [], [], [], [], [1143, 1144, 1145, 70, 1146], [], [], [1028, 1029, 1030, 70, 1031], [], [], [], [], [], [], [], [], [], [], [], [], [], [], [], [], [], [], [737, 738, 61, 739], [], [], [1151, 1152, 1153, 70, 1154], [], [], [1028, 1029, 1030, 70, 1031], [], []]
def zd_206_6 : List zm_E := [(700, .iconst 0, 1, 0, 0, 0, 0, 0, []),
  (701, .ireturn, 1, 1, 0, 0, 0, 0, []),
  (702, .iload 5, 2, 5, 0, 0, 0, 0, []),
  (704, .ifCond .ne 15, 3, 373, 0, 0, 0, 0, []),
  (707, .aload_n 3, 1, 3, 0, 0, 0, 0, []),
  (708, .iconst 0, 1, 0, 0, 0, 0, 0, []),
  (709, .laload, 1, 0, 0, 0, 0, 0, []),
  (710, .iload 6, 2, 6, 0, 0, 0, 0, []),
  (712, .i2l, 1, 0, 0, 0, 0, 0, []),
  (713, .lcmp, 1, 0, 0, 0, 0, 0, []),
  (714, .ifCond .eq 5, 3, 373, 0, 0, 0, 0, []),
  (717, .iconst 0, 1, 0, 0, 0, 0, 0, []),
  (718, .ireturn, 1, 1, 0, 0, 0, 0, []),
  (719, .goto 933, 3, 970, 0, 0, 0, 0, []),
  (722, .aload_n 1, 1, 1, 0, 0, 0, 0, []),
  (723, .aload_n 0, 1, 0, 0, 0, 0, 0, []),
  (724, .iload 4, 2, 4, 0, 0, 0, 0, []),
  (726, .iconst 1, 1, 0, 0, 0, 1, 0, []),
  (727, .iadd, 1, 0, 0, 0, 0, 0, []),
  (728, .iaload, 1, 0, 0, 0, 0, 0, []),
  (729, .aload_n 0, 1, 0, 0, 0, 0, 0, []),
  (730, .iload 4, 2, 4, 0, 0, 0, 0, []),
  (732, .iconst 2, 1, 0, 0, 0, 2, 0, []),
  (733, .iadd, 1, 0, 0, 0, 0, 0, []),
  (734, .iaload, 1, 0, 0, 0, 0, 0, []),
  (735, .aload_n 0, 1, 0, 0, 0, 0, 0, []),
  (736, .iload 4, 2, 4, 0, 0, 0, 0, []),
  (738, .iconst 3, 1, 0, 0, 0, 3, 0, []),
  (739, .iadd, 1, 0, 0, 0, 0, 0, []),
  (740, .iaload, 1, 0, 0, 0, 0, 0, []),
  (741, .aload_n 3, 1, 3, 0, 0, 0, 0, []),
  (742, .invokestatic 131, 3, 194, 5, 1, 0, 0, []),
  (745, .istore 5, 2, 5, 0, 0, 0, 0, []),
  (747, .aload_n 2, 1, 2, 0, 0, 0, 0, []),
  (748, .aload_n 0, 1, 0, 0, 0, 0, 0, []),
  (749, .iload 4, 2, 4, 0, 0, 0, 0, []),
  (751, .iconst 1, 1, 0, 0, 0, 1, 0, []),
  (752, .iadd, 1, 0, 0, 0, 0, 0, []),
  (753, .iaload, 1, 0, 0, 0, 0, 0, []),
  (754, .aload_n 0, 1, 0, 0, 0, 0, 0, []),
  (755, .iload 4, 2, 4, 0, 0, 0, 0, []),
  (757, .iconst 2, 1, 0, 0, 0, 2, 0, []),
  (758, .iadd, 1, 0, 0, 0, 0, 0, []),
  (759, .iaload, 1, 0, 0, 0, 0, 0, []),
  (760, .aload_n 0, 1, 0, 0, 0, 0, 0, []),
  (761, .iload 4, 2, 4, 0, 0, 0, 0, []),
  (763, .iconst 3, 1, 0, 0, 0, 3, 0, []),
  (764, .iadd, 1, 0, 0, 0, 0, 0, []),
  (765, .iaload, 1, 0, 0, 0, 0, 0, []),
  (766, .invokevirtual 134, 3, 75, 3, 1, 0, 0, [8]),
  (769, .istore 6, 2, 6, 0, 0, 0, 0, []),
  (771, .aload_n 2, 1, 2, 0, 0, 0, 0, []),
  (772, .invokevirtual 94, 3, 39, 0, 1, 0, 0, [8]),
  (775, .iload 5, 2, 5, 0, 0, 0, 0, []),
  (777, .if_icmp .eq 5, 3, 417, 0, 0, 0, 0, []),
  (780, .iconst 0, 1, 0, 0, 0, 0, 0, []),
  (781, .ireturn, 1, 1, 0, 0, 0, 0, []),
  (782, .iload 5, 2, 5, 0, 0, 0, 0, []),
  (784, .ifCond .ne 15, 3, 428, 0, 0, 0, 0, []),
  (787, .aload_n 3, 1, 3, 0, 0, 0, 0, [])]
def zp_206_6 : List (List Nat) := [[], [], [], [], [], [], [], [], [], [], [], [], [], [], [], [], [], [], [], [], [], [], [], [], [], [], [], [], [], [], [], [750, 751, 61, 752], [], [], [], [], [], [], [], [], [], [], [], [], [], [], [], [], [], [1159, 1160, 1161, 70, 1162], [], [], [1028, 1029, 1030, 70, 1031], [], [], [], [], [], [], []]
def zd_206_7 : List zm_E := [(788, .iconst 0, 1, 0, 0, 0, 0, 0, []),
  (789, .laload, 1, 0, 0, 0, 0, 0, []),
  (790, .iload 6, 2, 6, 0, 0, 0, 0, []),
  (792, .i2l, 1, 0, 0, 0, 0, 0, []),
  (793, .lcmp, 1, 0, 0, 0, 0, 0, []),
  (794, .ifCond .eq 5, 3, 428, 0, 0, 0, 0, []),
  (797, .iconst 0, 1, 0, 0, 0, 0, 0, []),
  (798, .ireturn, 1, 1, 0, 0, 0, 0, []),
  (799, .goto 853, 3, 970, 0, 0, 0, 0, []),
  (802, .aload_n 1, 1, 1, 0, 0, 0, 0, []),
  (803, .aload_n 0, 1, 0, 0, 0, 0, 0, []),
  (804, .iload 4, 2, 4, 0, 0, 0, 0, []),
  (806, .iconst 1, 1, 0, 0, 0, 1, 0, []),
  (807, .iadd, 1, 0, 0, 0, 0, 0, []),
  (808, .iaload, 1, 0, 0, 0, 0, 0, []),
  (809, .aload_n 0, 1, 0, 0, 0, 0, 0, []),
  (810, .iload 4, 2, 4, 0, 0, 0, 0, []),
  (812, .iconst 2, 1, 0, 0, 0, 2, 0, []),
  (813, .iadd, 1, 0, 0, 0, 0, 0, []),
  (814, .iaload, 1, 0, 0, 0, 0, 0, []),
  (815, .aload_n 3, 1, 3, 0, 0, 0, 0, []),
  (816, .invokestatic 135, 3, 195, 4, 1, 0, 0, []),
  (819, .istore 5, 2, 5, 0, 0, 0, 0, []),
  (821, .aload_n 2, 1, 2, 0, 0, 0, 0, []),
  (822, .aload_n 0, 1, 0, 0, 0, 0, 0, []),
  (823, .iload 4, 2, 4, 0, 0, 0, 0, []),
  (825, .iconst 1, 1, 0, 0, 0, 1, 0, []),
  (826, .iadd, 1, 0, 0, 0, 0, 0, []),
  (827, .iaload, 1, 0, 0, 0, 0, 0, []),
  (828, .aload_n 0, 1, 0, 0, 0, 0, 0, []),
  (829, .iload 4, 2, 4, 0, 0, 0, 0, []),
  (831, .iconst 2, 1, 0, 0, 0, 2, 0, []),
  (832, .iadd, 1, 0, 0, 0, 0, 0, []),
  (833, .iaload, 1, 0, 0, 0, 0, 0, []),
  (834, .invokevirtual 137, 3, 77, 2, 1, 0, 0, [8]),
  (837, .istore 6, 2, 6, 0, 0, 0, 0, []),
  (839, .aload_n 2, 1, 2, 0, 0, 0, 0, []),
  (840, .invokevirtual 94, 3, 39, 0, 1, 0, 0, [8]),
  (843, .iload 5, 2, 5, 0, 0, 0, 0, []),
  (845, .if_icmp .eq 5, 3, 462, 0, 0, 0, 0, []),
  (848, .iconst 0, 1, 0, 0, 0, 0, 0, []),
  (849, .ireturn, 1, 1, 0, 0, 0, 0, []),
  (850, .iload 5, 2, 5, 0, 0, 0, 0, []),
  (852, .ifCond .ne 15, 3, 473, 0, 0, 0, 0, []),
  (855, .aload_n 3, 1, 3, 0, 0, 0, 0, []),
  (856, .iconst 0, 1, 0, 0, 0, 0, 0, []),
  (857, .laload, 1, 0, 0, 0, 0, 0, []),
  (858, .iload 6, 2, 6, 0, 0, 0, 0, []),
  (860, .i2l, 1, 0, 0, 0, 0, 0, []),
  (861, .lcmp, 1, 0, 0, 0, 0, 0, []),
  (862, .ifCond .eq 5, 3, 473, 0, 0, 0, 0, []),
  (865, .iconst 0, 1, 0, 0, 0, 0, 0, []),
  (866, .ireturn, 1, 1, 0, 0, 0, 0, []),
  (867, .goto 785, 3, 970, 0, 0, 0, 0, []),
  (870, .aload_n 1, 1, 1, 0, 0, 0, 0, []),
  (871, .aload_n 0, 1, 0, 0, 0, 0, 0, []),
  (872, .iload 4, 2, 4, 0, 0, 0, 0, []),
  (874, .iconst 1, 1, 0, 0, 0, 1, 0, []),
  (875, .iadd, 1, 0, 0, 0, 0, 0, []),
  (876, .iaload, 1, 0, 0, 0, 0, 0, [])]
def zp_206_7 : List (List Nat) := [[], [], [], [], [], [], [], [], [], [], [], [], [], [], [], [], [], [], [], [], [], [759, 760, 61, 761], [], [], [], [], [], [], [], [], [], [], [], [], [1168, 1169, 1170, 70, 1171], [], [], [1028, 1029, 1030, 70, 1031], [], [], [], [], [], [], [], [], [], [], [], [], [], [], [], [], [], [], [], [], [], []]
def zd_206_8 : List zm_E := [(877, .aload_n 3, 1, 3, 0, 0, 0, 0, []),
  (878, .invokestatic 138, 3, 196, 3, 1, 0, 0, []),
  (881, .istore 5, 2, 5, 0, 0, 0, 0, []),
  (883, .aload_n 2, 1, 2, 0, 0, 0, 0, []),
  (884, .aload_n 0, 1, 0, 0, 0, 0, 0, []),
  (885, .iload 4, 2, 4, 0, 0, 0, 0, []),
  (887, .iconst 1, 1, 0, 0, 0, 1, 0, []),
  (888, .iadd, 1, 0, 0, 0, 0, 0, []),
  (889, .iaload, 1, 0, 0, 0, 0, 0, []),
  (890, .invokevirtual 140, 3, 79, 1, 1, 0, 0, [8]),
  (893, .istore 6, 2, 6, 0, 0, 0, 0, []),
  (895, .aload_n 2, 1, 2, 0, 0, 0, 0, []),
  (896, .invokevirtual 94, 3, 39, 0, 1, 0, 0, [8]),
  (899, .iload 5, 2, 5, 0, 0, 0, 0, []),
  (901, .if_icmp .eq 5, 3, 497, 0, 0, 0, 0, []),
  (904, .iconst 0, 1, 0, 0, 0, 0, 0, []),
  (905, .ireturn, 1, 1, 0, 0, 0, 0, []),
  (906, .iload 5, 2, 5, 0, 0, 0, 0, []),
  (908, .ifCond .ne 15, 3, 508, 0, 0, 0, 0, []),
  (911, .aload_n 3, 1, 3, 0, 0, 0, 0, []),
  (912, .iconst 0, 1, 0, 0, 0, 0, 0, []),
  (913, .laload, 1, 0, 0, 0, 0, 0, []),
  (914, .iload 6, 2, 6, 0, 0, 0, 0, []),
  (916, .i2l, 1, 0, 0, 0, 0, 0, []),
  (917, .lcmp, 1, 0, 0, 0, 0, 0, []),
  (918, .ifCond .eq 5, 3, 508, 0, 0, 0, 0, []),
  (921, .iconst 0, 1, 0, 0, 0, 0, 0, []),
  (922, .ireturn, 1, 1, 0, 0, 0, 0, []),
  (923, .goto 729, 3, 970, 0, 0, 0, 0, []),
  (926, .aload_n 1, 1, 1, 0, 0, 0, 0, []),
  (927, .invokevirtual 141, 3, 15, 0, 1, 0, 0, [7]),
  (930, .aload_n 2, 1, 2, 0, 0, 0, 0, []),
  (931, .invokevirtual 144, 3, 81, 0, 1, 0, 0, [8]),
  (934, .if_icmp .eq 718, 3, 970, 0, 0, 0, 0, []),
  (937, .iconst 0, 1, 0, 0, 0, 0, 0, []),
  (938, .ireturn, 1, 1, 0, 0, 0, 0, []),
  (939, .aload_n 1, 1, 1, 0, 0, 0, 0, []),
  (940, .aload_n 0, 1, 0, 0, 0, 0, 0, []),
  (941, .iload 4, 2, 4, 0, 0, 0, 0, []),
  (943, .iconst 1, 1, 0, 0, 0, 1, 0, []),
  (944, .iadd, 1, 0, 0, 0, 0, 0, []),
  (945, .iaload, 1, 0, 0, 0, 0, 0, []),
  (946, .aload_n 3, 1, 3, 0, 0, 0, 0, []),
  (947, .invokestatic 145, 3, 197, 3, 1, 0, 0, []),
  (950, .istore 5, 2, 5, 0, 0, 0, 0, []),
  (952, .aload_n 2, 1, 2, 0, 0, 0, 0, []),
  (953, .aload_n 0, 1, 0, 0, 0, 0, 0, []),
  (954, .iload 4, 2, 4, 0, 0, 0, 0, []),
  (956, .iconst 1, 1, 0, 0, 0, 1, 0, []),
  (957, .iadd, 1, 0, 0, 0, 0, 0, []),
  (958, .iaload, 1, 0, 0, 0, 0, 0, []),
  (959, .invokevirtual 147, 3, 82, 1, 1, 0, 0, [8]),
  (962, .istore 6, 2, 6, 0, 0, 0, 0, []),
  (964, .aload_n 2, 1, 2, 0, 0, 0, 0, []),
  (965, .invokevirtual 94, 3, 39, 0, 1, 0, 0, [8]),
  (968, .iload 5, 2, 5, 0, 0, 0, 0, []),
  (970, .if_icmp .eq 5, 3, 539, 0, 0, 0, 0, []),
  (973, .iconst 0, 1, 0, 0, 0, 0, 0, []),
  (974, .ireturn, 1, 1, 0, 0, 0, 0, []),
  (975, .iload 5, 2, 5, 0, 0, 0, 0, [])]
def zp_206_8 : List (List Nat) := [[], [771, 772, 61, 773], [], [], [], [], [], [], [], [1176, 1177, 1178, 70, 1179], [], [], [1028, 1029, 1030, 70, 1031], [], [], [], [], [], [], [], [], [], [], [], [], [], [], [], [], [], [338, 339, 340, 62, 341], [], [1184, 1185, 1186, 70, 1187], [], [], [], [], [], [], [], [], [], [], [778, 779, 61, 780], [], [], [], [], [], [], [], [1192, 1193, 1194, 70, 1195], [], [], [1028, 1029, 1030, 70, 1031], [], [], [], [], []]
def zd_206_9 : List zm_E := [(977, .ifCond .ne 15, 3, 550, 0, 0, 0, 0, []),
  (980, .aload_n 3, 1, 3, 0, 0, 0, 0, []),
  (981, .iconst 0, 1, 0, 0, 0, 0, 0, []),
  (982, .laload, 1, 0, 0, 0, 0, 0, []),
  (983, .iload 6, 2, 6, 0, 0, 0, 0, []),
  (985, .i2l, 1, 0, 0, 0, 0, 0, []),
  (986, .lcmp, 1, 0, 0, 0, 0, 0, []),
  (987, .ifCond .eq 5, 3, 550, 0, 0, 0, 0, []),
  (990, .iconst 0, 1, 0, 0, 0, 0, 0, []),
  (991, .ireturn, 1, 1, 0, 0, 0, 0, []),
  (992, .goto 660, 3, 970, 0, 0, 0, 0, []),
  (995, .aload_n 1, 1, 1, 0, 0, 0, 0, []),
  (996, .invokevirtual 148, 3, 17, 0, 1, 0, 0, [7]),
  (999, .aload_n 2, 1, 2, 0, 0, 0, 0, []),
  (1000, .invokevirtual 151, 3, 84, 0, 1, 0, 0, [8]),
  (1003, .if_icmp .eq 649, 3, 970, 0, 0, 0, 0, []),
  (1006, .iconst 0, 1, 0, 0, 0, 0, 0, []),
  (1007, .ireturn, 1, 1, 0, 0, 0, 0, []),
  (1008, .aload_n 1, 1, 1, 0, 0, 0, 0, []),
  (1009, .aload_n 3, 1, 3, 0, 0, 0, 0, []),
  (1010, .invokestatic 152, 3, 198, 2, 1, 0, 0, []),
  (1013, .istore 5, 2, 5, 0, 0, 0, 0, []),
  (1015, .aload_n 2, 1, 2, 0, 0, 0, 0, []),
  (1016, .invokevirtual 154, 3, 85, 0, 1, 0, 0, [8]),
  (1019, .istore 6, 2, 6, 0, 0, 0, 0, []),
  (1021, .aload_n 2, 1, 2, 0, 0, 0, 0, []),
  (1022, .invokevirtual 94, 3, 39, 0, 1, 0, 0, [8]),
  (1025, .iload 5, 2, 5, 0, 0, 0, 0, []),
  (1027, .if_icmp .eq 5, 3, 571, 0, 0, 0, 0, []),
  (1030, .iconst 0, 1, 0, 0, 0, 0, 0, []),
  (1031, .ireturn, 1, 1, 0, 0, 0, 0, []),
  (1032, .iload 5, 2, 5, 0, 0, 0, 0, []),
  (1034, .ifCond .ne 15, 3, 582, 0, 0, 0, 0, []),
  (1037, .aload_n 3, 1, 3, 0, 0, 0, 0, []),
  (1038, .iconst 0, 1, 0, 0, 0, 0, 0, []),
  (1039, .laload, 1, 0, 0, 0, 0, 0, []),
  (1040, .iload 6, 2, 6, 0, 0, 0, 0, []),
  (1042, .i2l, 1, 0, 0, 0, 0, 0, []),
  (1043, .lcmp, 1, 0, 0, 0, 0, 0, []),
  (1044, .ifCond .eq 5, 3, 582, 0, 0, 0, 0, []),
  (1047, .iconst 0, 1, 0, 0, 0, 0, 0, []),
  (1048, .ireturn, 1, 1, 0, 0, 0, 0, []),
  (1049, .goto 603, 3, 970, 0, 0, 0, 0, []),
  (1052, .aload_n 1, 1, 1, 0, 0, 0, 0, []),
  (1053, .aload_n 0, 1, 0, 0, 0, 0, 0, []),
  (1054, .iload 4, 2, 4, 0, 0, 0, 0, []),
  (1056, .iconst 1, 1, 0, 0, 0, 1, 0, []),
  (1057, .iadd, 1, 0, 0, 0, 0, 0, []),
  (1058, .iaload, 1, 0, 0, 0, 0, 0, []),
  (1059, .ifCond .eq 7, 3, 592, 0, 0, 0, 0, []),
  (1062, .iconst 1, 1, 0, 0, 0, 1, 0, []),
  (1063, .goto 4, 3, 593, 0, 0, 0, 0, []),
  (1066, .iconst 0, 1, 0, 0, 0, 0, 0, []),
  (1067, .invokevirtual 155, 3, 19, 1, 1, 0, 0, [7]),
  (1070, .aload_n 2, 1, 2, 0, 0, 0, 0, []),
  (1071, .aload_n 0, 1, 0, 0, 0, 0, 0, []),
  (1072, .iload 4, 2, 4, 0, 0, 0, 0, []),
  (1074, .iconst 1, 1, 0, 0, 0, 1, 0, []),
  (1075, .iadd, 1, 0, 0, 0, 0, 0, []),
  (1076, .iaload, 1, 0, 0, 0, 0, 0, [])]
def zp_206_9 : List (List Nat) := [[], [], [], [], [], [], [], [], [], [], [], [], [406, 407, 408, 62, 409], [], [1196, 1197, 1198, 70, 1199], [], [], [], [], [], [787, 788, 61, 789], [], [], [1204, 1205, 1206, 70, 1207], [], [], [1028, 1029, 1030, 70, 1031], [], [], [], [], [], [], [], [], [], [], [], [], [], [], [], [], [], [], [], [], [], [], [], [], [], [], [411, 412, 413, 62, 414], [], [], [], [], [], []]
def zd_206_10 : List zm_E := [(1077, .ifCond .eq 7, 3, 603, 0, 0, 0, 0, []),
  (1080, .iconst 1, 1, 0, 0, 0, 1, 0, []),
  (1081, .goto 4, 3, 604, 0, 0, 0, 0, []),
  (1084, .iconst 0, 1, 0, 0, 0, 0, 0, []),
  (1085, .invokevirtual 159, 3, 89, 1, 1, 0, 0, [8]),
  (1088, .if_icmp .eq 564, 3, 970, 0, 0, 0, 0, []),
  (1091, .iconst 0, 1, 0, 0, 0, 0, 0, []),
  (1092, .ireturn, 1, 1, 0, 0, 0, 0, []),
  (1093, .aload_n 1, 1, 1, 0, 0, 0, 0, []),
  (1094, .aload_n 0, 1, 0, 0, 0, 0, 0, []),
  (1095, .iload 4, 2, 4, 0, 0, 0, 0, []),
  (1097, .iconst 1, 1, 0, 0, 0, 1, 0, []),
  (1098, .iadd, 1, 0, 0, 0, 0, 0, []),
  (1099, .iaload, 1, 0, 0, 0, 0, 0, []),
  (1100, .ifCond .eq 7, 3, 617, 0, 0, 0, 0, []),
  (1103, .iconst 1, 1, 0, 0, 0, 1, 0, []),
  (1104, .goto 4, 3, 618, 0, 0, 0, 0, []),
  (1107, .iconst 0, 1, 0, 0, 0, 0, 0, []),
  (1108, .invokevirtual 160, 3, 20, 1, 1, 0, 0, [7]),
  (1111, .aload_n 2, 1, 2, 0, 0, 0, 0, []),
  (1112, .aload_n 0, 1, 0, 0, 0, 0, 0, []),
  (1113, .iload 4, 2, 4, 0, 0, 0, 0, []),
  (1115, .iconst 1, 1, 0, 0, 0, 1, 0, []),
  (1116, .iadd, 1, 0, 0, 0, 0, 0, []),
  (1117, .iaload, 1, 0, 0, 0, 0, 0, []),
  (1118, .ifCond .eq 7, 3, 628, 0, 0, 0, 0, []),
  (1121, .iconst 1, 1, 0, 0, 0, 1, 0, []),
  (1122, .goto 4, 3, 629, 0, 0, 0, 0, []),
  (1125, .iconst 0, 1, 0, 0, 0, 0, 0, []),
  (1126, .invokevirtual 163, 3, 91, 1, 1, 0, 0, [8]),
  (1129, .if_icmp .eq 523, 3, 970, 0, 0, 0, 0, []),
  (1132, .iconst 0, 1, 0, 0, 0, 0, 0, []),
  (1133, .ireturn, 1, 1, 0, 0, 0, 0, []),
  (1134, .aload_n 1, 1, 1, 0, 0, 0, 0, []),
  (1135, .invokevirtual 164, 3, 21, 0, 1, 0, 0, [7]),
  (1138, .aload_n 2, 1, 2, 0, 0, 0, 0, []),
  (1139, .invokevirtual 167, 3, 95, 0, 1, 0, 0, [8]),
  (1142, .if_icmp .eq 510, 3, 970, 0, 0, 0, 0, []),
  (1145, .iconst 0, 1, 0, 0, 0, 0, 0, []),
  (1146, .ireturn, 1, 1, 0, 0, 0, 0, []),
  (1147, .aload_n 1, 1, 1, 0, 0, 0, 0, []),
  (1148, .aload_n 0, 1, 0, 0, 0, 0, 0, []),
  (1149, .iload 4, 2, 4, 0, 0, 0, 0, []),
  (1151, .iconst 1, 1, 0, 0, 0, 1, 0, []),
  (1152, .iadd, 1, 0, 0, 0, 0, 0, []),
  (1153, .iaload, 1, 0, 0, 0, 0, 0, []),
  (1154, .aload_n 3, 1, 3, 0, 0, 0, 0, []),
  (1155, .invokestatic 168, 3, 199, 3, 1, 0, 0, []),
  (1158, .istore 5, 2, 5, 0, 0, 0, 0, []),
  (1160, .aload_n 2, 1, 2, 0, 0, 0, 0, []),
  (1161, .aload_n 0, 1, 0, 0, 0, 0, 0, []),
  (1162, .iload 4, 2, 4, 0, 0, 0, 0, []),
  (1164, .iconst 1, 1, 0, 0, 0, 1, 0, []),
  (1165, .iadd, 1, 0, 0, 0, 0, 0, []),
  (1166, .iaload, 1, 0, 0, 0, 0, 0, []),
  (1167, .invokevirtual 170, 3, 96, 1, 1, 0, 0, [8]),
  (1170, .istore 6, 2, 6, 0, 0, 0, 0, []),
  (1172, .aload_n 2, 1, 2, 0, 0, 0, 0, []),
  (1173, .invokevirtual 94, 3, 39, 0, 1, 0, 0, [8]),
  (1176, .iload 5, 2, 5, 0, 0, 0, 0, [])]
def zp_206_10 : List (List Nat) := [[], [], [], [], [1208, 1209, 1210, 70, 1211], [], [], [], [], [], [], [], [], [], [], [], [], [], [453, 454, 455, 62, 456], [], [], [], [], [], [], [], [], [], [], [1224, 1225, 1226, 70, 1227], [], [], [], [], [461, 462, 463, 62, 464], [], [1232, 1233, 1234, 70, 1235], [], [], [], [], [], [], [], [], [], [], [799, 800, 61, 801], [], [], [], [], [], [], [], [1244, 1245, 1246, 70, 1247], [], [], [1028, 1029, 1030, 70, 1031], []]
def zd_206_11 : List zm_E := [(1178, .if_icmp .eq 5, 3, 663, 0, 0, 0, 0, []),
  (1181, .iconst 0, 1, 0, 0, 0, 0, 0, []),
  (1182, .ireturn, 1, 1, 0, 0, 0, 0, []),
  (1183, .iload 5, 2, 5, 0, 0, 0, 0, []),
  (1185, .ifCond .ne 15, 3, 674, 0, 0, 0, 0, []),
  (1188, .aload_n 3, 1, 3, 0, 0, 0, 0, []),
  (1189, .iconst 0, 1, 0, 0, 0, 0, 0, []),
  (1190, .laload, 1, 0, 0, 0, 0, 0, []),
  (1191, .iload 6, 2, 6, 0, 0, 0, 0, []),
  (1193, .i2l, 1, 0, 0, 0, 0, 0, []),
  (1194, .lcmp, 1, 0, 0, 0, 0, 0, []),
  (1195, .ifCond .eq 5, 3, 674, 0, 0, 0, 0, []),
  (1198, .iconst 0, 1, 0, 0, 0, 0, 0, []),
  (1199, .ireturn, 1, 1, 0, 0, 0, 0, []),
  (1200, .goto 452, 3, 970, 0, 0, 0, 0, []),
  (1203, .aload_n 1, 1, 1, 0, 0, 0, 0, []),
  (1204, .invokevirtual 171, 3, 23, 0, 1, 0, 0, [7]),
  (1207, .aload_n 2, 1, 2, 0, 0, 0, 0, []),
  (1208, .invokevirtual 174, 3, 97, 0, 1, 0, 0, [8]),
  (1211, .if_icmp .eq 441, 3, 970, 0, 0, 0, 0, []),
  (1214, .iconst 0, 1, 0, 0, 0, 0, 0, []),
  (1215, .ireturn, 1, 1, 0, 0, 0, 0, []),
  (1216, .aload_n 1, 1, 1, 0, 0, 0, 0, []),
  (1217, .aload_n 0, 1, 0, 0, 0, 0, 0, []),
  (1218, .iload 4, 2, 4, 0, 0, 0, 0, []),
  (1220, .iconst 1, 1, 0, 0, 0, 1, 0, []),
  (1221, .iadd, 1, 0, 0, 0, 0, 0, []),
  (1222, .iaload, 1, 0, 0, 0, 0, 0, []),
  (1223, .aload_n 3, 1, 3, 0, 0, 0, 0, []),
  (1224, .invokestatic 175, 3, 200, 3, 1, 0, 0, []),
  (1227, .istore 5, 2, 5, 0, 0, 0, 0, []),
  (1229, .aload_n 2, 1, 2, 0, 0, 0, 0, []),
  (1230, .aload_n 0, 1, 0, 0, 0, 0, 0, []),
  (1231, .iload 4, 2, 4, 0, 0, 0, 0, []),
  (1233, .iconst 1, 1, 0, 0, 0, 1, 0, []),
  (1234, .iadd, 1, 0, 0, 0, 0, 0, []),
  (1235, .iaload, 1, 0, 0, 0, 0, 0, []),
  (1236, .invokevirtual 177, 3, 98, 1, 1, 0, 0, [8]),
  (1239, .istore 6, 2, 6, 0, 0, 0, 0, []),
  (1241, .aload_n 2, 1, 2, 0, 0, 0, 0, []),
  (1242, .invokevirtual 94, 3, 39, 0, 1, 0, 0, [8]),
  (1245, .iload 5, 2, 5, 0, 0, 0, 0, []),
  (1247, .if_icmp .eq 5, 3, 705, 0, 0, 0, 0, []),
  (1250, .iconst 0, 1, 0, 0, 0, 0, 0, []),
  (1251, .ireturn, 1, 1, 0, 0, 0, 0, []),
  (1252, .iload 5, 2, 5, 0, 0, 0, 0, []),
  (1254, .ifCond .ne 15, 3, 716, 0, 0, 0, 0, []),
  (1257, .aload_n 3, 1, 3, 0, 0, 0, 0, []),
  (1258, .iconst 0, 1, 0, 0, 0, 0, 0, []),
  (1259, .laload, 1, 0, 0, 0, 0, 0, []),
  (1260, .iload 6, 2, 6, 0, 0, 0, 0, []),
  (1262, .i2l, 1, 0, 0, 0, 0, 0, []),
  (1263, .lcmp, 1, 0, 0, 0, 0, 0, []),
  (1264, .ifCond .eq 5, 3, 716, 0, 0, 0, 0, []),
  (1267, .iconst 0, 1, 0, 0, 0, 0, 0, []),
  (1268, .ireturn, 1, 1, 0, 0, 0, 0, []),
  (1269, .goto 383, 3, 970, 0, 0, 0, 0, []),
  (1272, .aload_n 1, 1, 1, 0, 0, 0, 0, []),
  (1273, .aload_n 0, 1, 0, 0, 0, 0, 0, []),
  (1274, .iload 4, 2, 4, 0, 0, 0, 0, [])]
def zp_206_11 : List (List Nat) := [[], [], [], [], [], [], [], [], [], [], [], [], [], [], [], [], [483, 484, 485, 62, 486], [], [1248, 1249, 1250, 70, 1251], [], [], [], [], [], [], [], [], [], [], [811, 812, 61, 813], [], [], [], [], [], [], [], [1256, 1257, 1258, 70, 1259], [], [], [1028, 1029, 1030, 70, 1031], [], [], [], [], [], [], [], [], [], [], [], [], [], [], [], [], [], [], []]
def zd_206_12 : List zm_E := [(1276, .iconst 1, 1, 0, 0, 0, 1, 0, []),
  (1277, .iadd, 1, 0, 0, 0, 0, 0, []),
  (1278, .iaload, 1, 0, 0, 0, 0, 0, []),
  (1279, .aload_n 0, 1, 0, 0, 0, 0, 0, []),
  (1280, .iload 4, 2, 4, 0, 0, 0, 0, []),
  (1282, .iconst 2, 1, 0, 0, 0, 2, 0, []),
  (1283, .iadd, 1, 0, 0, 0, 0, 0, []),
  (1284, .iaload, 1, 0, 0, 0, 0, 0, []),
  (1285, .aload_n 3, 1, 3, 0, 0, 0, 0, []),
  (1286, .invokestatic 178, 3, 201, 4, 1, 0, 0, []),
  (1289, .istore 5, 2, 5, 0, 0, 0, 0, []),
  (1291, .aload_n 2, 1, 2, 0, 0, 0, 0, []),
  (1292, .aload_n 0, 1, 0, 0, 0, 0, 0, []),
  (1293, .iload 4, 2, 4, 0, 0, 0, 0, []),
  (1295, .iconst 1, 1, 0, 0, 0, 1, 0, []),
  (1296, .iadd, 1, 0, 0, 0, 0, 0, []),
  (1297, .iaload, 1, 0, 0, 0, 0, 0, []),
  (1298, .aload_n 0, 1, 0, 0, 0, 0, 0, []),
  (1299, .iload 4, 2, 4, 0, 0, 0, 0, []),
  (1301, .iconst 2, 1, 0, 0, 0, 2, 0, []),
  (1302, .iadd, 1, 0, 0, 0, 0, 0, []),
  (1303, .iaload, 1, 0, 0, 0, 0, 0, []),
  (1304, .invokevirtual 180, 3, 103, 2, 1, 0, 0, [8]),
  (1307, .istore 6, 2, 6, 0, 0, 0, 0, []),
  (1309, .aload_n 2, 1, 2, 0, 0, 0, 0, []),
  (1310, .invokevirtual 94, 3, 39, 0, 1, 0, 0, [8]),
  (1313, .iload 5, 2, 5, 0, 0, 0, 0, []),
  (1315, .if_icmp .eq 5, 3, 750, 0, 0, 0, 0, []),
  (1318, .iconst 0, 1, 0, 0, 0, 0, 0, []),
  (1319, .ireturn, 1, 1, 0, 0, 0, 0, []),
  (1320, .iload 5, 2, 5, 0, 0, 0, 0, []),
  (1322, .ifCond .ne 15, 3, 761, 0, 0, 0, 0, []),
  (1325, .aload_n 3, 1, 3, 0, 0, 0, 0, []),
  (1326, .iconst 0, 1, 0, 0, 0, 0, 0, []),
  (1327, .laload, 1, 0, 0, 0, 0, 0, []),
  (1328, .iload 6, 2, 6, 0, 0, 0, 0, []),
  (1330, .i2l, 1, 0, 0, 0, 0, 0, []),
  (1331, .lcmp, 1, 0, 0, 0, 0, 0, []),
  (1332, .ifCond .eq 5, 3, 761, 0, 0, 0, 0, []),
  (1335, .iconst 0, 1, 0, 0, 0, 0, 0, []),
  (1336, .ireturn, 1, 1, 0, 0, 0, 0, []),
  (1337, .goto 315, 3, 970, 0, 0, 0, 0, []),
  (1340, .aload_n 1, 1, 1, 0, 0, 0, 0, []),
  (1341, .aload_n 0, 1, 0, 0, 0, 0, 0, []),
  (1342, .iload 4, 2, 4, 0, 0, 0, 0, []),
  (1344, .iconst 1, 1, 0, 0, 0, 1, 0, []),
  (1345, .iadd, 1, 0, 0, 0, 0, 0, []),
  (1346, .iaload, 1, 0, 0, 0, 0, 0, []),
  (1347, .aload_n 0, 1, 0, 0, 0, 0, 0, []),
  (1348, .iload 4, 2, 4, 0, 0, 0, 0, []),
  (1350, .iconst 2, 1, 0, 0, 0, 2, 0, []),
  (1351, .iadd, 1, 0, 0, 0, 0, 0, []),
  (1352, .iaload, 1, 0, 0, 0, 0, 0, []),
  (1353, .i2l, 1, 0, 0, 0, 0, 0, []),
  (1354, .bipush 32, 2, 0, 0, 0, 32, 0, []),
  (1356, .lshl, 1, 0, 0, 0, 0, 0, []),
  (1357, .aload_n 0, 1, 0, 0, 0, 0, 0, []),
  (1358, .iload 4, 2, 4, 0, 0, 0, 0, []),
  (1360, .iconst 3, 1, 0, 0, 0, 3, 0, []),
  (1361, .iadd, 1, 0, 0, 0, 0, 0, [])]
def zp_206_12 : List (List Nat) := [[], [], [], [], [], [], [], [], [], [820, 821, 61, 822], [], [], [], [], [], [], [], [], [], [], [], [], [1260, 1261, 1262, 70, 1263], [], [], [1028, 1029, 1030, 70, 1031], [], [], [], [], [], [], [], [], [], [], [], [], [], [], [], [], [], [], [], [], [], [], [], [], [], [], [], [], [], [], [], [], [], []]
def zd_206_13 : List zm_E := [(1362, .iaload, 1, 0, 0, 0, 0, 0, []),
  (1363, .i2l, 1, 0, 0, 0, 0, 0, []),
  (1364, .ldc2_w 181, 3, 0, 0, 0, 0, 4294967295, []),
  (1367, .land, 1, 0, 0, 0, 0, 0, []),
  (1368, .lor, 1, 0, 0, 0, 0, 0, []),
  (1369, .aload_n 3, 1, 3, 0, 0, 0, 0, []),
  (1370, .invokestatic 183, 3, 202, 4, 1, 0, 0, []),
  (1373, .istore 5, 2, 5, 0, 0, 0, 0, []),
  (1375, .aload_n 2, 1, 2, 0, 0, 0, 0, []),
  (1376, .aload_n 0, 1, 0, 0, 0, 0, 0, []),
  (1377, .iload 4, 2, 4, 0, 0, 0, 0, []),
  (1379, .iconst 1, 1, 0, 0, 0, 1, 0, []),
  (1380, .iadd, 1, 0, 0, 0, 0, 0, []),
  (1381, .iaload, 1, 0, 0, 0, 0, 0, []),
  (1382, .aload_n 0, 1, 0, 0, 0, 0, 0, []),
  (1383, .iload 4, 2, 4, 0, 0, 0, 0, []),
  (1385, .iconst 2, 1, 0, 0, 0, 2, 0, []),
  (1386, .iadd, 1, 0, 0, 0, 0, 0, []),
  (1387, .iaload, 1, 0, 0, 0, 0, 0, []),
  (1388, .i2l, 1, 0, 0, 0, 0, 0, []),
  (1389, .bipush 32, 2, 0, 0, 0, 32, 0, []),
  (1391, .lshl, 1, 0, 0, 0, 0, 0, []),
  (1392, .aload_n 0, 1, 0, 0, 0, 0, 0, []),
  (1393, .iload 4, 2, 4, 0, 0, 0, 0, []),
  (1395, .iconst 3, 1, 0, 0, 0, 3, 0, []),
  (1396, .iadd, 1, 0, 0, 0, 0, 0, []),
  (1397, .iaload, 1, 0, 0, 0, 0, 0, []),
  (1398, .i2l, 1, 0, 0, 0, 0, 0, []),
  (1399, .ldc2_w 181, 3, 0, 0, 0, 0, 4294967295, []),
  (1402, .land, 1, 0, 0, 0, 0, 0, []),
  (1403, .lor, 1, 0, 0, 0, 0, 0, []),
  (1404, .invokevirtual 186, 3, 106, 2, 1, 0, 0, [8]),
  (1407, .istore 6, 2, 6, 0, 0, 0, 0, []),
  (1409, .aload_n 2, 1, 2, 0, 0, 0, 0, []),
  (1410, .invokevirtual 94, 3, 39, 0, 1, 0, 0, [8]),
  (1413, .iload 5, 2, 5, 0, 0, 0, 0, []),
  (1415, .if_icmp .eq 5, 3, 819, 0, 0, 0, 0, []),
  (1418, .iconst 0, 1, 0, 0, 0, 0, 0, []),
  (1419, .ireturn, 1, 1, 0, 0, 0, 0, []),
  (1420, .iload 5, 2, 5, 0, 0, 0, 0, []),
  (1422, .ifCond .ne 15, 3, 830, 0, 0, 0, 0, []),
  (1425, .aload_n 3, 1, 3, 0, 0, 0, 0, []),
  (1426, .iconst 0, 1, 0, 0, 0, 0, 0, []),
  (1427, .laload, 1, 0, 0, 0, 0, 0, []),
  (1428, .iload 6, 2, 6, 0, 0, 0, 0, []),
  (1430, .i2l, 1, 0, 0, 0, 0, 0, []),
  (1431, .lcmp, 1, 0, 0, 0, 0, 0, []),
  (1432, .ifCond .eq 5, 3, 830, 0, 0, 0, 0, []),
  (1435, .iconst 0, 1, 0, 0, 0, 0, 0, []),
  (1436, .ireturn, 1, 1, 0, 0, 0, 0, []),
  (1437, .goto 215, 3, 970, 0, 0, 0, 0, []),
  (1440, .aload_n 1, 1, 1, 0, 0, 0, 0, []),
  (1441, .aload_n 0, 1, 0, 0, 0, 0, 0, []),
  (1442, .iload 4, 2, 4, 0, 0, 0, 0, []),
  (1444, .iconst 1, 1, 0, 0, 0, 1, 0, []),
  (1445, .iadd, 1, 0, 0, 0, 0, 0, []),
  (1446, .iaload, 1, 0, 0, 0, 0, 0, []),
  (1447, .i2l, 1, 0, 0, 0, 0, 0, []),
  (1448, .bipush 32, 2, 0, 0, 0, 32, 0, []),
  (1450, .lshl, 1, 0, 0, 0, 0, 0, [])]
def zp_206_13 : List (List Nat) := [[], [], [1318], [], [], [], [857, 858, 61, 859], [], [], [], [], [], [], [], [], [], [], [], [], [], [], [], [], [], [], [], [], [], [1318], [], [], [1288, 1289, 1290, 70, 1291], [], [], [1028, 1029, 1030, 70, 1031], [], [], [], [], [], [], [], [], [], [], [], [], [], [], [], [], [], [], [], [], [], [], [], [], []]
def zd_206_14 : List zm_E := [(1451, .aload_n 0, 1, 0, 0, 0, 0, 0, []),
  (1452, .iload 4, 2, 4, 0, 0, 0, 0, []),
  (1454, .iconst 2, 1, 0, 0, 0, 2, 0, []),
  (1455, .iadd, 1, 0, 0, 0, 0, 0, []),
  (1456, .iaload, 1, 0, 0, 0, 0, 0, []),
  (1457, .i2l, 1, 0, 0, 0, 0, 0, []),
  (1458, .ldc2_w 181, 3, 0, 0, 0, 0, 4294967295, []),
  (1461, .land, 1, 0, 0, 0, 0, 0, []),
  (1462, .lor, 1, 0, 0, 0, 0, 0, []),
  (1463, .aload_n 0, 1, 0, 0, 0, 0, 0, []),
  (1464, .iload 4, 2, 4, 0, 0, 0, 0, []),
  (1466, .iconst 3, 1, 0, 0, 0, 3, 0, []),
  (1467, .iadd, 1, 0, 0, 0, 0, 0, []),
  (1468, .iaload, 1, 0, 0, 0, 0, 0, []),
  (1469, .aload_n 3, 1, 3, 0, 0, 0, 0, []),
  (1470, .invokestatic 187, 3, 203, 4, 1, 0, 0, []),
  (1473, .istore 5, 2, 5, 0, 0, 0, 0, []),
  (1475, .aload_n 2, 1, 2, 0, 0, 0, 0, []),
  (1476, .aload_n 0, 1, 0, 0, 0, 0, 0, []),
  (1477, .iload 4, 2, 4, 0, 0, 0, 0, []),
  (1479, .iconst 1, 1, 0, 0, 0, 1, 0, []),
  (1480, .iadd, 1, 0, 0, 0, 0, 0, []),
  (1481, .iaload, 1, 0, 0, 0, 0, 0, []),
  (1482, .i2l, 1, 0, 0, 0, 0, 0, []),
  (1483, .bipush 32, 2, 0, 0, 0, 32, 0, []),
  (1485, .lshl, 1, 0, 0, 0, 0, 0, []),
  (1486, .aload_n 0, 1, 0, 0, 0, 0, 0, []),
  (1487, .iload 4, 2, 4, 0, 0, 0, 0, []),
  (1489, .iconst 2, 1, 0, 0, 0, 2, 0, []),
  (1490, .iadd, 1, 0, 0, 0, 0, 0, []),
  (1491, .iaload, 1, 0, 0, 0, 0, 0, []),
  (1492, .i2l, 1, 0, 0, 0, 0, 0, []),
  (1493, .ldc2_w 181, 3, 0, 0, 0, 0, 4294967295, []),
  (1496, .land, 1, 0, 0, 0, 0, 0, []),
  (1497, .lor, 1, 0, 0, 0, 0, 0, []),
  (1498, .aload_n 0, 1, 0, 0, 0, 0, 0, []),
  (1499, .iload 4, 2, 4, 0, 0, 0, 0, []),
  (1501, .iconst 3, 1, 0, 0, 0, 3, 0, []),
  (1502, .iadd, 1, 0, 0, 0, 0, 0, []),
  (1503, .iaload, 1, 0, 0, 0, 0, 0, []),
  (1504, .invokevirtual 190, 3, 107, 2, 1, 0, 0, [8]),
  (1507, .istore 6, 2, 6, 0, 0, 0, 0, []),
  (1509, .aload_n 2, 1, 2, 0, 0, 0, 0, []),
  (1510, .invokevirtual 94, 3, 39, 0, 1, 0, 0, [8]),
  (1513, .iload 5, 2, 5, 0, 0, 0, 0, []),
  (1515, .if_icmp .eq 5, 3, 888, 0, 0, 0, 0, []),
  (1518, .iconst 0, 1, 0, 0, 0, 0, 0, []),
  (1519, .ireturn, 1, 1, 0, 0, 0, 0, []),
  (1520, .iload 5, 2, 5, 0, 0, 0, 0, []),
  (1522, .ifCond .ne 15, 3, 899, 0, 0, 0, 0, []),
  (1525, .aload_n 3, 1, 3, 0, 0, 0, 0, []),
  (1526, .iconst 0, 1, 0, 0, 0, 0, 0, []),
  (1527, .laload, 1, 0, 0, 0, 0, 0, []),
  (1528, .iload 6, 2, 6, 0, 0, 0, 0, []),
  (1530, .i2l, 1, 0, 0, 0, 0, 0, []),
  (1531, .lcmp, 1, 0, 0, 0, 0, 0, []),
  (1532, .ifCond .eq 5, 3, 899, 0, 0, 0, 0, []),
  (1535, .iconst 0, 1, 0, 0, 0, 0, 0, []),
  (1536, .ireturn, 1, 1, 0, 0, 0, 0, []),
  (1537, .goto 115, 3, 970, 0, 0, 0, 0, [])]
def zp_206_14 : List (List Nat) := [[], [], [], [], [], [], [1318], [], [], [], [], [], [], [], [], [907, 908, 61, 909], [], [], [], [], [], [], [], [], [], [], [], [], [], [], [], [], [1318], [], [], [], [], [], [], [], [1303, 1304, 1305, 70, 1306], [], [], [1028, 1029, 1030, 70, 1031], [], [], [], [], [], [], [], [], [], [], [], [], [], [], [], []]
def zd_206_15 : List zm_E := [(1540, .aload_n 1, 1, 1, 0, 0, 0, 0, []),
  (1541, .aload_n 0, 1, 0, 0, 0, 0, 0, []),
  (1542, .iload 4, 2, 4, 0, 0, 0, 0, []),
  (1544, .iconst 1, 1, 0, 0, 0, 1, 0, []),
  (1545, .iadd, 1, 0, 0, 0, 0, 0, []),
  (1546, .iaload, 1, 0, 0, 0, 0, 0, []),
  (1547, .aload_n 3, 1, 3, 0, 0, 0, 0, []),
  (1548, .invokestatic 191, 3, 204, 3, 1, 0, 0, []),
  (1551, .istore 5, 2, 5, 0, 0, 0, 0, []),
  (1553, .aload_n 2, 1, 2, 0, 0, 0, 0, []),
  (1554, .aload_n 0, 1, 0, 0, 0, 0, 0, []),
  (1555, .iload 4, 2, 4, 0, 0, 0, 0, []),
  (1557, .iconst 1, 1, 0, 0, 0, 1, 0, []),
  (1558, .iadd, 1, 0, 0, 0, 0, 0, []),
  (1559, .iaload, 1, 0, 0, 0, 0, 0, []),
  (1560, .invokevirtual 193, 3, 108, 1, 1, 0, 0, [8]),
  (1563, .istore 6, 2, 6, 0, 0, 0, 0, []),
  (1565, .aload_n 2, 1, 2, 0, 0, 0, 0, []),
  (1566, .invokevirtual 94, 3, 39, 0, 1, 0, 0, [8]),
  (1569, .iload 5, 2, 5, 0, 0, 0, 0, []),
  (1571, .if_icmp .eq 5, 3, 923, 0, 0, 0, 0, []),
  (1574, .iconst 0, 1, 0, 0, 0, 0, 0, []),
  (1575, .ireturn, 1, 1, 0, 0, 0, 0, []),
  (1576, .iload 5, 2, 5, 0, 0, 0, 0, []),
  (1578, .ifCond .ne 15, 3, 934, 0, 0, 0, 0, []),
  (1581, .aload_n 3, 1, 3, 0, 0, 0, 0, []),
  (1582, .iconst 0, 1, 0, 0, 0, 0, 0, []),
  (1583, .laload, 1, 0, 0, 0, 0, 0, []),
  (1584, .iload 6, 2, 6, 0, 0, 0, 0, []),
  (1586, .i2l, 1, 0, 0, 0, 0, 0, []),
  (1587, .lcmp, 1, 0, 0, 0, 0, 0, []),
  (1588, .ifCond .eq 5, 3, 934, 0, 0, 0, 0, []),
  (1591, .iconst 0, 1, 0, 0, 0, 0, 0, []),
  (1592, .ireturn, 1, 1, 0, 0, 0, 0, []),
  (1593, .goto 59, 3, 970, 0, 0, 0, 0, []),
  (1596, .aload_n 1, 1, 1, 0, 0, 0, 0, []),
  (1597, .aload_n 0, 1, 0, 0, 0, 0, 0, []),
  (1598, .iload 4, 2, 4, 0, 0, 0, 0, []),
  (1600, .iconst 1, 1, 0, 0, 0, 1, 0, []),
  (1601, .iadd, 1, 0, 0, 0, 0, 0, []),
  (1602, .iaload, 1, 0, 0, 0, 0, 0, []),
  (1603, .aload_n 3, 1, 3, 0, 0, 0, 0, []),
  (1604, .invokestatic 194, 3, 205, 3, 1, 0, 0, []),
  (1607, .istore 5, 2, 5, 0, 0, 0, 0, []),
  (1609, .aload_n 2, 1, 2, 0, 0, 0, 0, []),
  (1610, .aload_n 0, 1, 0, 0, 0, 0, 0, []),
  (1611, .iload 4, 2, 4, 0, 0, 0, 0, []),
  (1613, .iconst 1, 1, 0, 0, 0, 1, 0, []),
  (1614, .iadd, 1, 0, 0, 0, 0, 0, []),
  (1615, .iaload, 1, 0, 0, 0, 0, 0, []),
  (1616, .invokevirtual 196, 3, 109, 1, 1, 0, 0, [8]),
  (1619, .istore 6, 2, 6, 0, 0, 0, 0, []),
  (1621, .aload_n 2, 1, 2, 0, 0, 0, 0, []),
  (1622, .invokevirtual 94, 3, 39, 0, 1, 0, 0, [8]),
  (1625, .iload 5, 2, 5, 0, 0, 0, 0, []),
  (1627, .if_icmp .eq 5, 3, 958, 0, 0, 0, 0, []),
  (1630, .iconst 0, 1, 0, 0, 0, 0, 0, []),
  (1631, .ireturn, 1, 1, 0, 0, 0, 0, []),
  (1632, .iload 5, 2, 5, 0, 0, 0, 0, []),
  (1634, .ifCond .ne 15, 3, 969, 0, 0, 0, 0, [])]
def zp_206_15 : List (List Nat) := [[], [], [], [], [], [], [], [920, 921, 61, 922], [], [], [], [], [], [], [], [1310, 1311, 1312, 70, 1313], [], [], [1028, 1029, 1030, 70, 1031], [], [], [], [], [], [], [], [], [], [], [], [], [], [], [], [], [], [], [], [], [], [], [], [932, 933, 61, 934], [], [], [], [], [], [], [], [1314, 1315, 1316, 70, 1317], [], [], [1028, 1029, 1030, 70, 1031], [], [], [], [], [], []]
def zd_206_16 : List zm_E := [(1637, .aload_n 3, 1, 3, 0, 0, 0, 0, []),
  (1638, .iconst 0, 1, 0, 0, 0, 0, 0, []),
  (1639, .laload, 1, 0, 0, 0, 0, 0, []),
  (1640, .iload 6, 2, 6, 0, 0, 0, 0, []),
  (1642, .i2l, 1, 0, 0, 0, 0, 0, []),
  (1643, .lcmp, 1, 0, 0, 0, 0, 0, []),
  (1644, .ifCond .eq 5, 3, 969, 0, 0, 0, 0, []),
  (1647, .iconst 0, 1, 0, 0, 0, 0, 0, []),
  (1648, .ireturn, 1, 1, 0, 0, 0, 0, []),
  (1649, .goto 3, 3, 970, 0, 0, 0, 0, []),
  (1652, .iinc 4 4, 3, 4, 0, 0, 4, 0, []),
  (1655, .goto (-1632), 3, 13, 0, 0, 0, 0, []),
  (1658, .iconst 1, 1, 0, 0, 0, 1, 0, []),
  (1659, .ireturn, 1, 1, 0, 0, 0, 0, [])]
def zp_206_16 : List (List Nat) := [[], [], [], [], [], [], [], [], [], [], [], [], [], []]
def zd_206 : List zm_E := zd_206_0 ++ (zd_206_1 ++ (zd_206_2 ++ (zd_206_3 ++ (zd_206_4 ++ (zd_206_5 ++ (zd_206_6 ++ (zd_206_7 ++ (zd_206_8 ++ (zd_206_9 ++ (zd_206_10 ++ (zd_206_11 ++ (zd_206_12 ++ (zd_206_13 ++ (zd_206_14 ++ (zd_206_15 ++ (zd_206_16))))))))))))))))
def zp_206 : List (List Nat) := zp_206_0 ++ (zp_206_1 ++ (zp_206_2 ++ (zp_206_3 ++ (zp_206_4 ++ (zp_206_5 ++ (zp_206_6 ++ (zp_206_7 ++ (zp_206_8 ++ (zp_206_9 ++ (zp_206_10 ++ (zp_206_11 ++ (zp_206_12 ++ (zp_206_13 ++ (zp_206_14 ++ (zp_206_15 ++ (zp_206_16))))))))))))))))
abbrev jJ6_bitCount_0f7a4 : Nat := 207
def zd_207 : List zm_E := [(0, .iload_n 0, 1, 0, 0, 0, 0, 0, []),
  (1, .iload_n 0, 1, 0, 0, 0, 0, 0, []),
  (2, .iconst 1, 1, 0, 0, 0, 1, 0, []),
  (3, .iushr, 1, 0, 0, 0, 0, 0, []),
  (4, .ldc_w 265, 3, 0, 0, 0, 1431655765, 0, []),
  (7, .iand, 1, 0, 0, 0, 0, 0, []),
  (8, .isub, 1, 0, 0, 0, 0, 0, []),
  (9, .istore_n 0, 1, 0, 0, 0, 0, 0, []),
  (10, .iload_n 0, 1, 0, 0, 0, 0, 0, []),
  (11, .ldc_w 266, 3, 0, 0, 0, 858993459, 0, []),
  (14, .iand, 1, 0, 0, 0, 0, 0, []),
  (15, .iload_n 0, 1, 0, 0, 0, 0, 0, []),
  (16, .iconst 2, 1, 0, 0, 0, 2, 0, []),
  (17, .iushr, 1, 0, 0, 0, 0, 0, []),
  (18, .ldc_w 266, 3, 0, 0, 0, 858993459, 0, []),
  (21, .iand, 1, 0, 0, 0, 0, 0, []),
  (22, .iadd, 1, 0, 0, 0, 0, 0, []),
  (23, .istore_n 0, 1, 0, 0, 0, 0, 0, []),
  (24, .iload_n 0, 1, 0, 0, 0, 0, 0, []),
  (25, .iload_n 0, 1, 0, 0, 0, 0, 0, []),
  (26, .iconst 4, 1, 0, 0, 0, 4, 0, []),
  (27, .iushr, 1, 0, 0, 0, 0, 0, []),
  (28, .iadd, 1, 0, 0, 0, 0, 0, []),
  (29, .ldc_w 267, 3, 0, 0, 0, 252645135, 0, []),
  (32, .iand, 1, 0, 0, 0, 0, 0, []),
  (33, .istore_n 0, 1, 0, 0, 0, 0, 0, []),
  (34, .iload_n 0, 1, 0, 0, 0, 0, 0, []),
  (35, .iload_n 0, 1, 0, 0, 0, 0, 0, []),
  (36, .bipush 8, 2, 0, 0, 0, 8, 0, []),
  (38, .iushr, 1, 0, 0, 0, 0, 0, []),
  (39, .iadd, 1, 0, 0, 0, 0, 0, []),
  (40, .istore_n 0, 1, 0, 0, 0, 0, 0, []),
  (41, .iload_n 0, 1, 0, 0, 0, 0, 0, []),
  (42, .iload_n 0, 1, 0, 0, 0, 0, 0, []),
  (43, .bipush 16, 2, 0, 0, 0, 16, 0, []),
  (45, .iushr, 1, 0, 0, 0, 0, 0, []),
  (46, .iadd, 1, 0, 0, 0, 0, 0, []),
  (47, .istore_n 0, 1, 0, 0, 0, 0, 0, []),
  (48, .iload_n 0, 1, 0, 0, 0, 0, 0, []),
  (49, .bipush 63, 2, 0, 0, 0, 63, 0, []),
  (51, .iand, 1, 0, 0, 0, 0, 0, []),
  (52, .ireturn, 1, 0, 0, 0, 0, 0, [])]
def zp_207 : List (List Nat) := [[], [], [], [], [433], [], [], [], [], [434], [], [], [], [], [434], [], [], [], [], [], [], [], [], [435], [], [], [], [], [], [], [], [], [], [], [], [], [], [], [], [], [], []]
abbrev jJ7_fill_d0a16 : Nat := 208
def zd_208 : List zm_E := [(0, .iconst 0, 1, 0, 0, 0, 0, 0, []),
  (1, .istore_n 3, 1, 3, 0, 0, 0, 0, []),
  (2, .aload_n 0, 1, 0, 0, 0, 0, 0, []),
  (3, .arraylength, 1, 0, 0, 0, 0, 0, []),
  (4, .istore 4, 2, 4, 0, 0, 0, 0, []),
  (6, .iload_n 3, 1, 3, 0, 0, 0, 0, []),
  (7, .iload 4, 2, 4, 0, 0, 0, 0, []),
  (9, .if_icmp .ge 13, 3, 14, 0, 0, 0, 0, []),
  (12, .aload_n 0, 1, 0, 0, 0, 0, 0, []),
  (13, .iload_n 3, 1, 3, 0, 0, 0, 0, []),
  (14, .lload_n 1, 1, 1, 0, 0, 0, 0, []),
  (15, .lastore, 1, 0, 0, 0, 0, 0, []),
  (16, .iinc 3 1, 3, 3, 0, 0, 1, 0, []),
  (19, .goto (-13), 3, 5, 0, 0, 0, 0, []),
  (22, .return_, 1, 0, 0, 0, 0, 0, [])]
def zp_208 : List (List Nat) := [[], [], [], [], [], [], [], [], [], [], [], [], [], [], []]
def zm_cds : List (List zm_E) := [zd_0, zd_1, zd_2, zd_3, zd_4, zd_5, zd_6, zd_7, zd_8, zd_9, zd_10, zd_11, zd_12, zd_13, zd_14, zd_15, zd_16, zd_17, zd_18, zd_19, zd_20, zd_21, zd_22, zd_23, zd_24, zd_25, zd_26, zd_27, zd_28, zd_29, zd_30, zd_31, zd_32, zd_33, zd_34, zd_35, zd_36, zd_37, zd_38, zd_39, zd_40, zd_41, zd_42, zd_43, zd_44, zd_45, zd_46, zd_47, zd_48, zd_49, zd_50, zd_51, zd_52, zd_53, zd_54, zd_55, zd_56, zd_57, zd_58, zd_59, zd_60, zd_61, zd_62, zd_63, zd_64, zd_65, zd_66, zd_67, zd_68, zd_69, zd_70, zd_71, zd_72, zd_73, zd_74, zd_75, zd_76, zd_77, zd_78, zd_79, zd_80, zd_81, zd_82, zd_83, zd_84, zd_85, zd_86, zd_87, zd_88, zd_89, zd_90, zd_91, zd_92, zd_93, zd_94, zd_95, zd_96, zd_97, zd_98, zd_99, zd_100, zd_101, zd_102, zd_103, zd_104, zd_105, zd_106, zd_107, zd_108, zd_109, zd_110, zd_111, zd_112, zd_113, zd_114, zd_115, zd_116, zd_117, zd_118, zd_119, zd_120, zd_121, zd_122, zd_123, zd_124, zd_125, zd_126, zd_127, zd_128, zd_129, zd_130, zd_131, zd_132, zd_133, zd_134, zd_135, zd_136, zd_137, zd_138, zd_139, zd_140, zd_141, zd_142, zd_143, zd_144, zd_145, zd_146, zd_147, zd_148, zd_149, zd_150, zd_151, zd_152, zd_153, zd_154, zd_155, zd_156, zd_157, zd_158, zd_159, zd_160, zd_161, zd_162, zd_163, zd_164, zd_165, zd_166, zd_167, zd_168, zd_169, zd_170, zd_171, zd_172, zd_173, zd_174, zd_175, zd_176, zd_177, zd_178, zd_179, zd_180, zd_181, zd_182, zd_183, zd_184, zd_185, zd_186, zd_187, zd_188, zd_189, zd_190, zd_191, zd_192, zd_193, zd_194, zd_195, zd_196, zd_197, zd_198, zd_199, zd_200, zd_201, zd_202, zd_203, zd_204, zd_205, zd_206, zd_207, zd_208]
def zm_pss : List (List (List Nat)) := [zp_0, zp_1, zp_2, zp_3, zp_4, zp_5, zp_6, zp_7, zp_8, zp_9, zp_10, zp_11, zp_12, zp_13, zp_14, zp_15, zp_16, zp_17, zp_18, zp_19, zp_20, zp_21, zp_22, zp_23, zp_24, zp_25, zp_26, zp_27, zp_28, zp_29, zp_30, zp_31, zp_32, zp_33, zp_34, zp_35, zp_36, zp_37, zp_38, zp_39, zp_40, zp_41, zp_42, zp_43, zp_44, zp_45, zp_46, zp_47, zp_48, zp_49, zp_50, zp_51, zp_52, zp_53, zp_54, zp_55, zp_56, zp_57, zp_58, zp_59, zp_60, zp_61, zp_62, zp_63, zp_64, zp_65, zp_66, zp_67, zp_68, zp_69, zp_70, zp_71, zp_72, zp_73, zp_74, zp_75, zp_76, zp_77, zp_78, zp_79, zp_80, zp_81, zp_82, zp_83, zp_84, zp_85, zp_86, zp_87, zp_88, zp_89, zp_90, zp_91, zp_92, zp_93, zp_94, zp_95, zp_96, zp_97, zp_98, zp_99, zp_100, zp_101, zp_102, zp_103, zp_104, zp_105, zp_106, zp_107, zp_108, zp_109, zp_110, zp_111, zp_112, zp_113, zp_114, zp_115, zp_116, zp_117, zp_118, zp_119, zp_120, zp_121, zp_122, zp_123, zp_124, zp_125, zp_126, zp_127, zp_128, zp_129, zp_130, zp_131, zp_132, zp_133, zp_134, zp_135, zp_136, zp_137, zp_138, zp_139, zp_140, zp_141, zp_142, zp_143, zp_144, zp_145, zp_146, zp_147, zp_148, zp_149, zp_150, zp_151, zp_152, zp_153, zp_154, zp_155, zp_156, zp_157, zp_158, zp_159, zp_160, zp_161, zp_162, zp_163, zp_164, zp_165, zp_166, zp_167, zp_168, zp_169, zp_170, zp_171, zp_172, zp_173, zp_174, zp_175, zp_176, zp_177, zp_178, zp_179, zp_180, zp_181, zp_182, zp_183, zp_184, zp_185, zp_186, zp_187, zp_188, zp_189, zp_190, zp_191, zp_192, zp_193, zp_194, zp_195, zp_196, zp_197, zp_198, zp_199, zp_200, zp_201, zp_202, zp_203, zp_204, zp_205, zp_206, zp_207, zp_208]
def zm_mt : List zm_M := [(RX7, yX7_init, cX7_init, 2, none, [], 3, 61),
  (RX7, yX7_append, cX7_append, 2, (some .int), [], 6, 82),
  (RX7, yX7_clearText, cX7_clearText, 2, (some .int), [], 0, 0),
  (RX7, yX7_errorPosition, cX7_errorPosition, 1, (some .int), [], 4, 95),
  (RX7, yX7_load, cX7_load, 2, (some .int), [], 6, 95),
  (RX7, yX7_about, cX7_about, 2, (some .int), [], 6, 113),
  (RX7, yX7_trader, cX7_trader, 3, (some .int), [], 7, 113),
  (RX7, yX7_rank, cX7_rank, 3, (some .int), [], 7, 103),
  (RX7, yX7_holder, cX7_holder, 2, (some .int), [], 7, 103),
  (RX7, yX7_ring, cX7_ring, 4, (some .int), [], 7, 113),
  (RX7, yX7_whyNot, cX7_whyNot, 3, (some .int), [], 7, 103),
  (RX7, yX7_addTrader, cX7_addTrader, 1, (some .int), [], 6, 82),
  (RX7, yX7_setRank, cX7_setRank, 5, (some .int), [], 7, 103),
  (RX7, yX7_exchange, cX7_exchange, 3, (some .int), [], 7, 103),
  (RX7, yX7_doRing, cX7_doRing, 3, (some .int), [], 7, 113),
  (RX7, yX7_trade, cX7_trade, 1, (some .int), [], 5, 113),
  (RX7, yX7_leave, cX7_leave, 2, (some .int), [], 7, 103),
  (RX7, yX7_goHome, cX7_goHome, 1, (some .int), [], 3, 82),
  (RX7, yX7_undo, cX7_undo, 1, (some .int), [], 6, 82),
  (RX7, yX7_group, cX7_group, 2, (some .int), [], 5, 116),
  (RX7, yX7_groups, cX7_groups, 2, (some .int), [], 5, 115),
  (RX7, yX7_least, cX7_least, 1, (some .int), [], 4, 99),
  (RX7, yX7_leastOf, cX7_leastOf, 2, (some .int), [], 7, 125),
  (RX7, yX7_betterWays, cX7_betterWays, 1, (some .int), [], 4, 91),
  (RX7, yX7_harms, cX7_harms, 6, (some .int), [], 7, 113),
  (RX7, yX7_fewest, cX7_fewest, 3, (some .int), [], 7, 141),
  (RX7, yX7_runScript, cX7_runScript, 5, (some .int), [], 6, 143),
  (RX7, yX7_simulate, cX7_simulate, 8, (some .int), [], 6, 93),
  (RX7, yX7_save, cX7_save, 2, (some .int), [], 7, 103),
  (RX7, yX7_restore, cX7_restore, 2, (some .int), [], 7, 103),
  (RX7, yX7_presentTrading, cX7_presentTrading, 1, (some (.object "TradeRings$Trading")), [], 4, 93),
  (RX7, yX7_needTrader, cX7_needTrader, 2, none, [], 6, 82),
  (RX7, yX7_needThing, cX7_needThing, 2, none, [], 6, 82),
  (RX7, yX7_needSlot, cX7_needSlot, 2, none, [], 6, 82),
  (RX7, yX7_needRing, cX7_needRing, 2, none, [], 6, 82),
  (RX7, yX7_meet, cX7_meet, 5, (some .boolean), [], 3, 69),
  (RX7, yX7_bit, cX7_bit, 1, (some .int), [], 0, 0),
  (RX7, yX7_contains, cX7_contains, 2, (some .boolean), [], 0, 0),
  (RX8, yX8_init, cX8_init, 1, none, [], 1, 20),
  (RX8, yX8_thrown, cX8_thrown, 1, (some .int), [], 0, 0),
  (RX8, yX8_in, cX8_in, 6, (some .boolean), [], 0, 0),
  (RX8, yX8_has, cX8_has, 2, (some .boolean), [], 0, 0),
  (RX8, yX8_ones, cX8_ones, 3, (some .int), [], 0, 0),
  (RX8, yX8_fails, cX8_fails, 2, (some .int), [], 0, 0),
  (RX8, yX8_keep, cX8_keep, 2, none, [], 0, 0),
  (RX8, yX8_bringBack, cX8_bringBack, 2, none, [], 0, 0),
  (RX8, yX8_remember, cX8_remember, 2, none, [], 0, 0),
  (RX8, yX8_isOne, cX8_isOne, 2, (some .boolean), [], 1, 25),
  (RX8, yX8_isPresent, cX8_isPresent, 2, (some .boolean), [], 1, 21),
  (RX8, yX8_rankOf, cX8_rankOf, 3, (some .int), [], 0, 0),
  (RX8, yX8_held, cX8_held, 2, (some .int), [], 0, 0),
  (RX8, yX8_present, cX8_present, 1, (some .int), [], 1, 22),
  (RX8, yX8_allRanks, cX8_allRanks, 3, (some .int), [], 1, 22),
  (RX8, yX8_pointsAt, cX8_pointsAt, 7, (some .int), [], 1, 22),
  (RX8, yX8_ringWith, cX8_ringWith, 5, (some .int), [], 1, 21),
  (RX8, yX8_findTrading, cX8_findTrading, 5, none, [], 2, 48),
  (RX8, yX8_finish, cX8_finish, 3, none, [], 1, 21),
  (RX8, yX8_append, cX8_append, 2, (some .int), [], 1, 25),
  (RX8, yX8_clearText, cX8_clearText, 2, (some .int), [], 0, 0),
  (RX8, yX8_sign, cX8_sign, 3, (some .boolean), [], 0, 0),
  (RX8, yX8_digitTo, cX8_digitTo, 4, (some .boolean), [], 1, 25),
  (RX8, yX8_readHolders, cX8_readHolders, 5, (some .boolean), [], 2, 48),
  (RX8, yX8_readMarket, cX8_readMarket, 3, (some .boolean), [], 3, 72),
  (RX8, yX8_errorPosition, cX8_errorPosition, 1, (some .int), [], 4, 94),
  (RX8, yX8_load, cX8_load, 2, (some .int), [], 4, 94),
  (RX8, yX8_envies, cX8_envies, 3, (some .boolean), [], 2, 42),
  (RX8, yX8_about, cX8_about, 7, (some .int), [], 3, 72),
  (RX8, yX8_trader, cX8_trader, 3, (some .int), [], 3, 72),
  (RX8, yX8_rank, cX8_rank, 3, (some .int), [], 2, 46),
  (RX8, yX8_holder, cX8_holder, 3, (some .int), [], 2, 46),
  (RX8, yX8_ring, cX8_ring, 5, (some .int), [], 3, 72),
  (RX8, yX8_against, cX8_against, 5, (some .int), [], 2, 42),
  (RX8, yX8_whyNot, cX8_whyNot, 3, (some .int), [], 3, 66),
  (RX8, yX8_addTrader, cX8_addTrader, 3, (some .int), [], 1, 21),
  (RX8, yX8_ranks, cX8_ranks, 5, (some .int), [], 1, 22),
  (RX8, yX8_setRank, cX8_setRank, 4, (some .int), [], 2, 46),
  (RX8, yX8_exchanges, cX8_exchanges, 4, (some .int), [], 1, 21),
  (RX8, yX8_exchange, cX8_exchange, 3, (some .int), [], 3, 66),
  (RX8, yX8_takes, cX8_takes, 4, (some .int), [], 1, 21),
  (RX8, yX8_doRing, cX8_doRing, 2, (some .int), [], 3, 72),
  (RX8, yX8_trades, cX8_trades, 1, (some .int), [], 3, 72),
  (RX8, yX8_trade, cX8_trade, 1, (some .int), [], 4, 92),
  (RX8, yX8_leave, cX8_leave, 2, (some .int), [], 2, 46),
  (RX8, yX8_home, cX8_home, 3, (some .int), [], 1, 21),
  (RX8, yX8_goHome, cX8_goHome, 1, (some .int), [], 2, 43),
  (RX8, yX8_undo, cX8_undo, 2, (some .int), [], 1, 21),
  (RX8, yX8_waysOf, cX8_waysOf, 6, (some .int), [], 2, 50),
  (RX8, yX8_spread, cX8_spread, 9, none, [], 1, 22),
  (RX8, yX8_couldDo, cX8_couldDo, 3, (some .boolean), [], 3, 75),
  (RX8, yX8_group, cX8_group, 4, (some .int), [], 4, 97),
  (RX8, yX8_groupMany, cX8_groupMany, 4, (some .int), [], 4, 97),
  (RX8, yX8_groups, cX8_groups, 2, (some .int), [], 5, 120),
  (RX8, yX8_presentOnes, cX8_presentOnes, 1, (some .int), [], 0, 0),
  (RX8, yX8_heldThings, cX8_heldThings, 3, (some .int), [], 2, 42),
  (RX8, yX8_findLeast, cX8_findLeast, 7, (some .int), [], 3, 64),
  (RX8, yX8_least, cX8_least, 1, (some .int), [], 4, 90),
  (RX8, yX8_leastOf, cX8_leastOf, 8, (some .int), [], 4, 90),
  (RX8, yX8_betterWays, cX8_betterWays, 2, (some .int), [], 3, 75),
  (RX8, yX8_harms, cX8_harms, 5, (some .int), [], 3, 72),
  (RX8, yX8_coded, cX8_coded, 3, (some .int), [], 1, 21),
  (RX8, yX8_uncodes, cX8_uncodes, 4, none, [], 0, 0),
  (RX8, yX8_numberOf, cX8_numberOf, 8, (some .int), [], 1, 21),
  (RX8, yX8_exchangesTo, cX8_exchangesTo, 11, (some .int), [], 3, 66),
  (RX8, yX8_fewest, cX8_fewest, 4, (some .int), [], 4, 96),
  (RX8, yX8_acts, cX8_acts, 5, (some .boolean), [], 4, 92),
  (RX8, yX8_succeeds, cX8_succeeds, 6, (some .boolean), [], 5, 120),
  (RX8, yX8_runScript, cX8_runScript, 8, (some .int), [], 6, 145),
  (RX8, yX8_simulate, cX8_simulate, 11, (some .int), [], 3, 66),
  (RX8, yX8_save, cX8_save, 3, (some .int), [], 1, 25),
  (RX8, yX8_restore, cX8_restore, 3, (some .int), [], 1, 25),
  (RX0, yX0_init, cX0_init, 2, none, [], 2, 40),
  (RX0, yX0_forgetAll, cX0_forgetAll, 1, none, [], 0, 0),
  (RX0, yX0_remember, cX0_remember, 2, none, [], 2, 61),
  (RX0, yX0_takeBack, cX0_takeBack, 2, none, [], 2, 61),
  (RX1, yX1_init, cX1_init, 1, none, [], 1, 20),
  (RX1, yX1_become, cX1_become, 2, none, [], 1, 40),
  (RX1, yX1_has, cX1_has, 2, (some .boolean), [], 0, 0),
  (RX1, yX1_everybody, cX1_everybody, 1, (some .int), [], 1, 20),
  (RX1, yX1_present, cX1_present, 1, (some .int), [], 2, 40),
  (RX1, yX1_isPresent, cX1_isPresent, 2, (some .boolean), [], 1, 21),
  (RX1, yX1_presentCount, cX1_presentCount, 1, (some .int), [], 3, 60),
  (RX1, yX1_rankBy, cX1_rankBy, 4, (some .int), [], 0, 0),
  (RX1, yX1_rankOfHeld, cX1_rankOfHeld, 2, (some .int), [], 1, 23),
  (RX1, yX1_putRank, cX1_putRank, 5, none, [], 0, 0),
  (RX1, yX1_lossBy, cX1_lossBy, 3, (some .int), [], 1, 23),
  (RX1, yX1_holderOf, cX1_holderOf, 3, (some .int), [], 0, 0),
  (RX1, yX1_thingsOf, cX1_thingsOf, 4, (some .int), [], 1, 21),
  (RX1, yX1_ownersWithTheirThing, cX1_ownersWithTheirThing, 3, (some .int), [], 0, 0),
  (RX1, yX1_sumOfRanks, cX1_sumOfRanks, 3, (some .int), [], 2, 44),
  (RX1, yX1_envies, cX1_envies, 4, (some .int), [], 2, 45),
  (RX1, yX1_reasonAgainst, cX1_reasonAgainst, 5, (some .int), [], 2, 45),
  (RX1, yX1_swap, cX1_swap, 4, none, [], 0, 0),
  (RX1, yX1_take, cX1_take, 5, (some .int), [], 1, 21),
  (RX1, yX1_sendAway, cX1_sendAway, 2, none, [], 1, 20),
  (RX1, yX1_sendHome, cX1_sendHome, 3, (some .int), [], 0, 0),
  (RX1, yX1_begin, cX1_begin, 2, none, [], 1, 22),
  (RX1, yX1_addOne, cX1_addOne, 3, (some .int), [], 1, 24),
  (RX2, yX2_init, cX2_init, 1, none, [], 1, 20),
  (RX2, yX2_takes, cX2_takes, 7, (some .boolean), [], 1, 40),
  (RX2, yX2_succeeds, cX2_succeeds, 9, (some .boolean), [], 5, 115),
  (RX2, yX2_exchanges, cX2_exchanges, 3, (some .boolean), [], 3, 69),
  (RX2, yX2_doesRing, cX2_doesRing, 3, (some .boolean), [], 4, 93),
  (RX2, yX2_trades, cX2_trades, 2, (some .boolean), [], 4, 93),
  (RX2, yX2_leaves, cX2_leaves, 2, (some .boolean), [], 2, 42),
  (RX2, yX2_ranks, cX2_ranks, 4, (some .boolean), [], 1, 24),
  (RX2, yX2_goesHome, cX2_goesHome, 1, (some .boolean), [], 1, 22),
  (RX3, yX3_init, cX3_init, 1, none, [], 1, 20),
  (RX3, yX3_fewestExchanges, cX3_fewestExchanges, 6, (some .int), [], 5, 116),
  (RX3, yX3_exchangeAll, cX3_exchangeAll, 7, (some .boolean), [], 4, 90),
  (RX3, yX3_meet, cX3_meet, 7, none, [], 3, 64),
  (RX3, yX3_numberOf, cX3_numberOf, 5, (some .int), [], 2, 40),
  (RX3, yX3_pack, cX3_pack, 3, (some .int), [], 0, 0),
  (RX3, yX3_unpack, cX3_unpack, 3, none, [], 0, 0),
  (RX4, yX4_init, cX4_init, 1, none, [], 1, 20),
  (RX4, yX4_smallestGroup, cX4_smallestGroup, 6, (some .int), [], 4, 91),
  (RX4, yX4_countGroups, cX4_countGroups, 5, (some .int), [], 4, 91),
  (RX4, yX4_couldDoBetter, cX4_couldDoBetter, 4, (some .boolean), [], 3, 68),
  (RX4, yX4_countBetterWays, cX4_countBetterWays, 3, (some .int), [], 3, 69),
  (RX4, yX4_noteLikings, cX4_noteLikings, 5, none, [], 2, 45),
  (RX4, yX4_lineUp, cX4_lineUp, 4, none, [], 1, 21),
  (RX4, yX4_countWays, cX4_countWays, 5, (some .int), [], 2, 44),
  (RX4, yX4_spread, cX4_spread, 4, none, [], 1, 21),
  (RX4, yX4_leastSum, cX4_leastSum, 6, (some .int), [], 3, 74),
  (RX4, yX4_thingAtLeast, cX4_thingAtLeast, 7, (some .int), [], 4, 99),
  (RX4, yX4_bestThing, cX4_bestThing, 8, (some .int), [], 2, 47),
  (RX4, yX4_sumWith, cX4_sumWith, 5, (some .int), [], 1, 23),
  (RX5, yX5_init, cX5_init, 1, none, [], 1, 20),
  (RX5, yX5_isFull, cX5_isFull, 1, (some .boolean), [], 0, 0),
  (RX5, yX5_add, cX5_add, 2, none, [], 1, 20),
  (RX5, yX5_at, cX5_at, 2, (some .int), [], 0, 0),
  (RX5, yX5_digitAt, cX5_digitAt, 5, (some .int), [], 1, 21),
  (RX5, yX5_readMarket, cX5_readMarket, 5, (some .int), [], 3, 71),
  (RX5, yX5_readRanks, cX5_readRanks, 7, (some .int), [], 2, 45),
  (RX5, yX5_readHoldings, cX5_readHoldings, 7, (some .int), [], 2, 45),
  (RX6, yX6_init, cX6_init, 1, none, [], 1, 20),
  (RX6, yX6_find, cX6_find, 4, none, [], 3, 70),
  (RX6, yX6_hasRing, cX6_hasRing, 2, (some .boolean), [], 0, 0),
  (RX6, yX6_movers, cX6_movers, 4, (some .int), [], 0, 0),
  (RX6, yX6_gainOf, cX6_gainOf, 5, (some .int), [], 2, 45),
  (RX6, yX6_forget, cX6_forget, 2, none, [], 0, 0),
  (RX6, yX6_point, cX6_point, 4, none, [], 2, 47),
  (RX6, yX6_choice, cX6_choice, 5, (some .int), [], 1, 23),
  (RX6, yX6_closeRings, cX6_closeRings, 6, (some .int), [], 2, 44),
  (RX6, yX6_ringThrough, cX6_ringThrough, 5, (some .int), [], 1, 20),
  (RX6, yX6_addRing, cX6_addRing, 4, none, [], 1, 21),
  (RL, yL_append, cL_append, 4, (some .int), [(0, 9, 12, 13), (0, 9, 15, 15)], 7, 103),
  (RL, yL_load, cL_load, 3, (some .int), [(0, 8, 11, 15)], 7, 116),
  (RL, yL_about, cL_about, 4, (some .int), [(0, 9, 12, 13)], 7, 134),
  (RL, yL_trader, cL_trader, 5, (some .int), [(0, 10, 13, 28), (0, 10, 17, 13)], 8, 135),
  (RL, yL_rank, cL_rank, 5, (some .int), [(0, 10, 13, 28)], 8, 125),
  (RL, yL_holder, cL_holder, 4, (some .int), [(0, 9, 12, 28)], 8, 124),
  (RL, yL_ring, cL_ring, 5, (some .int), [(0, 10, 13, 28), (0, 10, 17, 13)], 8, 136),
  (RL, yL_whyNot, cL_whyNot, 5, (some .int), [(0, 10, 13, 28)], 8, 125),
  (RL, yL_addTrader, cL_addTrader, 3, (some .int), [(0, 8, 11, 15)], 7, 102),
  (RL, yL_setRank, cL_setRank, 6, (some .int), [(0, 12, 15, 28), (0, 12, 19, 13)], 8, 127),
  (RL, yL_exchange, cL_exchange, 5, (some .int), [(0, 10, 13, 28), (0, 10, 17, 15)], 8, 125),
  (RL, yL_doRing, cL_doRing, 4, (some .int), [(0, 9, 12, 28)], 8, 135),
  (RL, yL_leave, cL_leave, 4, (some .int), [(0, 9, 12, 28), (0, 9, 15, 15)], 8, 124),
  (RL, yL_undo, cL_undo, 3, (some .int), [(0, 8, 11, 15)], 7, 102),
  (RL, yL_leastOf, cL_leastOf, 4, (some .int), [(0, 9, 12, 28)], 8, 146),
  (RL, yL_harms, cL_harms, 4, (some .int), [(0, 9, 12, 28)], 8, 138),
  (RL, yL_fewest, cL_fewest, 5, (some .int), [(0, 10, 13, 28)], 8, 163),
  (RL, yL_runScript, cL_runScript, 6, (some .int), [(0, 11, 14, 13)], 7, 167),
  (RL, yL_simulate, cL_simulate, 6, (some .int), [(0, 11, 14, 13)], 7, 120),
  (RL, yL_save, cL_save, 4, (some .int), [(0, 9, 12, 28)], 8, 124),
  (RL, yL_restore, cL_restore, 4, (some .int), [(0, 9, 12, 28), (0, 9, 15, 15)], 8, 124),
  (RL, yL_law, cL_law, 7, (some .boolean), [], 9, 192),
  (RJ6, yJ6_bitCount_0f7a4, cJ6_bitCount_0f7a4, 1, (some .int), [], 0, 0),
  (RJ7, yJ7_fill_d0a16, cJ7_fill_d0a16, 5, none, [], 0, 0)]
def zm_hts : List (List (Nat × Nat × Nat × Nat × Nat)) := [[], [], [], [], [], [], [], [], [], [], [], [], [], [], [], [], [], [], [], [], [], [], [], [], [], [], [], [], [], [], [], [], [], [], [], [], [], [], [], [], [], [], [], [], [], [], [], [], [], [], [], [], [], [], [], [], [], [], [], [], [], [], [], [], [], [], [], [], [], [], [], [], [], [], [], [], [], [], [], [], [], [], [], [], [], [], [], [], [], [], [], [], [], [], [], [], [], [], [], [], [], [], [], [], [], [], [], [], [], [], [], [], [], [], [], [], [], [], [], [], [], [], [], [], [], [], [], [], [], [], [], [], [], [], [], [], [], [], [], [], [], [], [], [], [], [], [], [], [], [], [], [], [], [], [], [], [], [], [], [], [], [], [], [], [], [], [], [], [], [], [], [], [], [], [], [], [], [], [], [], [], [], [], [], [], [(0, 7, 0, 9, 3), (0, 7, 1, 12, 3)], [(0, 6, 1, 8, 2)], [(0, 7, 0, 9, 3)], [(0, 8, 2, 10, 4), (0, 8, 0, 13, 4)], [(0, 8, 2, 10, 4)], [(0, 7, 2, 9, 3)], [(0, 8, 2, 10, 4), (0, 8, 0, 13, 4)], [(0, 8, 2, 10, 4)], [(0, 6, 1, 8, 2)], [(0, 9, 2, 11, 5), (0, 9, 0, 14, 5)], [(0, 8, 2, 10, 4), (0, 8, 1, 13, 4)], [(0, 7, 2, 9, 3)], [(0, 7, 2, 9, 3), (0, 7, 1, 12, 3)], [(0, 6, 1, 8, 2)], [(0, 7, 2, 9, 3)], [(0, 7, 2, 9, 3)], [(0, 8, 2, 10, 4)], [(0, 8, 0, 10, 5)], [(0, 8, 0, 10, 5)], [(0, 7, 2, 9, 3)], [(0, 7, 2, 9, 3), (0, 7, 1, 12, 3)], [], [], []]
def zm_nest : List (String × Nat × MethodName × String) := [("TradeRings", 9, ⟨"TradeRings$Text", "<init>", "()V"⟩, "TradeRings"), ("TradeRings", 18, ⟨"TradeRings$Market", "<init>", "()V"⟩, "TradeRings"), ("TradeRings$History", 15, ⟨"TradeRings$Market", "<init>", "()V"⟩, "TradeRings"), ("TradeRings", 43, ⟨"TradeRings$Trading", "<init>", "()V"⟩, "TradeRings"), ("TradeRings", 53, ⟨"TradeRings$Sharing", "<init>", "()V"⟩, "TradeRings"), ("TradeRings", 60, ⟨"TradeRings$Search", "<init>", "()V"⟩, "TradeRings"), ("TradeRings", 67, ⟨"TradeRings$Script", "<init>", "()V"⟩, "TradeRings"), ("TradeRings$Text", 51, ⟨"TradeRings", "contains", "(II)Z"⟩, "TradeRings"), ("TradeRings$Text", 55, ⟨"TradeRings", "bit", "(I)I"⟩, "TradeRings"), ("TradeRings$Market", 31, ⟨"TradeRings", "bit", "(I)I"⟩, "TradeRings"), ("TradeRings$Trading", 59, ⟨"TradeRings", "contains", "(II)Z"⟩, "TradeRings"), ("TradeRings$Trading", 81, ⟨"TradeRings", "bit", "(I)I"⟩, "TradeRings"), ("TradeRings$Market", 39, ⟨"TradeRings", "contains", "(II)Z"⟩, "TradeRings"), ("TradeRings$Sharing", 69, ⟨"TradeRings", "bit", "(I)I"⟩, "TradeRings"), ("TradeRings$Sharing", 75, ⟨"TradeRings", "contains", "(II)Z"⟩, "TradeRings"), ("TradeRings$Search", 72, ⟨"TradeRings", "bit", "(I)I"⟩, "TradeRings")]
def zm_tx : List (Nat × String) := [(74, "a character code is from 0 to 255"), (85, "the text is full"), (100, "the text is not a market"), (138, "what is from 0 to 7"), (309, "there is no such trader"), (167, "what is from 0 to 6"), (312, "there is no such thing"), (319, "there is no such ring"), (198, "what is from 0 to 3"), (203, "there are 7 traders"), (211, "a rank is from 0 to 9"), (217, "the traders cannot exchange"), (230, "the trader has left"), (241, "no state is remembered"), (277, "a script has 1 to 4 commands"), (283, "a script is a number of at most 4 digits a command"), (289, "there are 1 to 99 meetings"), (314, "there is no such save slot"), (302, "nothing has been saved in the slot")]
def zm_dcl : List MethodName := [⟨"java/lang/RuntimeException", "<init>", "()V"⟩, ⟨"java/lang/RuntimeException", "<init>", "(Ljava/lang/String;)V"⟩, ⟨"java/lang/Exception", "<init>", "()V"⟩, ⟨"java/lang/Exception", "<init>", "(Ljava/lang/String;)V"⟩, ⟨"java/lang/Throwable", "<init>", "()V"⟩, ⟨"java/lang/Throwable", "<init>", "(Ljava/lang/String;)V"⟩]
def zm_exs : List String := ["java/lang/IllegalArgumentException", "java/lang/IllegalStateException", "java/lang/IndexOutOfBoundsException"]
def zm_tys : List (Nat → FieldType) := [tyX0, tyX1, tyX2, tyX3, tyX4, tyX5, tyX6, tyX7, tyX8]
def zm_n : Nat := 209
def zm_cd (m : Nat) : List zm_E := match zm_cds[m]? with
  | some x => x
  | none => []
def zm_ps (m : Nat) : List (List Nat) := match zm_pss[m]? with
  | some x => x
  | none => []
def zm_ht (m : Nat) : List (Nat × Nat × Nat × Nat × Nat) := match zm_hts[m]? with
  | some x => x
  | none => []
def zm_me (m : Nat) : zm_M := match zm_mt[m]? with
  | some x => x
  | none => ("", ⟨"", "", ""⟩, ⟨#[]⟩, 0, none, [], 0, 0)
def zm_ow (m : Nat) : String := (zm_me m).1
def zm_nm (m : Nat) : MethodName := (zm_me m).2.1
def zm_by (m : Nat) : ByteArray := (zm_me m).2.2.1
def zm_ml (m : Nat) : Nat := (zm_me m).2.2.2.1
def zm_re (m : Nat) : Option FieldType := (zm_me m).2.2.2.2.1
def zm_hh (m : Nat) : List (Nat × Nat × Nat × Nat) := (zm_me m).2.2.2.2.2.1
def zm_rf (m : Nat) : Nat := (zm_me m).2.2.2.2.2.2.1
def zm_rl (m : Nat) : Nat := (zm_me m).2.2.2.2.2.2.2
def zm_ex (x : Nat) : String := match zm_exs[x]? with
  | some t => t
  | none => ""
def zm_ty (c : Nat) : Nat → FieldType := match zm_tys[c]? with
  | some t => t
  | none => fun _ => .int
def zm_cl (c : Nat) : vw_C := match vwCl[c]? with
  | some t => t
  | none => ("", TX0, 0)
def zm_ds (c : Nat) : List Value := zm_df (zm_ty c) (zm_cl c).2.2
end
section
/-! WHAT THE TABLES SAY IS SO: each entry is the instruction at its place, and the words that it needs stand among lw_tbl. -/
def zc_ok (i : Nat) (w : Cond) : Bool := decide (lw_tbl[i]? = some w) && goodWord w
def zm_cw (m : Nat) : Cond := match zm_hh m with
  | [] => .code (zm_nm m) (zm_by m) (zm_ml m) (zm_re m)
  | t :: tt => .codeWith (zm_nm m) (zm_by m) (zm_ml m) (zm_re m) (t :: tt)
/-- the place of the next entry -/
def zc_np : List zm_E → Option Nat
  | [] => none
  | e :: _ => some e.1
def zc_nx (nx : Option Nat) (k : Nat) : Bool := match nx with
  | some e => Nat.beq e k
  | none => false
def zc_tg (m t bp : Nat) (off : Int) : Bool := match (zm_cd m)[t]? with
  | some e => decide ((bp : Int) + off = (e.1 : Int))
  | none => false
def zc_sw (m bp : Nat) : List Nat → List Int → Bool
  | [], [] => true
  | t :: ts, o :: os => zc_tg m t bp o && zc_sw m bp ts os
  | _, _ => false
def zc_rf (t : FieldType) : Bool := match t with
  | .object _ => true
  | .array _ => true
  | _ => false
def zc_rk (c : Nat) (r : Option FieldType) : Bool := match c, r with
  | 0, none => true
  | 1, some .int => true
  | 1, some .boolean => true
  | 2, some (.object _) => true
  | _, _ => false
/-- a callee: its code word, how many arguments, the room, what it hands back -/
def zc_cl (m a b c pc : Nat) : Bool := zc_ok pc (zm_cw a) && decide (a < zm_n) && decide ((parseMethodDescriptor (zm_nm a).desc).map (fun d => d.parameters.length) = some b) && zc_rk c (zm_re a) &&
  decide ((zm_nm a).cls ≠ "java/lang/invoke/MethodHandle" ∧ (zm_nm a).cls ≠ "java/lang/invoke/VarHandle") && Nat.ble (zm_rf a + 1) (zm_rf m) && Nat.ble (8 + (zm_ml a + 11) + zm_rl a) (zm_rl m)
def zc_fd (m idx a b c p : Nat) : Bool := match vwCl[a]? with
  | some q => Nat.blt b q.2.2 && zc_ok p (.fieldLink (zm_ow m) idx (q.2.1 b).1 (q.2.1 b).2.1 (q.2.1 b).2.2.1) && (match c with
    | 0 => decide (zm_ty a b = .int)
    | _ => zc_rf (zm_ty a b))
  | none => false
/-- the four rows of 'throw new E("text")' behind the new -/
def zc_th (m bp ik a : Nat) (ts ps : List Nat) : Bool := match ts, ps with
  | [is, ic, wd, si], [p0, p1, p2] => zc_ok p0 (.classLink (zm_ow m) ik (zm_ex a)) && zc_ok p1 (.initialized (zm_ex a)) && zc_ok p2 (.methodLink (zm_ow m) ic (Bundle.initS (zm_ex a))) && decide (zm_ow m = RX7) && decide (a < 3) &&
      decide ((zm_tx[si]?).map (fun q => q.1) = some is) && decide (zm_hh m = []) &&
      decide (decode (zm_by m) (bp + 3) = .ok (.dup, 1)) && (match wd with
      | 0 => decide (decode (zm_by m) (bp + 4) = .ok (.ldc is, 2)) && decide (decode (zm_by m) (bp + 6) = .ok (.invokespecial ic, 3)) && decide (decode (zm_by m) (bp + 9) = .ok (.athrow, 1))
      | _ => decide (decode (zm_by m) (bp + 4) = .ok (.ldc_w is, 3)) && decide (decode (zm_by m) (bp + 7) = .ok (.invokespecial ic, 3)) && decide (decode (zm_by m) (bp + 10) = .ok (.athrow, 1))) &&
      Nat.ble 6 (zm_rf m) && Nat.ble 82 (zm_rl m)
  | _, _ => false
def zc_lk (m idx a : Nat) (v : Int32) (p : Nat) : Bool := if v = 0 then zc_ok p (.methodLink (zm_ow m) idx (zm_nm a)) else decide (zm_nest[p]? = some (zm_ow m, idx, zm_nm a, "TradeRings"))
def zc_in (m : Nat) (nx : Option Nat) (bp : Nat) (ins : Instr) (len a b c : Nat) (v : Int32) (w : Int64) (ts ps : List Nat) : Bool :=
  decide (decode (zm_by m) bp = .ok (ins, len)) && (match ins with
  | .iconst n => decide (Int32.ofInt n = v) && Nat.beq len 1 && zc_nx nx (bp + 1)
  | .bipush n => decide ((Int8.ofInt n).toInt32 = v) && Nat.beq len 2 && zc_nx nx (bp + 2)
  | .sipush n => decide ((Int16.ofInt n).toInt32 = v) && Nat.beq len 3 && zc_nx nx (bp + 3)
  | .ldc_w k => (match c with
    | 0 => (match ps with
      | [p] => zc_ok p (.constant (zm_ow m) k v) && Nat.beq len 3 && zc_nx nx (bp + 3)
      | _ => false)
    | _ => true)
  | .lconst n => decide (Int64.ofNat (n : Nat) = w) && Nat.beq len 1 && zc_nx nx (bp + 1)
  | .ldc2_w k => (match ps with
    | [p] => zc_ok p (.constantLong (zm_ow m) k w) && Nat.beq len 3 && zc_nx nx (bp + 3)
    | _ => false)
  | .iload_n k => Nat.beq k a && Nat.beq len 1 && zc_nx nx (bp + 1)
  | .lload_n k => Nat.beq k a && Nat.beq len 1 && zc_nx nx (bp + 1)
  | .aload_n k => Nat.beq k a && Nat.beq len 1 && zc_nx nx (bp + 1)
  | .iload k => Nat.beq k a && Nat.beq len 2 && zc_nx nx (bp + 2)
  | .lload k => Nat.beq k a && Nat.beq len 2 && zc_nx nx (bp + 2)
  | .aload k => Nat.beq k a && Nat.beq len 2 && zc_nx nx (bp + 2)
  | .istore_n k => Nat.beq k a && Nat.blt a (zm_ml m) && Nat.beq len 1 && zc_nx nx (bp + 1)
  | .astore_n k => Nat.beq k a && Nat.blt a (zm_ml m) && Nat.beq len 1 && zc_nx nx (bp + 1)
  | .lstore_n k => Nat.beq k a && Nat.blt (a + 1) (zm_ml m) && Nat.beq len 1 && zc_nx nx (bp + 1)
  | .istore k => Nat.beq k a && Nat.blt a (zm_ml m) && Nat.beq len 2 && zc_nx nx (bp + 2)
  | .astore k => Nat.beq k a && Nat.blt a (zm_ml m) && Nat.beq len 2 && zc_nx nx (bp + 2)
  | .lstore k => Nat.beq k a && Nat.blt (a + 1) (zm_ml m) && Nat.beq len 2 && zc_nx nx (bp + 2)
  | .iinc k n => Nat.beq k a && Nat.blt a (zm_ml m) && decide (Int32.ofInt n = v) && Nat.beq len 3 && zc_nx nx (bp + 3)
  | .goto o => Nat.beq len 3 && zc_tg m a bp o
  | .if_icmp _ o => Nat.beq len 3 && zc_tg m a bp o && zc_nx nx (bp + 3)
  | .ifCond _ o => Nat.beq len 3 && zc_tg m a bp o && zc_nx nx (bp + 3)
  | .tableswitch d lo hi os => zc_tg m a bp d && zc_sw m bp ts os.toList && decide (lo = v.toInt) && decide (hi = v.toInt + (ts.length : Int) - 1) && Nat.blt 0 ts.length
  | .getfield k => (match ps with
    | [p] => zc_fd m k a b c p && Nat.beq len 3 && zc_nx nx (bp + 3)
    | _ => false)
  | .putfield k => (match ps with
    | [p] => zc_fd m k a b c p && Nat.beq len 3 && zc_nx nx (bp + 3) && (((zm_cl a).2.1 b).2.2.2 == false || (decide ((zm_nm m).name = "<init>") && decide (((zm_cl a).2.1 b).1 = zm_ow m)))
    | _ => false)
  | .new k => (match c with
    | 0 => (match ps with
      | [p0, p1, p2] => zc_ok p0 (.classLink (zm_ow m) k (zm_cl a).1) && zc_ok p1 (.instantiable (zm_cl a).1 (zm_cl a).2.2) && zc_ok p2 (.initialized (zm_cl a).1) && Nat.blt a 9 && Nat.beq len 3 && zc_nx nx (bp + 3)
      | _ => false)
    | _ => zc_th m bp k a ts ps && Nat.beq len 3)
  | .newarray t => (match ps with
    | [p] => zc_ok p (.arrayClass (newarray.typeOf t)) && Nat.beq len 2 && zc_nx nx (bp + 2) && (match a with
      | 0 => decide (newarray.typeOf t = .int)
      | 1 => decide (newarray.typeOf t = .long)
      | _ => decide (newarray.typeOf t = .boolean))
    | _ => false)
  | .anewarray k => (match ps with
    | [p] => zc_ok p (.classLink (zm_ow m) k RX1) && Nat.beq len 3 && zc_nx nx (bp + 3)
    | _ => false)
  | .invokevirtual k => (match ts, ps with
    | [ci], [p0, p1, p2, p3, p4] => zc_lk m k a v p0 && zc_ok p1 (.instanceMethod (zm_nm a)) && zc_ok p2 (.selects (zm_cl ci).1 (zm_nm a) (zm_nm a)) && zc_ok p3 (.initialized (zm_nm a).cls) && Nat.blt ci 9 &&
        zc_cl m a b c p4 && decide (zm_hh a = []) && Nat.beq len 3 && zc_nx nx (bp + 3)
    | _, _ => false)
  | .invokestatic k => (match a with
    | 1000 => (match ps with
      | [p0, p1, p2, p3] => zc_ok p0 (.methodLink (zm_ow m) k arraycopyName) && zc_ok p1 (.native arraycopyName) && zc_ok p2 (.static arraycopyName) && zc_ok p3 (.initialized "java/lang/System") && Nat.beq len 3 && zc_nx nx (bp + 3) &&
          Nat.ble 1 (zm_rf m) && Nat.ble 40 (zm_rl m)
      | _ => false)
    | 1003 => (match ps with
      | [p0, p1, p2, p3] => zc_ok p0 (.methodLink (zm_ow m) k Lib.Math.min.name) && zc_ok p1 (.static Lib.Math.min.name) && zc_ok p2 (.initialized "java/lang/Math") && zc_ok p3 (.code Lib.Math.min.name Lib.Math.min.code 2 (some .int)) && Nat.beq len 3 && zc_nx nx (bp + 3) &&
          Nat.ble 1 (zm_rf m) && Nat.ble 40 (zm_rl m)
      | _ => false)
    | a => (match ps with
      | [p0, p1, p2, p3] => zc_lk m k a v p0 && zc_ok p1 (.static (zm_nm a)) && zc_ok p2 (.initialized (zm_nm a).cls) && zc_cl m a b c p3 && (decide (zm_hh a = []) || decide (v = 0)) && Nat.beq len 3 && zc_nx nx (bp + 3)
      | _ => false))
  | .invokespecial k => (match a with
    | 1001 => (match ps with
      | [p0, p1, p2] => zc_ok p0 (.methodLink (zm_ow m) k Lib.objectInit) && zc_ok p1 (.instanceMethod Lib.objectInit) && zc_ok p2 (.code Lib.objectInit ⟨#[0xb1]⟩ 1 none) && Nat.beq len 3 && zc_nx nx (bp + 3) &&
          Nat.ble 1 (zm_rf m) && Nat.ble 20 (zm_rl m)
      | _ => false)
    | 1002 => true
    | a => (match ps with
      | [p0, p1, p2, p3] => zc_lk m k a v p0 && zc_ok p1 (.instanceMethod (zm_nm a)) && zc_ok p2 (.initialized (zm_nm a).cls) && zc_cl m a b c p3 && decide ((zm_nm a).name = "<init>") && decide (zm_hh a = []) && decide (zm_re a = none) && Nat.beq len 3 && zc_nx nx (bp + 3)
      | _ => false))
  | .ireturn => Nat.beq len 1 && (match a with
    | 0 => decide (zm_re m = some .int)
    | _ => decide (zm_re m = some .boolean))
  | .areturn => Nat.beq len 1 && (match zm_re m with
    | some (.object _) => true
    | _ => false)
  | .return_ => Nat.beq len 1 && decide (zm_re m = none)
  | .ldc _ => true
  | .athrow => true
  | _ => Nat.beq len 1 && zc_nx nx (bp + 1))
/-- a handler's row: from, to, where, and what it takes -/
def zc_h1 (m : Nat) (q : Nat × Nat × Nat × Nat × Nat) (z : Nat × Nat × Nat × Nat) (p : Nat) : Bool :=
  (match (zm_cd m)[q.1]?, (zm_cd m)[q.2.1]?, (zm_cd m)[q.2.2.2.1 - 1]?, (zm_cd m)[q.2.2.2.1]? with
  | some e0, some e1, some e2, some e3 => Nat.beq e0.1 z.1 && Nat.beq e1.1 z.2.1 && Nat.beq e2.1 z.2.2.1 && Nat.blt 0 q.2.2.2.1 && Nat.blt q.2.2.2.2 (zm_ml m) && (match e2.2.1 with
      | .astore_n k => Nat.beq k q.2.2.2.2 && Nat.beq e3.1 (e2.1 + 1)
      | .astore k => Nat.beq k q.2.2.2.2 && Nat.beq e3.1 (e2.1 + 2)
      | _ => false)
  | _, _, _, _ => false) && decide (q.2.2.1 < 3) && !(Nat.beq z.2.2.2 0) && zc_ok p (.classLink (zm_ow m) z.2.2.2 (zm_ex q.2.2.1))
def zc_hs (m : Nat) : List (Nat × Nat × Nat × Nat × Nat) → List (Nat × Nat × Nat × Nat) → List Nat → Bool
  | [], [], [] => true
  | q :: qs, z :: zs, p :: ps => zc_h1 m q z p && zc_hs m qs zs ps
  | _, _, _ => false
/-- the indices of one method rise with its places: an index below another lies below it -/
def zc_up : List zm_E → Bool
  | [] => true
  | e :: r => (match r with
    | [] => true
    | f :: _ => Nat.blt e.1 f.1) && zc_up r
def zc_ro (m : Nat) : List zm_E → List (List Nat) → Option Nat → Bool
  | [], [], _ => true
  | (bp, ins, len, a, b, c, v, w, ts) :: es, ps :: pss, z => zc_in m (match es with
    | [] => z
    | e :: _ => some e.1) bp ins len a b c v w ts ps && zc_ro m es pss z
  | _, _, _ => false
def zc_m0 (m : Nat) (hp : List Nat) : Bool := zc_hs m (zm_ht m) (zm_hh m) hp && zc_up (zm_cd m) && decide (plainName (zm_nm m).cls = true) && decide ((zm_nm m).cls = zm_ow m) &&
  (match (zm_cd m)[0]? with
  | some e => Nat.beq e.1 0
  | none => false)
def zc_me (m : Nat) (hp : List Nat) : Bool := zc_ro m (zm_cd m) (zm_ps m) none && zc_m0 m hp
theorem zc_ro_app (m : Nat) (e1 : List zm_E) (p1 : List (List Nat)) (x : zm_E) (e2 : List zm_E) (p2 : List (List Nat)) (z : Option Nat) (h1 : zc_ro m e1 p1 (some x.1) = true) (h2 : zc_ro m (x :: e2) p2 z = true) : zc_ro m (e1 ++ x :: e2) (p1 ++ p2) z = true := by
  induction e1 generalizing p1 with
  | nil =>
    cases p1 with
    | nil => exact h2
    | cons a b => simp [zc_ro] at h1
  | cons e es ih =>
    obtain ⟨bp, ins, len, a, b, c, v, w, ts⟩ := e
    cases p1 with
    | nil => simp [zc_ro] at h1
    | cons ps pss =>
      simp only [zc_ro, Bool.and_eq_true] at h1
      simp only [List.cons_append, zc_ro, Bool.and_eq_true]
      refine ⟨?_, ih pss h1.2⟩
      have h3 := h1.1
      cases es with
      | nil => exact h3
      | cons f fs => exact h3
end
section
/-! ONE STEP of the pure machine; e: what the rest of the run answers. -/
def zm_call (e : zm_K) (m : Nat) (as : List Value) (h : zm_H) : Option zm_R := match Nat.beq (zm_in (zm_ml m) as).length (zm_ml m) with
  | true => e (m, 0, zm_in (zm_ml m) as, [], h)
  | false => none
/-- a thrown exception comes back to index i of m -/
def zm_hx (e : zm_K) (m i : Nat) (ls : zm_L) (x : Nat) (h : zm_H) : Option zm_R := match zm_ht m with
  | [] => some (.inr x, h)
  | t :: tt => match zm_fd (t :: tt) i x with
    | some (g, k) => e (m, g, zm_s0 ls k, [], h)
    | none => none
def zm_rt (c : Nat) (e : zm_K) (m i : Nat) (ls : zm_L) (st : List Value) (o : Option zm_R) : Option zm_R := match c with
  | 0 => zm_rV o (fun h => e (m, i + 1, ls, st, h)) (fun x h => zm_hx e m i ls x h)
  | 1 => zm_rI o (fun r h => e (m, i + 1, ls, .int r :: st, h)) (fun x h => zm_hx e m i ls x h)
  | _ => zm_rR o (fun r h => e (m, i + 1, ls, .ref r :: st, h)) (fun x h => zm_hx e m i ls x h)
def zm_G (sc : Nat × (Nat → Int32)) (e : zm_K) (m i : Nat) (ls : zm_L) (st : List Value) (h : zm_H) (ins : Instr) (a b c : Nat) (v : Int32) (w : Int64) (ts : List Nat) : Option zm_R :=
  match ins with
  | .iconst _ => e (m, i + 1, ls, .int v :: st, h)
  | .bipush _ => e (m, i + 1, ls, .int v :: st, h)
  | .sipush _ => e (m, i + 1, ls, .int v :: st, h)
  | .ldc_w _ => (match c with
    | 0 => e (m, i + 1, ls, .int v :: st, h)
    | _ => none)
  | .lconst _ => e (m, i + 1, ls, .long w :: st, h)
  | .ldc2_w _ => e (m, i + 1, ls, .long w :: st, h)
  | .iload_n _ => (match zm_lc ls a with
    | some (.int x) => e (m, i + 1, ls, .int x :: st, h)
    | _ => none)
  | .iload _ => (match zm_lc ls a with
    | some (.int x) => e (m, i + 1, ls, .int x :: st, h)
    | _ => none)
  | .lload_n _ => (match zm_lc ls a with
    | some (.long x) => e (m, i + 1, ls, .long x :: st, h)
    | _ => none)
  | .lload _ => (match zm_lc ls a with
    | some (.long x) => e (m, i + 1, ls, .long x :: st, h)
    | _ => none)
  | .aload_n _ => (match zm_lc ls a with
    | some (.ref x) => e (m, i + 1, ls, .ref x :: st, h)
    | some (.float x) => e (m, i + 1, ls, .float x :: st, h)
    | _ => none)
  | .aload _ => (match zm_lc ls a with
    | some (.ref x) => e (m, i + 1, ls, .ref x :: st, h)
    | _ => none)
  | .istore_n _ => (match st with
    | .int x :: r => e (m, i + 1, zm_s1 ls a (.int x), r, h)
    | _ => none)
  | .istore _ => (match st with
    | .int x :: r => e (m, i + 1, zm_s1 ls a (.int x), r, h)
    | _ => none)
  | .lstore_n _ => (match st with
    | .long x :: r => e (m, i + 1, zm_s2 ls a (.long x), r, h)
    | _ => none)
  | .lstore _ => (match st with
    | .long x :: r => e (m, i + 1, zm_s2 ls a (.long x), r, h)
    | _ => none)
  | .astore_n _ => (match st with
    | .ref x :: r => e (m, i + 1, zm_s1 ls a (.ref x), r, h)
    | _ => none)
  | .astore _ => (match st with
    | .ref x :: r => e (m, i + 1, zm_s1 ls a (.ref x), r, h)
    | _ => none)
  | .iinc _ _ => (match zm_lc ls a with
    | some (.int x) => e (m, i + 1, zm_s1 ls a (.int (x + v)), st, h)
    | _ => none)
  | .iadd => (match st with
    | .int y :: .int x :: r => e (m, i + 1, ls, .int (x + y) :: r, h)
    | _ => none)
  | .isub => (match st with
    | .int y :: .int x :: r => e (m, i + 1, ls, .int (x - y) :: r, h)
    | _ => none)
  | .imul => (match st with
    | .int y :: .int x :: r => e (m, i + 1, ls, .int (x * y) :: r, h)
    | _ => none)
  | .idiv => (match st with
    | .int y :: .int x :: r => if y = 0 then none else e (m, i + 1, ls, .int (x / y) :: r, h)
    | _ => none)
  | .irem => (match st with
    | .int y :: .int x :: r => if y = 0 then none else e (m, i + 1, ls, .int (x - x / y * y) :: r, h)
    | _ => none)
  | .iand => (match st with
    | .int y :: .int x :: r => e (m, i + 1, ls, .int (x &&& y) :: r, h)
    | _ => none)
  | .ior => (match st with
    | .int y :: .int x :: r => e (m, i + 1, ls, .int (x ||| y) :: r, h)
    | _ => none)
  | .ixor => (match st with
    | .int y :: .int x :: r => e (m, i + 1, ls, .int (x ^^^ y) :: r, h)
    | _ => none)
  | .ishl => (match st with
    | .int y :: .int x :: r => e (m, i + 1, ls, .int (x <<< (y &&& 31)) :: r, h)
    | _ => none)
  | .ishr => (match st with
    | .int y :: .int x :: r => e (m, i + 1, ls, .int (x >>> (y &&& 31)) :: r, h)
    | _ => none)
  | .iushr => (match st with
    | .int y :: .int x :: r => e (m, i + 1, ls, .int ((x.toUInt32 >>> (y.toUInt32 &&& Int32.toUInt32 31)).toInt32) :: r, h)
    | _ => none)
  | .ladd => (match st with
    | .long y :: .long x :: r => e (m, i + 1, ls, .long (x + y) :: r, h)
    | _ => none)
  | .lmul => (match st with
    | .long y :: .long x :: r => e (m, i + 1, ls, .long (x * y) :: r, h)
    | _ => none)
  | .ldiv => (match st with
    | .long y :: .long x :: r => if y = 0 then none else e (m, i + 1, ls, .long (x / y) :: r, h)
    | _ => none)
  | .lrem => (match st with
    | .long y :: .long x :: r => if y = 0 then none else e (m, i + 1, ls, .long (x - x / y * y) :: r, h)
    | _ => none)
  | .land => (match st with
    | .long y :: .long x :: r => e (m, i + 1, ls, .long (x &&& y) :: r, h)
    | _ => none)
  | .lor => (match st with
    | .long y :: .long x :: r => e (m, i + 1, ls, .long (x ||| y) :: r, h)
    | _ => none)
  | .lshl => (match st with
    | .int y :: .long x :: r => e (m, i + 1, ls, .long (x <<< (y.toInt64 &&& 63)) :: r, h)
    | _ => none)
  | .lushr => (match st with
    | .int y :: .long x :: r => e (m, i + 1, ls, .long ((x.toUInt64 >>> (y.toInt64.toUInt64 &&& Int64.toUInt64 63)).toInt64) :: r, h)
    | _ => none)
  | .lcmp => (match st with
    | .long y :: .long x :: r => e (m, i + 1, ls, .int (lg_cmp x y) :: r, h)
    | _ => none)
  | .i2l => (match st with
    | .int x :: r => e (m, i + 1, ls, .long x.toInt64 :: r, h)
    | _ => none)
  | .l2i => (match st with
    | .long x :: r => e (m, i + 1, ls, .int x.toInt32 :: r, h)
    | _ => none)
  | .dup => (match st with
    | .int x :: r => e (m, i + 1, ls, .int x :: .int x :: r, h)
    | .ref x :: r => e (m, i + 1, ls, .ref x :: .ref x :: r, h)
    | _ => none)
  | .dup2 => (match st with
    | .int y :: .ref x :: r => e (m, i + 1, ls, .int y :: .ref x :: .int y :: .ref x :: r, h)
    | _ => none)
  | .pop => (match st with
    | .int _ :: r => e (m, i + 1, ls, r, h)
    | .ref _ :: r => e (m, i + 1, ls, r, h)
    | _ => none)
  | .goto _ => e (m, a, ls, st, h)
  | .if_icmp .eq _ => (match st with
    | .int y :: .int x :: r => if x = y then e (m, a, ls, r, h) else e (m, i + 1, ls, r, h)
    | _ => none)
  | .if_icmp .ne _ => (match st with
    | .int y :: .int x :: r => if x = y then e (m, i + 1, ls, r, h) else e (m, a, ls, r, h)
    | _ => none)
  | .if_icmp .lt _ => (match st with
    | .int y :: .int x :: r => if x < y then e (m, a, ls, r, h) else e (m, i + 1, ls, r, h)
    | _ => none)
  | .if_icmp .ge _ => (match st with
    | .int y :: .int x :: r => if y ≤ x then e (m, a, ls, r, h) else e (m, i + 1, ls, r, h)
    | _ => none)
  | .if_icmp .gt _ => (match st with
    | .int y :: .int x :: r => if y < x then e (m, a, ls, r, h) else e (m, i + 1, ls, r, h)
    | _ => none)
  | .if_icmp .le _ => (match st with
    | .int y :: .int x :: r => if x ≤ y then e (m, a, ls, r, h) else e (m, i + 1, ls, r, h)
    | _ => none)
  | .ifCond .eq _ => (match st with
    | .int x :: r => if x = 0 then e (m, a, ls, r, h) else e (m, i + 1, ls, r, h)
    | _ => none)
  | .ifCond .ne _ => (match st with
    | .int x :: r => if x = 0 then e (m, i + 1, ls, r, h) else e (m, a, ls, r, h)
    | _ => none)
  | .ifCond .lt _ => (match st with
    | .int x :: r => if x < 0 then e (m, a, ls, r, h) else e (m, i + 1, ls, r, h)
    | _ => none)
  | .ifCond .ge _ => (match st with
    | .int x :: r => if 0 ≤ x then e (m, a, ls, r, h) else e (m, i + 1, ls, r, h)
    | _ => none)
  | .ifCond .gt _ => (match st with
    | .int x :: r => if 0 < x then e (m, a, ls, r, h) else e (m, i + 1, ls, r, h)
    | _ => none)
  | .ifCond .le _ => (match st with
    | .int x :: r => if x ≤ 0 then e (m, a, ls, r, h) else e (m, i + 1, ls, r, h)
    | _ => none)
  | .tableswitch _ _ _ _ => (match st with
    | .int x :: r => e (m, zm_sw ts a v x, ls, r, h)
    | _ => none)
  | .getfield _ => (match st with
    | .ref o :: r => (match c with
      | 0 => (zm_gI h o a b).bind fun x => e (m, i + 1, ls, .int x :: r, h)
      | _ => (zm_gR h o a b).bind fun x => e (m, i + 1, ls, .ref x :: r, h))
    | _ => none)
  | .putfield _ => (match c with
    | 0 => (match st with
      | .int x :: .ref o :: r => (zm_pt h o a b (.int x)).bind fun h' => e (m, i + 1, ls, r, h')
      | _ => none)
    | _ => (match st with
      | .ref x :: .ref o :: r => (zm_pt h o a b (.ref x)).bind fun h' => e (m, i + 1, ls, r, h')
      | _ => none))
  | .iaload => (match st with
    | .int x :: .ref o :: r => (zm_aI h o x).bind fun y => e (m, i + 1, ls, .int y :: r, h)
    | .int x :: .float _ :: r => (zm_ix x sc.1).bind fun k => e (m, i + 1, ls, .int (sc.2 k) :: r, h)
    | _ => none)
  | .laload => (match st with
    | .int x :: .ref o :: r => (zm_aL h o x).bind fun y => e (m, i + 1, ls, .long y :: r, h)
    | _ => none)
  | .baload => (match st with
    | .int x :: .ref o :: r => (zm_aZ h o x).bind fun y => e (m, i + 1, ls, .int y :: r, h)
    | _ => none)
  | .aaload => (match st with
    | .int x :: .ref o :: r => (zm_aR h o x).bind fun y => e (m, i + 1, ls, .ref y :: r, h)
    | _ => none)
  | .iastore => (match st with
    | .int y :: .int x :: .ref o :: r => (zm_sI h o x y).bind fun h' => e (m, i + 1, ls, r, h')
    | _ => none)
  | .lastore => (match st with
    | .long y :: .int x :: .ref o :: r => (zm_sL h o x y).bind fun h' => e (m, i + 1, ls, r, h')
    | _ => none)
  | .bastore => (match st with
    | .int y :: .int x :: .ref o :: r => (zm_sZ h o x y).bind fun h' => e (m, i + 1, ls, r, h')
    | _ => none)
  | .aastore => (match st with
    | .ref y :: .int x :: .ref o :: r => (zm_sR h o x y).bind fun h' => e (m, i + 1, ls, r, h')
    | _ => none)
  | .arraylength => (match st with
    | .ref o :: r => (zm_ln h o).bind fun n => e (m, i + 1, ls, .int (Int32.ofNat n) :: r, h)
    | .float _ :: r => e (m, i + 1, ls, .int (Int32.ofNat sc.1) :: r, h)
    | _ => none)
  | .new _ => (match c with
    | 0 => e (m, i + 1, ls, .ref h.1 :: st, zm_nw h (.inr (a, zm_ds a)) (zm_cl a).2.2)
    | _ => (match st with
      | [] => some (.inr a, zm_th h)
      | _ => none))
  | .newarray _ => (match st with
    | .int x :: r => (zm_ix x 100001).bind fun k => (match a with
      | 0 => e (m, i + 1, ls, .ref h.1 :: r, zm_nw h (.inl (.int, k, .inl fun _ => 0)) k)
      | 1 => e (m, i + 1, ls, .ref h.1 :: r, zm_nw h (.inl (.long, k, .inr (.inl fun _ => 0))) k)
      | _ => e (m, i + 1, ls, .ref h.1 :: r, zm_nw h (.inl (.boolean, k, .inl fun _ => 0)) k))
    | _ => none)
  | .anewarray _ => (match st with
    | .int x :: r => (zm_ix x 100001).bind fun k => e (m, i + 1, ls, .ref h.1 :: r, zm_nw h (.inl (.object RX1, k, .inr (.inr fun _ => none))) k)
    | _ => none)
  | .invokevirtual _ => (zm_pa b [] st).bind fun q => (match q.2 with
    | .ref o :: r => (match zm_is h o (ts.headD 0) && Nat.ble (zm_cs r) 8 with
      | true => zm_rt c e m i ls r (zm_call e a (.ref o :: q.1) h)
      | false => none)
    | _ => none)
  | .invokestatic _ => (match a with
    | 1000 => (match st with
      | .int n :: .int dp :: .ref d :: .int sp :: .ref s :: r => (match Nat.ble (zm_cs r) 8 with
        | true => (zm_cp h s sp d dp n).bind fun h' => e (m, i + 1, ls, r, h')
        | false => none)
      | _ => none)
    | 1003 => (match st with
      | .int y :: .int x :: r => (match Nat.ble (zm_cs r) 8 with
        | true => e (m, i + 1, ls, .int (if y < x then y else x) :: r, h)
        | false => none)
      | _ => none)
    | a => (zm_pa b [] st).bind fun q => (match Nat.ble (zm_cs q.2) 8 with
      | true => zm_rt c e m i ls q.2 (zm_call e a q.1 h)
      | false => none))
  | .invokespecial _ => (match a with
    | 1001 => (match st with
      | .ref _ :: r => (match Nat.ble (zm_cs r) 8 with
        | true => e (m, i + 1, ls, r, h)
        | false => none)
      | _ => none)
    | 1002 => none
    | a => (zm_pa b [] st).bind fun q => (match q.2 with
      | .ref o :: r => (match Nat.ble (zm_cs r) 8 with
        | true => zm_rt c e m i ls r (zm_call e a (.ref o :: q.1) h)
        | false => none)
      | _ => none))
  | .ireturn => (match st with
    | [.int x] => (match a with
      | 0 => some (.inl (some (.int x)), h)
      | _ => zm_bo x h)
    | _ => none)
  | .areturn => (match st with
    | [.ref x] => some (.inl (some (.ref x)), h)
    | _ => none)
  | .return_ => (match st with
    | [] => some (.inl none, h)
    | _ => none)
  | _ => none
def zm_F (sc : Nat × (Nat → Int32)) (e : zm_K) : zm_K := fun x => match x with
  | (m, i, ls, st, h) => match (zm_cd m)[i]? with
    | none => none
    | some (_, ins, _, a, b, c, v, w, ts) => zm_G sc e m i ls st h ins a b c v w ts
/-- n steps of depth and length -/
def zm_run (sc : Nat × (Nat → Int32)) : Nat → zm_K
  | 0 => fun _ => none
  | n + 1 => zm_F sc (zm_run sc n)
end
section
/-! WHAT THE PURE MACHINE'S STATES SAY OF THE MACHINE'S: values by the addresses of the world's cells; the script is .float -/
def zs_v (b : Nat) (as : List Nat) (v w : Value) : Prop := match v with
  | .int x => w = .int x
  | .long x => w = .long x
  | .null => w = .null
  | .ref h => ∃ a, as[h]? = some a ∧ w = .ref a
  | .float _ => w = .ref b
  | _ => False
def zs_vs (b : Nat) (as : List Nat) : List Value → List Value → Prop
  | [], [] => True
  | v :: vs, w :: ws => zs_v b as v w ∧ zs_vs b as vs ws
  | _, _ => False
def zs_c (b : Nat) (as : List Nat) (tys : List (ClassId × FieldType)) (c : zm_C) (e : va_E) : Prop := match c with
  | .inl (ty, n, .inl f) => ∃ (cA : ClassId) (t : Nat), e = .inl (cA, n, .inl f) ∧ tys[t]? = some (cA, ty)
  | .inl (ty, n, .inr (.inl f)) => ∃ (cA : ClassId) (t : Nat), e = .inl (cA, n, .inr (.inl f)) ∧ tys[t]? = some (cA, ty)
  | .inl (ty, n, .inr (.inr f)) => ∃ (cA : ClassId) (t : Nat) (g : Nat → Option Nat), e = .inl (cA, n, .inr (.inr (.inr (.inr g)))) ∧ tys[t]? = some (cA, ty) ∧ ∀ i, match f i with
      | none => g i = none
      | some k => ∃ a, as[k]? = some a ∧ g i = some a
  | .inr (ci, fs) => ∃ gs, e = .inr (ci, gs) ∧ zs_vs b as fs gs
def zs_h (b : Nat) (ws : va_W) (tys : List (ClassId × FieldType)) (h : zm_H) : Prop := h.1 = ws.length ∧ ∀ (i : Nat) (q : Nat × va_E), ws[i]? = some q → zs_c b (ws.map Prod.fst) tys (h.2.1 i) q.2
def zs_l (b : Nat) (as : List Nat) (ls : zm_L) (rls : Array Slot) : Prop := rls.size = ls.length ∧ lv_wf rls ∧ ∀ (i : Nat) (v : Value), zm_lc ls i = some v → ∃ w, rls[i]? = some (.val w) ∧ zs_v b as v w
def zs_o (b : Nat) (as : List Nat) : Option Value → Option Value → Prop
  | none, none => True
  | some v, some w => zs_v b as v w
  | _, _ => False
theorem zs_px {as t : List Nat} {k a : Nat} (e : as[k]? = some a) : (as ++ t)[k]? = some a := by
  obtain ⟨h1, h2⟩ := List.getElem?_eq_some_iff.mp e
  rw [List.getElem?_append_left h1]
  exact e
theorem zs_v.ap {b : Nat} {as : List Nat} {v w : Value} (t : List Nat) (h : zs_v b as v w) : zs_v b (as ++ t) v w := by
  cases v with
  | ref k => obtain ⟨a, h1, h2⟩ := h; exact ⟨a, zs_px h1, h2⟩
  | int x => exact h
  | long x => exact h
  | null => exact h
  | float x => exact h
  | double x => exact h
  | retAddr x => exact h
theorem zs_vs.ap {b : Nat} {as : List Nat} (t : List Nat) : ∀ {vs ws : List Value}, zs_vs b as vs ws → zs_vs b (as ++ t) vs ws
  | [], [], _ => trivial
  | _ :: _, _ :: _, h => ⟨h.1.ap t, zs_vs.ap t h.2⟩
  | [], _ :: _, h => h.elim
  | _ :: _, [], h => h.elim
theorem zs_c.ap {b : Nat} {as : List Nat} {tys : List (ClassId × FieldType)} {c : zm_C} {e : va_E} (t : List Nat) (u : List (ClassId × FieldType)) (h : zs_c b as tys c e) : zs_c b (as ++ t) (tys ++ u) c e := by
  have hu : ∀ {k : Nat} {q : ClassId × FieldType}, tys[k]? = some q → (tys ++ u)[k]? = some q := by
    intro k q e
    obtain ⟨h1, h2⟩ := List.getElem?_eq_some_iff.mp e
    rw [List.getElem?_append_left h1]
    exact e
  match c, h with
  | .inl (ty, n, .inl f), h => obtain ⟨cA, k, h1, h2⟩ := h; exact ⟨cA, k, h1, hu h2⟩
  | .inl (ty, n, .inr (.inl f)), h => obtain ⟨cA, k, h1, h2⟩ := h; exact ⟨cA, k, h1, hu h2⟩
  | .inl (ty, n, .inr (.inr f)), h =>
    obtain ⟨cA, k, g, h1, h2, h3⟩ := h
    refine ⟨cA, k, g, h1, hu h2, fun i => ?_⟩
    have h4 := h3 i
    revert h4
    cases f i with
    | none => exact id
    | some z => rintro ⟨a, e1, e2⟩; exact ⟨a, zs_px e1, e2⟩
  | .inr (ci, fs), h => obtain ⟨gs, h1, h2⟩ := h; exact ⟨gs, h1, h2.ap t⟩
theorem zs_l.ap {b : Nat} {as : List Nat} {ls : zm_L} {rls : Array Slot} (t : List Nat) (h : zs_l b as ls rls) : zs_l b (as ++ t) ls rls :=
  ⟨h.1, h.2.1, fun i v hv => by obtain ⟨w, h1, h2⟩ := h.2.2 i v hv; exact ⟨w, h1, h2.ap t⟩⟩
theorem zs_vs.get {b : Nat} {as : List Nat} : ∀ {vs ws : List Value} {k : Nat} {v : Value}, zs_vs b as vs ws → vs[k]? = some v → ∃ w, ws[k]? = some w ∧ zs_v b as v w
  | [], [], _, _, _, h => by simp at h
  | a :: vs, c :: ws, 0, v, h, hk => by
    simp only [List.getElem?_cons_zero, Option.some.injEq] at hk
    subst hk
    exact ⟨c, rfl, h.1⟩
  | a :: vs, c :: ws, k + 1, v, h, hk => by
    simp only [List.getElem?_cons_succ] at hk ⊢
    exact zs_vs.get h.2 hk
  | [], _ :: _, _, _, h, _ => h.elim
  | _ :: _, [], _, _, h, _ => h.elim
theorem zs_vs.set {b : Nat} {as : List Nat} : ∀ {vs ws : List Value} (k : Nat) {v w : Value}, zs_vs b as vs ws → zs_v b as v w → zs_vs b as (vs.set k v) (ws.set k w)
  | [], [], _, _, _, _, _ => trivial
  | _ :: _, _ :: _, 0, _, _, h, hv => ⟨hv, h.2⟩
  | _ :: _, _ :: _, k + 1, _, _, h, hv => ⟨h.1, zs_vs.set k h.2 hv⟩
  | [], _ :: _, _, _, _, h, _ => h.elim
  | _ :: _, [], _, _, _, h, _ => h.elim
theorem zs_vs.len {b : Nat} {as : List Nat} : ∀ {vs ws : List Value}, zs_vs b as vs ws → vs.length = ws.length
  | [], [], _ => rfl
  | _ :: _, _ :: _, h => congrArg (· + 1) (zs_vs.len h.2)
  | [], _ :: _, h => h.elim
  | _ :: _, [], h => h.elim
theorem zs_vs.app {b : Nat} {as : List Nat} : ∀ {v1 w1 v2 w2 : List Value}, zs_vs b as v1 w1 → zs_vs b as v2 w2 → zs_vs b as (v1 ++ v2) (w1 ++ w2)
  | [], [], _, _, _, h => h
  | _ :: _, _ :: _, _, _, h1, h2 => ⟨h1.1, zs_vs.app h1.2 h2⟩
  | [], _ :: _, _, _, h, _ => h.elim
  | _ :: _, [], _, _, h, _ => h.elim
theorem zs_v.cat {b : Nat} {as : List Nat} {v w : Value} (h : zs_v b as v w) : v.category = w.category := by
  cases v with
  | ref k => obtain ⟨a, h1, rfl⟩ := h; rfl
  | int x => rw [show w = .int x from h]
  | long x => rw [show w = .long x from h]; 
  | null => rw [show w = .null from h]
  | float x => rw [show w = .ref b from h]; rfl
  | double x => exact h.elim
  | retAddr x => exact h.elim
theorem zs_vs.cat {b : Nat} {as : List Nat} : ∀ {vs ws : List Value}, zs_vs b as vs ws → (vs.map fun v => v.category).sum = (ws.map fun v => v.category).sum
  | [], [], _ => rfl
  | _ :: _, _ :: _, h => by simp only [List.map_cons, List.sum_cons]; rw [h.1.cat, zs_vs.cat h.2]
  | [], _ :: _, h => h.elim
  | _ :: _, [], h => h.elim
/-- the arguments off the stack -/
theorem zs_pa {b : Nat} {as : List Nat} : ∀ (n : Nat) (acc st racc rst : List Value) (q : List Value × List Value), zm_pa n acc st = some q → zs_vs b as acc racc → zs_vs b as st rst → ∃ pops rr, rst = pops ++ rr ∧ zs_vs b as q.1 (pops.reverse ++ racc) ∧ zs_vs b as q.2 rr ∧ pops.length = n
  | 0, acc, st, racc, rst, q, h, ha, hs => by
    simp only [zm_pa, Option.some.injEq] at h
    subst h
    exact ⟨[], rst, rfl, ha, hs, rfl⟩
  | n + 1, acc, [], racc, rst, q, h, ha, hs => by simp [zm_pa] at h
  | n + 1, acc, v :: st, racc, [], q, h, ha, hs => hs.elim
  | n + 1, acc, v :: st, racc, w :: rst, q, h, ha, hs => by
    simp only [zm_pa] at h
    obtain ⟨pops, rr, h1, h2, h3, h4⟩ := zs_pa n (v :: acc) st (w :: racc) rst q h ⟨hs.1, ha⟩ hs.2
    refine ⟨w :: pops, rr, by rw [h1]; rfl, ?_, h3, by simp [h4]⟩
    simpa using h2
theorem zs_sl_cons (v : Value) (vs : List Value) : lg_sl (v :: vs) = (if v.category = 2 then [.val v, .second] else [.val v]) ++ lg_sl vs := by
  simp [lg_sl]
theorem zs_ar (k : Nat) (v : Value) (vs : List Value) : lv_args k (v :: vs) = (k, v) :: lv_args (if v.category = 2 then k + 2 else k + 1) vs := rfl
/-- a method's first locals -/
theorem zs_fl {b : Nat} {as : List Nat} : ∀ (vs rvs : List Value), zs_vs b as vs rvs → (zm_fl vs).length = (lg_sl rvs).length ∧ ∀ (k i : Nat) (v : Value), (zm_fl vs)[i]? = some (some v) → ∃ w, (k + i, w) ∈ lv_args k rvs ∧ zs_v b as v w
  | [], [], _ => ⟨rfl, fun k i v h => by simp [zm_fl] at h⟩
  | [], _ :: _, h => h.elim
  | _ :: _, [], h => h.elim
  | v :: vs, w :: ws, h => by
    obtain ⟨h1, h2⟩ := zs_fl vs ws h.2
    have hc := h.1.cat
    by_cases h3 : w.category = 2
    · have e : zm_fl (v :: vs) = some v :: none :: zm_fl vs := by
        rw [h3] at hc
        cases v <;> first | rfl | (simp [Value.category] at hc)
      rw [e, zs_sl_cons, if_pos h3]
      refine ⟨by simp [h1], fun k i u hu => ?_⟩
      rw [zs_ar, if_pos h3]
      match i, hu with
      | 0, hu =>
        simp only [List.getElem?_cons_zero, Option.some.injEq] at hu
        subst hu
        exact ⟨w, List.mem_cons_self, h.1⟩
      | 1, hu => simp at hu
      | i + 2, hu =>
        simp only [List.getElem?_cons_succ] at hu
        obtain ⟨x, hx, hx2⟩ := h2 (k + 2) i u hu
        refine ⟨x, List.mem_cons_of_mem _ ?_, hx2⟩
        rw [show k + (i + 2) = k + 2 + i by omega]
        exact hx
    · have e : zm_fl (v :: vs) = some v :: zm_fl vs := by
        rw [← hc] at h3
        cases v <;> first | rfl | (exact absurd rfl h3)
      rw [e, zs_sl_cons, if_neg h3]
      refine ⟨by simp [h1], fun k i u hu => ?_⟩
      rw [zs_ar, if_neg h3]
      match i, hu with
      | 0, hu =>
        simp only [List.getElem?_cons_zero, Option.some.injEq] at hu
        subst hu
        exact ⟨w, List.mem_cons_self, h.1⟩
      | i + 1, hu =>
        simp only [List.getElem?_cons_succ] at hu
        obtain ⟨x, hx, hx2⟩ := h2 (k + 1) i u hu
        refine ⟨x, List.mem_cons_of_mem _ ?_, hx2⟩
        rw [show k + (i + 1) = k + 1 + i by omega]
        exact hx
theorem zs_in {b : Nat} {as : List Nat} {n : Nat} {vs rvs : List Value} (h : zs_vs b as vs rvs) (hl : (zm_in n vs).length = n) : (lg_sl rvs).length ≤ n ∧ ∀ (i : Nat) (v : Value), zm_lc (zm_in n vs) i = some v → ∃ w, (i, w) ∈ lv_args 0 rvs ∧ zs_v b as v w := by
  obtain ⟨h1, h2⟩ := zs_fl vs rvs h
  refine ⟨?_, fun i v hi => ?_⟩
  · rw [← h1]
    simp only [zm_in, List.length_append, List.length_replicate] at hl
    omega
  · have h3 : (zm_fl vs)[i]? = some (some v) := by
      simp only [zm_lc, zm_in] at hi
      rcases Nat.lt_or_ge i (zm_fl vs).length with h4 | h4
      · rw [List.getElem?_append_left h4] at hi
        cases h5 : (zm_fl vs)[i]? with
        | none => rw [h5] at hi; cases hi
        | some o => rw [h5] at hi; exact congrArg some hi
      · rw [List.getElem?_append_right h4] at hi
        split at hi
        · rename_i o ho
          rw [List.getElem?_replicate] at ho
          split at ho
          · cases ho; cases hi
          · cases ho
        · cases hi
    obtain ⟨w, hw, hv⟩ := h2 0 i v h3
    exact ⟨w, by simpa using hw, hv⟩
theorem zs_entry {b : Nat} {as : List Nat} {n : Nat} {vs rvs : List Value} (h : zs_vs b as vs rvs) (hl : (zm_in n vs).length = n) : zs_l b as (zm_in n vs) (lg_sl rvs ++ List.replicate (n - (lg_sl rvs).length) Slot.unset).toArray := by
  obtain ⟨h1, h2⟩ := zs_in h hl
  obtain ⟨e1, e2, e3⟩ := lv_entry rvs h1
  refine ⟨by rw [e1, hl], e2, fun i v hi => ?_⟩
  obtain ⟨w, hw, hv⟩ := h2 i v hi
  exact ⟨w, e3 _ hw, hv⟩
/-- all that a frame's locals hold, as a list -/
def zs_all (rls : Array Slot) : List (Nat × Value) := (List.range rls.size).filterMap fun (i : Nat) => match rls[i]? with
  | some (.val w) => some (i, w)
  | _ => none
theorem zs_all_mem {rls : Array Slot} {i : Nat} {w : Value} (h : rls[i]? = some (.val w)) : (i, w) ∈ zs_all rls := by
  refine List.mem_filterMap.mpr ⟨i, List.mem_range.mpr (Array.getElem?_eq_some_iff.mp h).1, ?_⟩
  rw [h]
theorem zs_all_has {rls : Array Slot} (hw : lv_wf rls) : lv_has rls rls.size (zs_all rls) := by
  refine ⟨rfl, hw, fun q hq => ?_⟩
  obtain ⟨i, -, h⟩ := List.mem_filterMap.mp hq
  split at h
  · rename_i w hw
    cases h
    exact hw
  · cases h
theorem zs_cut_len (ls : zm_L) (i : Nat) : (zm_cut ls i).length = ls.length := by
  unfold zm_cut
  split
  · rfl
  · split <;> simp
theorem zm_lc_set (ls : zm_L) (i j : Nat) (o : Option Value) : zm_lc (ls.set i o) j = if i = j ∧ i < ls.length then o else zm_lc ls j := by
  unfold zm_lc
  rw [List.getElem?_set]
  by_cases h : i = j
  · subst h
    by_cases h2 : i < ls.length
    · simp [h2]
    · simp [h2]
  · simp [h]
theorem zm_lc_cut {ls : zm_L} {i j : Nat} {v : Value} (h : zm_lc (zm_cut ls i) j = some v) : zm_lc ls j = some v ∧ ¬ (j + 1 = i ∧ v.category = 2) := by
  unfold zm_cut at h
  split at h
  · exact ⟨h, fun q => by omega⟩
  · rename_i i' k
    split at h
    · rename_i x hx
      rw [zm_lc_set] at h
      split at h
      · cases h
      · rename_i hn
        refine ⟨h, fun q => hn ⟨by omega, ?_⟩⟩
        unfold zm_lc at hx
        split at hx
        · rename_i o ho
          exact (List.getElem?_eq_some_iff.mp ho).1
        · cases hx
    · rename_i x hx
      rw [zm_lc_set] at h
      split at h
      · cases h
      · rename_i hn
        refine ⟨h, fun q => hn ⟨by omega, ?_⟩⟩
        unfold zm_lc at hx
        split at hx
        · rename_i o ho
          exact (List.getElem?_eq_some_iff.mp ho).1
        · cases hx
    · rename_i hx1 hx2
      refine ⟨h, fun q => ?_⟩
      obtain ⟨q1, q2⟩ := q
      have : j = k := by omega
      subst this
      cases v with
      | long x => exact hx1 x h
      | double x => exact hx2 x h
      | int x => simp [Value.category] at q2
      | float x => simp [Value.category] at q2
      | null => simp [Value.category] at q2
      | ref x => simp [Value.category] at q2
      | retAddr x => simp [Value.category] at q2
/-- one slot is written -/
theorem zs_l.put1 {b : Nat} {as : List Nat} {ls : zm_L} {rls rls' : Array Slot} {i : Nat} {v w : Value} (h : zs_l b as ls rls) (hv : zs_v b as v w) (h' : lv_has rls' rls.size ((i, w) :: (zs_all rls).filter (fun q => !(q.1 == i) && !(q.1 + 1 == i && q.2.category == 2)))) : zs_l b as (zm_s1 ls i v) rls' := by
  obtain ⟨e1, e2, e3⟩ := h'
  refine ⟨by rw [e1, h.1]; simp [zm_s1, zs_cut_len], e2, fun j u hu => ?_⟩
  unfold zm_s1 at hu
  rw [zm_lc_set] at hu
  split at hu
  · rename_i hj
    cases hu
    exact ⟨w, by have := e3 _ List.mem_cons_self; rw [← hj.1]; exact this, hv⟩
  · rename_i hj
    obtain ⟨h1, h2⟩ := zm_lc_cut hu
    obtain ⟨x, hx, hx2⟩ := h.2.2 j u h1
    have hji : ¬ j = i := by
      intro q
      subst q
      refine hj ⟨rfl, ?_⟩
      rw [zs_cut_len, ← h.1]
      exact (Array.getElem?_eq_some_iff.mp hx).1
    refine ⟨x, e3 (j, x) (List.mem_cons_of_mem _ (List.mem_filter.mpr ⟨zs_all_mem hx, ?_⟩)), hx2⟩
    rw [hx2.cat] at h2
    by_cases q : j + 1 = i
    · have : ¬ x.category = 2 := fun q2 => h2 ⟨q, q2⟩
      simp [hji, this]
    · simp [hji, q]
/-- a slot is lost -/
theorem zs_l.put0 {b : Nat} {as : List Nat} {ls : zm_L} {rls rls' : Array Slot} {i : Nat} {w : Value} (h : zs_l b as ls rls) (h' : lv_has rls' rls.size ((i, w) :: (zs_all rls).filter (fun q => !(q.1 == i) && !(q.1 + 1 == i && q.2.category == 2)))) : zs_l b as (zm_s0 ls i) rls' := by
  obtain ⟨e1, e2, e3⟩ := h'
  refine ⟨by rw [e1, h.1]; simp [zm_s0, zs_cut_len], e2, fun j u hu => ?_⟩
  unfold zm_s0 at hu
  rw [zm_lc_set] at hu
  split at hu
  · cases hu
  · rename_i hj
    obtain ⟨h1, h2⟩ := zm_lc_cut hu
    obtain ⟨x, hx, hx2⟩ := h.2.2 j u h1
    have hji : ¬ j = i := by
      intro q
      subst q
      refine hj ⟨rfl, ?_⟩
      rw [zs_cut_len, ← h.1]
      exact (Array.getElem?_eq_some_iff.mp hx).1
    refine ⟨x, e3 (j, x) (List.mem_cons_of_mem _ (List.mem_filter.mpr ⟨zs_all_mem hx, ?_⟩)), hx2⟩
    rw [hx2.cat] at h2
    by_cases q : j + 1 = i
    · have : ¬ x.category = 2 := fun q2 => h2 ⟨q, q2⟩
      simp [hji, this]
    · simp [hji, q]
/-- two slots are written -/
theorem zs_l.put2 {b : Nat} {as : List Nat} {ls : zm_L} {rls rls' : Array Slot} {i : Nat} {v w : Value} (h : zs_l b as ls rls) (hv : zs_v b as v w) (h' : lv_has rls' rls.size ((i, w) :: (zs_all rls).filter (fun q => !(q.1 == i) && (!(q.1 == i + 1) && !(q.1 + 1 == i && q.2.category == 2))))) : zs_l b as (zm_s2 ls i v) rls' := by
  obtain ⟨e1, e2, e3⟩ := h'
  refine ⟨by rw [e1, h.1]; simp [zm_s2, zs_cut_len], e2, fun j u hu => ?_⟩
  unfold zm_s2 at hu
  rw [zm_lc_set] at hu
  split at hu
  · cases hu
  rename_i hj1
  rw [zm_lc_set] at hu
  split at hu
  · rename_i hj
    cases hu
    exact ⟨w, by have := e3 _ List.mem_cons_self; rw [← hj.1]; exact this, hv⟩
  · rename_i hj
    obtain ⟨h1, h2⟩ := zm_lc_cut hu
    obtain ⟨x, hx, hx2⟩ := h.2.2 j u h1
    have hlt := (Array.getElem?_eq_some_iff.mp hx).1
    have hji : ¬ j = i := by
      intro q
      subst q
      refine hj ⟨rfl, ?_⟩
      rw [zs_cut_len, ← h.1]
      exact hlt
    have hji1 : ¬ j = i + 1 := by
      intro q
      subst q
      refine hj1 ⟨rfl, ?_⟩
      rw [List.length_set, zs_cut_len, ← h.1]
      exact hlt
    refine ⟨x, e3 (j, x) (List.mem_cons_of_mem _ (List.mem_filter.mpr ⟨zs_all_mem hx, ?_⟩)), hx2⟩
    rw [hx2.cat] at h2
    by_cases q : j + 1 = i
    · have : ¬ x.category = 2 := fun q2 => h2 ⟨q, q2⟩
      simp [hji, hji1, this]
    · simp [hji, hji1, q]
end
section
/-! THE MACHINE FOLLOWS THE PURE MACHINE: what is known at a method's place, and the instructions that touch no heap. -/
def zm_GW : List Cond := lw_tbl.filter goodWord
def zm_pc (m i : Nat) : Option Nat := match (zm_cd m)[i]? with
  | some e => some e.1
  | none => none
def zs_N (A : Nat → Prop) (U : State) (H : Heap) : Prop :=
  (∀ q ∈ zm_nest, va_Nw (.methodLinkNest q.1 q.2.1 q.2.2.1 q.2.2.2) U) ∧ va_AO RX1 U ∧ (∀ q ∈ zm_tx, ∃ a, vk_R RX7 q.1 q.2 a U) ∧
  (∀ x, x < 3 → va_Nw (.castable (zm_ex x) (zm_ex x)) U) ∧ (∀ x y, x < 3 → y < 3 → x ≠ y → va_Nc (zm_ex x) (zm_ex y) U) ∧
  vx_Zq Bundle.tN "UNASSIGNED_STACK" Bundle.steD A U H ∧ vx_Zq Bundle.tN "SUPPRESSED_SENTINEL" Bundle.listD A U H ∧ ∀ x ∈ zm_dcl, va_Nw (.declares x) U
theorem zs_N.to {A A' : Nat → Prop} {s U : State} {H H' : Heap} (hW : s.WarmedH U.vm) (hk : ∀ a : Nat, a < H.size → ¬ A a → H'[a]? = H[a]?) (hA : ∀ q, A' q → A q) (h : zs_N A s H) : zs_N A' U H' :=
  ⟨fun q hq => va_Nw.warmM hW (h.1 q hq), va_AO.moved hW.alike h.2.1, fun q hq => by obtain ⟨a, ha⟩ := h.2.2.1 q hq; exact ⟨a, vk_R.warm hW ha⟩, fun x hx => va_Nw.warmC hW (h.2.2.2.1 x hx),
    fun x y hx hy hn => va_Nc.moved hW.alike (h.2.2.2.2.1 x y hx hy hn), ((vx_Zq.moved hW.alike h.2.2.2.2.2.1).kept hk).narrow hA, ((vx_Zq.moved hW.alike h.2.2.2.2.2.2.1).kept hk).narrow hA, fun x hx => va_Nw.warmD hW (h.2.2.2.2.2.2.2 x hx)⟩
def zs_X (l : Launch) (p : Program) (R : Room) (s : State) (mid : MethodId) (args : Array Value) (meth : Method) (c : Code) (m b L : Nat) (xs : Nat → Int32) (A : Nat → Prop) : Prop :=
  p.tables.exec = Jvm.exec ∧ c.code = zm_by m ∧ meth.sig.returnType = zm_re m ∧ meth.locks = false ∧ c.maxLocals = zm_ml m ∧ s.vm.findClass (zm_ow m) = some mid.cls ∧ ((zm_nm m).name = "<init>" → meth.name = "<init>") ∧
  (∀ w ∈ zm_GW, w.before args s = true) ∧ zs_N A s s.heap ∧ va_X b L xs s s.heap ∧ b < s.heap.size ∧ ¬ A b ∧ (∀ q, s.heap.size ≤ q → A q) ∧ l.stackTraces = false ∧ zm_rf m ≤ R.frames ∧ zm_rl m ≤ R.locals
def zs_W (b : Nat) (dC : Nat → ClassId) (dI : Nat → Nat → Nat) (ws : va_W) (tys : List (ClassId × FieldType)) (A : Nat → Prop) (s : State) (H : Heap) (locs : List Loc) (h : zm_H) : Prop :=
  va_P (dC, dI) vwCl ws H ∧ va_K (dC, dI) vwCl tys s ∧ va_D A ws ∧ va_S A s.heap H locs ∧ zs_h b ws tys h
/-- the world at a method's end -/
def zs_E (b : Nat) (dC : Nat → ClassId) (dI : Nat → Nat → Nat) (as0 : List Nat) (A : Nat → Prop) (ws : va_W) (tys : List (ClassId × FieldType)) (h : zm_H) (t : State) : Prop :=
  (∃ t0, ws.map Prod.fst = as0 ++ t0) ∧ va_P (dC, dI) vwCl ws t.heap ∧ va_K (dC, dI) vwCl tys t ∧ va_D A ws ∧ zs_h b ws tys h
def zs_Q (b : Nat) (dC : Nat → ClassId) (dI : Nat → Nat → Nat) (as0 : List Nat) (A : Nat → Prop) (r : zm_R) : Array Value → State → Outcome → State → Prop := fun _ st o t =>
  (∃ (v ov : Option Value) (ws : va_W) (tys : List (ClassId × FieldType)), o = .returned ov ∧ r.1 = .inl v ∧ zs_o b (ws.map Prod.fst) v ov ∧ zs_E b dC dI as0 A ws tys r.2 t) ∧ va_F A st t
def zs_T (b : Nat) (dC : Nat → ClassId) (dI : Nat → Nat → Nat) (as0 : List Nat) (A : Nat → Prop) (r : zm_R) : String → State → State → Prop := fun E st t =>
  (∃ (k : Nat) (ws : va_W) (tys : List (ClassId × FieldType)), r.1 = .inr k ∧ E = zm_ex k ∧ k < 3 ∧ zs_E b dC dI as0 A ws tys r.2 t) ∧ va_F A st t
def zs_S (l : Launch) (b L : Nat) (xs : Nat → Int32) (m i : Nat) (ls : zm_L) (st : List Value) (h : zm_H) (r : zm_R) : Prop :=
  h.2.2.1 ≤ r.2.2.2.1 ∧ h.2.2.2 ≤ r.2.2.2.2 ∧ ∀ (p : Program) (e : Env) (R : Room) (s : State) (mid : MethodId) (args : Array Value) (below : List Frame) (meth : Method) (c : Code) (dC : Nat → ClassId) (dI : Nat → Nat → Nat) (A : Nat → Prop) (H : Heap) (locs : List Loc) (cells slots : Nat)
    (ws : va_W) (tys : List (ClassId × FieldType)) (rls : Array Slot) (rst : List Value) (as0 : List Nat) (kc ks mc ms pc : Nat),
    zs_X l p R s mid args meth c m b L xs A → ((zm_hh m ≠ [] ∨ ∃ k, r.1 = .inr k) → c.exceptionTable.toList = tableOf (zm_hh m)) → zs_W b dC dI ws tys A s H locs h → (∃ t0, ws.map Prod.fst = as0 ++ t0) →
    zs_l b (ws.map Prod.fst) ls rls → ls.length = zm_ml m → zs_vs b (ws.map Prod.fst) st rst → zm_pc m i = some pc →
    h.2.2.1 = kc + cells → h.2.2.2 = ks + slots → r.2.2.2.1 = kc + mc → r.2.2.2.2 = ks + ms → mc ≤ R.cells → ms ≤ R.slots →
    W p l e R s mid args below meth c H locs cells slots (vx_MQ below (zs_Q b dC dI as0 A r) (zs_T b dC dI as0 A r) args s mc ms A) (F0 mid pc rls rst)
/-- an instruction without the heap: from its place to the next -/
def zs_ST (l : Launch) (b L : Nat) (xs : Nat → Int32) (m bp : Nat) (ls : zm_L) (st : List Value) (ls' : zm_L) (pc' : Nat) (st' : List Value) : Prop :=
  ∀ (p : Program) (e : Env) (R : Room) (s : State) (mid : MethodId) (args : Array Value) (below : List Frame) (meth : Method) (c : Code) (A : Nat → Prop) (H : Heap) (locs : List Loc) (cells slots : Nat) (Q : State → Prop) (as : List Nat) (rls : Array Slot) (rst : List Value),
    zs_X l p R s mid args meth c m b L xs A → va_S A s.heap H locs → zs_l b as ls rls → ls.length = zm_ml m → zs_vs b as st rst →
    ∃ rst', zs_vs b as st' rst' ∧ ((∀ rls', zs_l b as ls' rls' → W p l e R s mid args below meth c H locs cells slots Q (F0 mid pc' rls' rst')) → W p l e R s mid args below meth c H locs cells slots Q (F0 mid bp rls rst))
theorem zs_pure {l : Launch} {b L : Nat} {xs : Nat → Int32} {m i i' bp pc' : Nat} {ls ls' : zm_L} {st st' : List Value} {h : zm_H} {r : zm_R} (hp : zm_pc m i = some bp) (hp' : zm_pc m i' = some pc') (hlen : ls'.length = ls.length) (hs : zs_ST l b L xs m bp ls st ls' pc' st') (hr : zs_S l b L xs m i' ls' st' h r) : zs_S l b L xs m i ls st h r := by
  refine ⟨hr.1, hr.2.1, ?_⟩
  intro p e R s mid args below meth c dC dI A H locs cells slots ws tys rls rst as0 kc ks mc ms pc X hT hW ha hl hml hv hpc h1 h2 h3 h4 h5 h6
  cases Option.some.inj (hp.symm.trans hpc)
  obtain ⟨rst', hv', hk⟩ := hs p e R s mid args below meth c A H locs cells slots (vx_MQ below (zs_Q b dC dI as0 A r) (zs_T b dC dI as0 A r) args s mc ms A) (ws.map Prod.fst) rls rst X hW.2.2.2.1 hl hml hv
  exact hk fun rls' hl' => hr.2.2 p e R s mid args below meth c dC dI A H locs cells slots ws tys rls' rst' as0 kc ks mc ms pc' X hT hW ha hl' (hlen.trans hml) hv' hp' h1 h2 h3 h4 h5 h6
theorem zs_int {b : Nat} {as : List Nat} {x : Int32} {vs rst : List Value} (h : zs_vs b as (.int x :: vs) rst) : ∃ ws, rst = .int x :: ws ∧ zs_vs b as vs ws := by
  match rst, h with
  | [], h => exact h.elim
  | w :: ws, h => exact ⟨ws, by rw [show w = .int x from h.1], h.2⟩
theorem zs_lng {b : Nat} {as : List Nat} {x : Int64} {vs rst : List Value} (h : zs_vs b as (.long x :: vs) rst) : ∃ ws, rst = .long x :: ws ∧ zs_vs b as vs ws := by
  match rst, h with
  | [], h => exact h.elim
  | w :: ws, h => exact ⟨ws, by rw [show w = .long x from h.1], h.2⟩
theorem zs_flt {b : Nat} {as : List Nat} {x : UInt32} {vs rst : List Value} (h : zs_vs b as (.float x :: vs) rst) : ∃ ws, rst = .ref b :: ws ∧ zs_vs b as vs ws := by
  match rst, h with
  | [], h => exact h.elim
  | w :: ws, h => exact ⟨ws, by rw [show w = .ref b from h.1], h.2⟩
theorem zs_ref {b : Nat} {as : List Nat} {x : Nat} {vs rst : List Value} (h : zs_vs b as (.ref x :: vs) rst) : ∃ a ws, rst = .ref a :: ws ∧ as[x]? = some a ∧ zs_vs b as vs ws := by
  match rst, h with
  | [], h => exact h.elim
  | w :: ws, h =>
    obtain ⟨a, h1, h2⟩ := h.1
    exact ⟨a, ws, by rw [h2], h1, h.2⟩
theorem zs_mI {b : Nat} {as : List Nat} {x : Int32} {vs ws : List Value} (h : zs_vs b as vs ws) : zs_vs b as (.int x :: vs) (.int x :: ws) := ⟨rfl, h⟩
theorem zs_mL {b : Nat} {as : List Nat} {x : Int64} {vs ws : List Value} (h : zs_vs b as vs ws) : zs_vs b as (.long x :: vs) (.long x :: ws) := ⟨rfl, h⟩
theorem zs_mF {b : Nat} {as : List Nat} {x : UInt32} {vs ws : List Value} (h : zs_vs b as vs ws) : zs_vs b as (.float x :: vs) (.ref b :: ws) := ⟨rfl, h⟩
theorem zs_mR {b : Nat} {as : List Nat} {x a : Nat} {vs ws : List Value} (h0 : as[x]? = some a) (h : zs_vs b as vs ws) : zs_vs b as (.ref x :: vs) (.ref a :: ws) := ⟨⟨a, h0, rfl⟩, h⟩
theorem zs_mV {b : Nat} {as : List Nat} {v w : Value} {vs ws : List Value} (h0 : zs_v b as v w) (h : zs_vs b as vs ws) : zs_vs b as (v :: vs) (w :: ws) := ⟨h0, h⟩
theorem zs_nil {b : Nat} {as : List Nat} {rst : List Value} (h : zs_vs b as [] rst) : rst = [] := by
  match rst, h with
  | [], _ => rfl
  | _ :: _, h => exact h.elim
theorem zt_iadd {l : Launch} {b L : Nat} {xs : Nat → Int32} {m bp : Nat} {ls : zm_L} {r : List Value} {x y : Int32} (hd : decode (zm_by m) bp = .ok (.iadd, 1)) : zs_ST l b L xs m bp ls (.int y :: .int x :: r) ls (bp + 1) (.int (x + y) :: r) := by
  intro p e R s mid args below meth c A H locs cells slots Q as rls rst X hS hl hlen hv
  obtain ⟨hx, hb, -⟩ := X
  obtain ⟨w0, e0, hv0⟩ := zs_int hv
  obtain ⟨w1, e1, hv1⟩ := zs_int hv0
  subst e1
  subst e0
  exact ⟨_, zs_mI hv1, fun k => lv_iadd hx hb hd (k rls hl)⟩
theorem zt_isub {l : Launch} {b L : Nat} {xs : Nat → Int32} {m bp : Nat} {ls : zm_L} {r : List Value} {x y : Int32} (hd : decode (zm_by m) bp = .ok (.isub, 1)) : zs_ST l b L xs m bp ls (.int y :: .int x :: r) ls (bp + 1) (.int (x - y) :: r) := by
  intro p e R s mid args below meth c A H locs cells slots Q as rls rst X hS hl hlen hv
  obtain ⟨hx, hb, -⟩ := X
  obtain ⟨w0, e0, hv0⟩ := zs_int hv
  obtain ⟨w1, e1, hv1⟩ := zs_int hv0
  subst e1
  subst e0
  exact ⟨_, zs_mI hv1, fun k => lv_isub hx hb hd (k rls hl)⟩
theorem zt_imul {l : Launch} {b L : Nat} {xs : Nat → Int32} {m bp : Nat} {ls : zm_L} {r : List Value} {x y : Int32} (hd : decode (zm_by m) bp = .ok (.imul, 1)) : zs_ST l b L xs m bp ls (.int y :: .int x :: r) ls (bp + 1) (.int (x * y) :: r) := by
  intro p e R s mid args below meth c A H locs cells slots Q as rls rst X hS hl hlen hv
  obtain ⟨hx, hb, -⟩ := X
  obtain ⟨w0, e0, hv0⟩ := zs_int hv
  obtain ⟨w1, e1, hv1⟩ := zs_int hv0
  subst e1
  subst e0
  exact ⟨_, zs_mI hv1, fun k => lv_imul hx hb hd (k rls hl)⟩
theorem zt_iand {l : Launch} {b L : Nat} {xs : Nat → Int32} {m bp : Nat} {ls : zm_L} {r : List Value} {x y : Int32} (hd : decode (zm_by m) bp = .ok (.iand, 1)) : zs_ST l b L xs m bp ls (.int y :: .int x :: r) ls (bp + 1) (.int (x &&& y) :: r) := by
  intro p e R s mid args below meth c A H locs cells slots Q as rls rst X hS hl hlen hv
  obtain ⟨hx, hb, -⟩ := X
  obtain ⟨w0, e0, hv0⟩ := zs_int hv
  obtain ⟨w1, e1, hv1⟩ := zs_int hv0
  subst e1
  subst e0
  exact ⟨_, zs_mI hv1, fun k => lv_iand hx hb hd (k rls hl)⟩
theorem zt_ior {l : Launch} {b L : Nat} {xs : Nat → Int32} {m bp : Nat} {ls : zm_L} {r : List Value} {x y : Int32} (hd : decode (zm_by m) bp = .ok (.ior, 1)) : zs_ST l b L xs m bp ls (.int y :: .int x :: r) ls (bp + 1) (.int (x ||| y) :: r) := by
  intro p e R s mid args below meth c A H locs cells slots Q as rls rst X hS hl hlen hv
  obtain ⟨hx, hb, -⟩ := X
  obtain ⟨w0, e0, hv0⟩ := zs_int hv
  obtain ⟨w1, e1, hv1⟩ := zs_int hv0
  subst e1
  subst e0
  exact ⟨_, zs_mI hv1, fun k => lv_ior hx hb hd (k rls hl)⟩
theorem zt_ixor {l : Launch} {b L : Nat} {xs : Nat → Int32} {m bp : Nat} {ls : zm_L} {r : List Value} {x y : Int32} (hd : decode (zm_by m) bp = .ok (.ixor, 1)) : zs_ST l b L xs m bp ls (.int y :: .int x :: r) ls (bp + 1) (.int (x ^^^ y) :: r) := by
  intro p e R s mid args below meth c A H locs cells slots Q as rls rst X hS hl hlen hv
  obtain ⟨hx, hb, -⟩ := X
  obtain ⟨w0, e0, hv0⟩ := zs_int hv
  obtain ⟨w1, e1, hv1⟩ := zs_int hv0
  subst e1
  subst e0
  exact ⟨_, zs_mI hv1, fun k => lv_ixor hx hb hd (k rls hl)⟩
theorem zt_ishl {l : Launch} {b L : Nat} {xs : Nat → Int32} {m bp : Nat} {ls : zm_L} {r : List Value} {x y : Int32} (hd : decode (zm_by m) bp = .ok (.ishl, 1)) : zs_ST l b L xs m bp ls (.int y :: .int x :: r) ls (bp + 1) (.int (x <<< (y &&& 31)) :: r) := by
  intro p e R s mid args below meth c A H locs cells slots Q as rls rst X hS hl hlen hv
  obtain ⟨hx, hb, -⟩ := X
  obtain ⟨w0, e0, hv0⟩ := zs_int hv
  obtain ⟨w1, e1, hv1⟩ := zs_int hv0
  subst e1
  subst e0
  exact ⟨_, zs_mI hv1, fun k => lv_ishl hx hb hd (k rls hl)⟩
theorem zt_ishr {l : Launch} {b L : Nat} {xs : Nat → Int32} {m bp : Nat} {ls : zm_L} {r : List Value} {x y : Int32} (hd : decode (zm_by m) bp = .ok (.ishr, 1)) : zs_ST l b L xs m bp ls (.int y :: .int x :: r) ls (bp + 1) (.int (x >>> (y &&& 31)) :: r) := by
  intro p e R s mid args below meth c A H locs cells slots Q as rls rst X hS hl hlen hv
  obtain ⟨hx, hb, -⟩ := X
  obtain ⟨w0, e0, hv0⟩ := zs_int hv
  obtain ⟨w1, e1, hv1⟩ := zs_int hv0
  subst e1
  subst e0
  exact ⟨_, zs_mI hv1, fun k => lv_ishr hx hb hd (k rls hl)⟩
theorem zt_iushr {l : Launch} {b L : Nat} {xs : Nat → Int32} {m bp : Nat} {ls : zm_L} {r : List Value} {x y : Int32} (hd : decode (zm_by m) bp = .ok (.iushr, 1)) : zs_ST l b L xs m bp ls (.int y :: .int x :: r) ls (bp + 1) (.int ((x.toUInt32 >>> (y.toUInt32 &&& Int32.toUInt32 31)).toInt32) :: r) := by
  intro p e R s mid args below meth c A H locs cells slots Q as rls rst X hS hl hlen hv
  obtain ⟨hx, hb, -⟩ := X
  obtain ⟨w0, e0, hv0⟩ := zs_int hv
  obtain ⟨w1, e1, hv1⟩ := zs_int hv0
  subst e1
  subst e0
  exact ⟨_, zs_mI hv1, fun k => lv_iushr hx hb hd rfl (k rls hl)⟩
theorem zt_idiv {l : Launch} {b L : Nat} {xs : Nat → Int32} {m bp : Nat} {ls : zm_L} {r : List Value} {x y : Int32} (hne : ¬ y = 0) (hd : decode (zm_by m) bp = .ok (.idiv, 1)) : zs_ST l b L xs m bp ls (.int y :: .int x :: r) ls (bp + 1) (.int (x / y) :: r) := by
  intro p e R s mid args below meth c A H locs cells slots Q as rls rst X hS hl hlen hv
  obtain ⟨hx, hb, -⟩ := X
  obtain ⟨w0, e0, hv0⟩ := zs_int hv
  obtain ⟨w1, e1, hv1⟩ := zs_int hv0
  subst e1
  subst e0
  exact ⟨_, zs_mI hv1, fun k => lv_idiv hx hb hd hne (k rls hl)⟩
theorem zt_irem {l : Launch} {b L : Nat} {xs : Nat → Int32} {m bp : Nat} {ls : zm_L} {r : List Value} {x y : Int32} (hne : ¬ y = 0) (hd : decode (zm_by m) bp = .ok (.irem, 1)) : zs_ST l b L xs m bp ls (.int y :: .int x :: r) ls (bp + 1) (.int (x - x / y * y) :: r) := by
  intro p e R s mid args below meth c A H locs cells slots Q as rls rst X hS hl hlen hv
  obtain ⟨hx, hb, -⟩ := X
  obtain ⟨w0, e0, hv0⟩ := zs_int hv
  obtain ⟨w1, e1, hv1⟩ := zs_int hv0
  subst e1
  subst e0
  exact ⟨_, zs_mI hv1, fun k => lv_irem hx hb hd hne (k rls hl)⟩
theorem zt_ladd {l : Launch} {b L : Nat} {xs : Nat → Int32} {m bp : Nat} {ls : zm_L} {r : List Value} {x y : Int64} (hd : decode (zm_by m) bp = .ok (.ladd, 1)) : zs_ST l b L xs m bp ls (.long y :: .long x :: r) ls (bp + 1) (.long (x + y) :: r) := by
  intro p e R s mid args below meth c A H locs cells slots Q as rls rst X hS hl hlen hv
  obtain ⟨hx, hb, -⟩ := X
  obtain ⟨w0, e0, hv0⟩ := zs_lng hv
  obtain ⟨w1, e1, hv1⟩ := zs_lng hv0
  subst e1
  subst e0
  exact ⟨_, zs_mL hv1, fun k => lv_ladd hx hb hd (k rls hl)⟩
theorem zt_lmul {l : Launch} {b L : Nat} {xs : Nat → Int32} {m bp : Nat} {ls : zm_L} {r : List Value} {x y : Int64} (hd : decode (zm_by m) bp = .ok (.lmul, 1)) : zs_ST l b L xs m bp ls (.long y :: .long x :: r) ls (bp + 1) (.long (x * y) :: r) := by
  intro p e R s mid args below meth c A H locs cells slots Q as rls rst X hS hl hlen hv
  obtain ⟨hx, hb, -⟩ := X
  obtain ⟨w0, e0, hv0⟩ := zs_lng hv
  obtain ⟨w1, e1, hv1⟩ := zs_lng hv0
  subst e1
  subst e0
  exact ⟨_, zs_mL hv1, fun k => lv_lmul hx hb hd (k rls hl)⟩
theorem zt_land {l : Launch} {b L : Nat} {xs : Nat → Int32} {m bp : Nat} {ls : zm_L} {r : List Value} {x y : Int64} (hd : decode (zm_by m) bp = .ok (.land, 1)) : zs_ST l b L xs m bp ls (.long y :: .long x :: r) ls (bp + 1) (.long (x &&& y) :: r) := by
  intro p e R s mid args below meth c A H locs cells slots Q as rls rst X hS hl hlen hv
  obtain ⟨hx, hb, -⟩ := X
  obtain ⟨w0, e0, hv0⟩ := zs_lng hv
  obtain ⟨w1, e1, hv1⟩ := zs_lng hv0
  subst e1
  subst e0
  exact ⟨_, zs_mL hv1, fun k => lv_land hx hb hd (k rls hl)⟩
theorem zt_lor {l : Launch} {b L : Nat} {xs : Nat → Int32} {m bp : Nat} {ls : zm_L} {r : List Value} {x y : Int64} (hd : decode (zm_by m) bp = .ok (.lor, 1)) : zs_ST l b L xs m bp ls (.long y :: .long x :: r) ls (bp + 1) (.long (x ||| y) :: r) := by
  intro p e R s mid args below meth c A H locs cells slots Q as rls rst X hS hl hlen hv
  obtain ⟨hx, hb, -⟩ := X
  obtain ⟨w0, e0, hv0⟩ := zs_lng hv
  obtain ⟨w1, e1, hv1⟩ := zs_lng hv0
  subst e1
  subst e0
  exact ⟨_, zs_mL hv1, fun k => lv_lor hx hb hd (k rls hl)⟩
theorem zt_ldiv {l : Launch} {b L : Nat} {xs : Nat → Int32} {m bp : Nat} {ls : zm_L} {r : List Value} {x y : Int64} (hne : ¬ y = 0) (hd : decode (zm_by m) bp = .ok (.ldiv, 1)) : zs_ST l b L xs m bp ls (.long y :: .long x :: r) ls (bp + 1) (.long (x / y) :: r) := by
  intro p e R s mid args below meth c A H locs cells slots Q as rls rst X hS hl hlen hv
  obtain ⟨hx, hb, -⟩ := X
  obtain ⟨w0, e0, hv0⟩ := zs_lng hv
  obtain ⟨w1, e1, hv1⟩ := zs_lng hv0
  subst e1
  subst e0
  exact ⟨_, zs_mL hv1, fun k => lv_ldiv hx hb hd hne (k rls hl)⟩
theorem zt_lrem {l : Launch} {b L : Nat} {xs : Nat → Int32} {m bp : Nat} {ls : zm_L} {r : List Value} {x y : Int64} (hne : ¬ y = 0) (hd : decode (zm_by m) bp = .ok (.lrem, 1)) : zs_ST l b L xs m bp ls (.long y :: .long x :: r) ls (bp + 1) (.long (x - x / y * y) :: r) := by
  intro p e R s mid args below meth c A H locs cells slots Q as rls rst X hS hl hlen hv
  obtain ⟨hx, hb, -⟩ := X
  obtain ⟨w0, e0, hv0⟩ := zs_lng hv
  obtain ⟨w1, e1, hv1⟩ := zs_lng hv0
  subst e1
  subst e0
  exact ⟨_, zs_mL hv1, fun k => lv_lrem hx hb hd hne (k rls hl)⟩
theorem zt_lshl {l : Launch} {b L : Nat} {xs : Nat → Int32} {m bp : Nat} {ls : zm_L} {r : List Value} {x : Int64} {y : Int32} (hd : decode (zm_by m) bp = .ok (.lshl, 1)) : zs_ST l b L xs m bp ls (.int y :: .long x :: r) ls (bp + 1) (.long (x <<< (y.toInt64 &&& 63)) :: r) := by
  intro p e R s mid args below meth c A H locs cells slots Q as rls rst X hS hl hlen hv
  obtain ⟨hx, hb, -⟩ := X
  obtain ⟨w0, e0, hv0⟩ := zs_int hv
  obtain ⟨w1, e1, hv1⟩ := zs_lng hv0
  subst e1
  subst e0
  exact ⟨_, zs_mL hv1, fun k => lv_lshl hx hb hd rfl (k rls hl)⟩
theorem zt_lushr {l : Launch} {b L : Nat} {xs : Nat → Int32} {m bp : Nat} {ls : zm_L} {r : List Value} {x : Int64} {y : Int32} (hd : decode (zm_by m) bp = .ok (.lushr, 1)) : zs_ST l b L xs m bp ls (.int y :: .long x :: r) ls (bp + 1) (.long ((x.toUInt64 >>> (y.toInt64.toUInt64 &&& Int64.toUInt64 63)).toInt64) :: r) := by
  intro p e R s mid args below meth c A H locs cells slots Q as rls rst X hS hl hlen hv
  obtain ⟨hx, hb, -⟩ := X
  obtain ⟨w0, e0, hv0⟩ := zs_int hv
  obtain ⟨w1, e1, hv1⟩ := zs_lng hv0
  subst e1
  subst e0
  exact ⟨_, zs_mL hv1, fun k => lv_lushr hx hb hd rfl (k rls hl)⟩
theorem zt_lcmp {l : Launch} {b L : Nat} {xs : Nat → Int32} {m bp : Nat} {ls : zm_L} {r : List Value} {x y : Int64} (hd : decode (zm_by m) bp = .ok (.lcmp, 1)) : zs_ST l b L xs m bp ls (.long y :: .long x :: r) ls (bp + 1) (.int (lg_cmp x y) :: r) := by
  intro p e R s mid args below meth c A H locs cells slots Q as rls rst X hS hl hlen hv
  obtain ⟨hx, hb, -⟩ := X
  obtain ⟨w0, e0, hv0⟩ := zs_lng hv
  obtain ⟨w1, e1, hv1⟩ := zs_lng hv0
  subst e1
  subst e0
  exact ⟨_, zs_mI hv1, fun k => W.lcmp hx hb hd (k rls hl)⟩
theorem zt_i2l {l : Launch} {b L : Nat} {xs : Nat → Int32} {m bp : Nat} {ls : zm_L} {r : List Value} {x : Int32} (hd : decode (zm_by m) bp = .ok (.i2l, 1)) : zs_ST l b L xs m bp ls (.int x :: r) ls (bp + 1) (.long x.toInt64 :: r) := by
  intro p e R s mid args below meth c A H locs cells slots Q as rls rst X hS hl hlen hv
  obtain ⟨hx, hb, -⟩ := X
  obtain ⟨w0, e0, hv0⟩ := zs_int hv
  subst e0
  exact ⟨_, zs_mL hv0, fun k => lv_i2l hx hb hd rfl (k rls hl)⟩
theorem zt_l2i {l : Launch} {b L : Nat} {xs : Nat → Int32} {m bp : Nat} {ls : zm_L} {r : List Value} {x : Int64} (hd : decode (zm_by m) bp = .ok (.l2i, 1)) : zs_ST l b L xs m bp ls (.long x :: r) ls (bp + 1) (.int x.toInt32 :: r) := by
  intro p e R s mid args below meth c A H locs cells slots Q as rls rst X hS hl hlen hv
  obtain ⟨hx, hb, -⟩ := X
  obtain ⟨w0, e0, hv0⟩ := zs_lng hv
  subst e0
  exact ⟨_, zs_mI hv0, fun k => lv_l2i hx hb hd rfl (k rls hl)⟩
theorem zt_iconst {l : Launch} {b L : Nat} {xs : Nat → Int32} {m bp : Nat} {ls : zm_L} {r : List Value} {n : Int} {v : Int32} (hv0 : Int32.ofInt n = v) (hd : decode (zm_by m) bp = .ok (.iconst n, 1)) : zs_ST l b L xs m bp ls (r) ls (bp + 1) (.int v :: r) := by
  intro p e R s mid args below meth c A H locs cells slots Q as rls rst X hS hl hlen hv
  obtain ⟨hx, hb, -⟩ := X

  exact ⟨_, zs_mI hv, fun k => lv_iconst hx hb hd hv0 (k rls hl)⟩
theorem zt_bipush {l : Launch} {b L : Nat} {xs : Nat → Int32} {m bp : Nat} {ls : zm_L} {r : List Value} {n : Int} {v : Int32} (hv0 : (Int8.ofInt n).toInt32 = v) (hd : decode (zm_by m) bp = .ok (.bipush n, 2)) : zs_ST l b L xs m bp ls (r) ls (bp + 2) (.int v :: r) := by
  intro p e R s mid args below meth c A H locs cells slots Q as rls rst X hS hl hlen hv
  obtain ⟨hx, hb, -⟩ := X

  exact ⟨_, zs_mI hv, fun k => lv_bipush hx hb hd hv0 (k rls hl)⟩
theorem zt_sipush {l : Launch} {b L : Nat} {xs : Nat → Int32} {m bp : Nat} {ls : zm_L} {r : List Value} {n : Int} {v : Int32} (hv0 : (Int16.ofInt n).toInt32 = v) (hd : decode (zm_by m) bp = .ok (.sipush n, 3)) : zs_ST l b L xs m bp ls (r) ls (bp + 3) (.int v :: r) := by
  intro p e R s mid args below meth c A H locs cells slots Q as rls rst X hS hl hlen hv
  obtain ⟨hx, hb, -⟩ := X

  exact ⟨_, zs_mI hv, fun k => lv_sipush hx hb hd hv0 (k rls hl)⟩
theorem zt_lconst {l : Launch} {b L : Nat} {xs : Nat → Int32} {m bp : Nat} {ls : zm_L} {r : List Value} {n : Fin 2} {v : Int64} (hv0 : Int64.ofNat (n : Nat) = v) (hd : decode (zm_by m) bp = .ok (.lconst n, 1)) : zs_ST l b L xs m bp ls (r) ls (bp + 1) (.long v :: r) := by
  intro p e R s mid args below meth c A H locs cells slots Q as rls rst X hS hl hlen hv
  obtain ⟨hx, hb, -⟩ := X

  exact ⟨_, zs_mL hv, fun k => lv_lconst hx hb hd hv0 (k rls hl)⟩
theorem zt_icmp_eq_t {l : Launch} {b L : Nat} {xs : Nat → Int32} {m bp : Nat} {ls : zm_L} {r : List Value} {x y : Int32} {off : Int} {tgt : Nat} (ht : (bp : Int) + off = (tgt : Int)) (hc : x = y) (hd : decode (zm_by m) bp = .ok (.if_icmp .eq off, 3)) : zs_ST l b L xs m bp ls (.int y :: .int x :: r) ls tgt r := by
  intro p e R s mid args below meth c A H locs cells slots Q as rls rst X hS hl hlen hv
  obtain ⟨hx, hb, -⟩ := X
  obtain ⟨w0, e0, hv0⟩ := zs_int hv
  obtain ⟨w1, e1, hv1⟩ := zs_int hv0
  subst e1
  subst e0
  exact ⟨_, hv1, fun k => lv_icmp_eq hx hb hd ht (fun _ => k rls hl) (fun z => absurd hc z)⟩
theorem zt_icmp_eq_f {l : Launch} {b L : Nat} {xs : Nat → Int32} {m bp : Nat} {ls : zm_L} {r : List Value} {x y : Int32} {off : Int} {tgt : Nat} (ht : (bp : Int) + off = (tgt : Int)) (hc : ¬ x = y) (hd : decode (zm_by m) bp = .ok (.if_icmp .eq off, 3)) : zs_ST l b L xs m bp ls (.int y :: .int x :: r) ls (bp + 3) r := by
  intro p e R s mid args below meth c A H locs cells slots Q as rls rst X hS hl hlen hv
  obtain ⟨hx, hb, -⟩ := X
  obtain ⟨w0, e0, hv0⟩ := zs_int hv
  obtain ⟨w1, e1, hv1⟩ := zs_int hv0
  subst e1
  subst e0
  exact ⟨_, hv1, fun k => lv_icmp_eq hx hb hd ht (fun z => absurd z hc) (fun _ => k rls hl)⟩
theorem zt_if_eq_t {l : Launch} {b L : Nat} {xs : Nat → Int32} {m bp : Nat} {ls : zm_L} {r : List Value} {x : Int32} {off : Int} {tgt : Nat} (ht : (bp : Int) + off = (tgt : Int)) (hc : x = 0) (hd : decode (zm_by m) bp = .ok (.ifCond .eq off, 3)) : zs_ST l b L xs m bp ls (.int x :: r) ls tgt r := by
  intro p e R s mid args below meth c A H locs cells slots Q as rls rst X hS hl hlen hv
  obtain ⟨hx, hb, -⟩ := X
  obtain ⟨w0, e0, hv0⟩ := zs_int hv
  subst e0
  exact ⟨_, hv0, fun k => lv_if_eq hx hb hd ht (fun _ => k rls hl) (fun z => absurd hc z)⟩
theorem zt_if_eq_f {l : Launch} {b L : Nat} {xs : Nat → Int32} {m bp : Nat} {ls : zm_L} {r : List Value} {x : Int32} {off : Int} {tgt : Nat} (ht : (bp : Int) + off = (tgt : Int)) (hc : ¬ x = 0) (hd : decode (zm_by m) bp = .ok (.ifCond .eq off, 3)) : zs_ST l b L xs m bp ls (.int x :: r) ls (bp + 3) r := by
  intro p e R s mid args below meth c A H locs cells slots Q as rls rst X hS hl hlen hv
  obtain ⟨hx, hb, -⟩ := X
  obtain ⟨w0, e0, hv0⟩ := zs_int hv
  subst e0
  exact ⟨_, hv0, fun k => lv_if_eq hx hb hd ht (fun z => absurd z hc) (fun _ => k rls hl)⟩
theorem zt_icmp_ne_t {l : Launch} {b L : Nat} {xs : Nat → Int32} {m bp : Nat} {ls : zm_L} {r : List Value} {x y : Int32} {off : Int} {tgt : Nat} (ht : (bp : Int) + off = (tgt : Int)) (hc : ¬ x = y) (hd : decode (zm_by m) bp = .ok (.if_icmp .ne off, 3)) : zs_ST l b L xs m bp ls (.int y :: .int x :: r) ls tgt r := by
  intro p e R s mid args below meth c A H locs cells slots Q as rls rst X hS hl hlen hv
  obtain ⟨hx, hb, -⟩ := X
  obtain ⟨w0, e0, hv0⟩ := zs_int hv
  obtain ⟨w1, e1, hv1⟩ := zs_int hv0
  subst e1
  subst e0
  exact ⟨_, hv1, fun k => lv_icmp_ne hx hb hd ht (fun _ => k rls hl) (fun z => absurd z hc)⟩
theorem zt_icmp_ne_f {l : Launch} {b L : Nat} {xs : Nat → Int32} {m bp : Nat} {ls : zm_L} {r : List Value} {x y : Int32} {off : Int} {tgt : Nat} (ht : (bp : Int) + off = (tgt : Int)) (hc : x = y) (hd : decode (zm_by m) bp = .ok (.if_icmp .ne off, 3)) : zs_ST l b L xs m bp ls (.int y :: .int x :: r) ls (bp + 3) r := by
  intro p e R s mid args below meth c A H locs cells slots Q as rls rst X hS hl hlen hv
  obtain ⟨hx, hb, -⟩ := X
  obtain ⟨w0, e0, hv0⟩ := zs_int hv
  obtain ⟨w1, e1, hv1⟩ := zs_int hv0
  subst e1
  subst e0
  exact ⟨_, hv1, fun k => lv_icmp_ne hx hb hd ht (fun z => absurd hc z) (fun _ => k rls hl)⟩
theorem zt_if_ne_t {l : Launch} {b L : Nat} {xs : Nat → Int32} {m bp : Nat} {ls : zm_L} {r : List Value} {x : Int32} {off : Int} {tgt : Nat} (ht : (bp : Int) + off = (tgt : Int)) (hc : ¬ x = 0) (hd : decode (zm_by m) bp = .ok (.ifCond .ne off, 3)) : zs_ST l b L xs m bp ls (.int x :: r) ls tgt r := by
  intro p e R s mid args below meth c A H locs cells slots Q as rls rst X hS hl hlen hv
  obtain ⟨hx, hb, -⟩ := X
  obtain ⟨w0, e0, hv0⟩ := zs_int hv
  subst e0
  exact ⟨_, hv0, fun k => lv_if_ne hx hb hd ht (fun _ => k rls hl) (fun z => absurd z hc)⟩
theorem zt_if_ne_f {l : Launch} {b L : Nat} {xs : Nat → Int32} {m bp : Nat} {ls : zm_L} {r : List Value} {x : Int32} {off : Int} {tgt : Nat} (ht : (bp : Int) + off = (tgt : Int)) (hc : x = 0) (hd : decode (zm_by m) bp = .ok (.ifCond .ne off, 3)) : zs_ST l b L xs m bp ls (.int x :: r) ls (bp + 3) r := by
  intro p e R s mid args below meth c A H locs cells slots Q as rls rst X hS hl hlen hv
  obtain ⟨hx, hb, -⟩ := X
  obtain ⟨w0, e0, hv0⟩ := zs_int hv
  subst e0
  exact ⟨_, hv0, fun k => lv_if_ne hx hb hd ht (fun z => absurd hc z) (fun _ => k rls hl)⟩
theorem zt_icmp_lt_t {l : Launch} {b L : Nat} {xs : Nat → Int32} {m bp : Nat} {ls : zm_L} {r : List Value} {x y : Int32} {off : Int} {tgt : Nat} (ht : (bp : Int) + off = (tgt : Int)) (hc : x < y) (hd : decode (zm_by m) bp = .ok (.if_icmp .lt off, 3)) : zs_ST l b L xs m bp ls (.int y :: .int x :: r) ls tgt r := by
  intro p e R s mid args below meth c A H locs cells slots Q as rls rst X hS hl hlen hv
  obtain ⟨hx, hb, -⟩ := X
  obtain ⟨w0, e0, hv0⟩ := zs_int hv
  obtain ⟨w1, e1, hv1⟩ := zs_int hv0
  subst e1
  subst e0
  exact ⟨_, hv1, fun k => lv_icmp_lt hx hb hd ht (fun _ => k rls hl) (fun z => absurd hc z)⟩
theorem zt_icmp_lt_f {l : Launch} {b L : Nat} {xs : Nat → Int32} {m bp : Nat} {ls : zm_L} {r : List Value} {x y : Int32} {off : Int} {tgt : Nat} (ht : (bp : Int) + off = (tgt : Int)) (hc : ¬ x < y) (hd : decode (zm_by m) bp = .ok (.if_icmp .lt off, 3)) : zs_ST l b L xs m bp ls (.int y :: .int x :: r) ls (bp + 3) r := by
  intro p e R s mid args below meth c A H locs cells slots Q as rls rst X hS hl hlen hv
  obtain ⟨hx, hb, -⟩ := X
  obtain ⟨w0, e0, hv0⟩ := zs_int hv
  obtain ⟨w1, e1, hv1⟩ := zs_int hv0
  subst e1
  subst e0
  exact ⟨_, hv1, fun k => lv_icmp_lt hx hb hd ht (fun z => absurd z hc) (fun _ => k rls hl)⟩
theorem zt_if_lt_t {l : Launch} {b L : Nat} {xs : Nat → Int32} {m bp : Nat} {ls : zm_L} {r : List Value} {x : Int32} {off : Int} {tgt : Nat} (ht : (bp : Int) + off = (tgt : Int)) (hc : x < 0) (hd : decode (zm_by m) bp = .ok (.ifCond .lt off, 3)) : zs_ST l b L xs m bp ls (.int x :: r) ls tgt r := by
  intro p e R s mid args below meth c A H locs cells slots Q as rls rst X hS hl hlen hv
  obtain ⟨hx, hb, -⟩ := X
  obtain ⟨w0, e0, hv0⟩ := zs_int hv
  subst e0
  exact ⟨_, hv0, fun k => lv_if_lt hx hb hd ht (fun _ => k rls hl) (fun z => absurd hc z)⟩
theorem zt_if_lt_f {l : Launch} {b L : Nat} {xs : Nat → Int32} {m bp : Nat} {ls : zm_L} {r : List Value} {x : Int32} {off : Int} {tgt : Nat} (ht : (bp : Int) + off = (tgt : Int)) (hc : ¬ x < 0) (hd : decode (zm_by m) bp = .ok (.ifCond .lt off, 3)) : zs_ST l b L xs m bp ls (.int x :: r) ls (bp + 3) r := by
  intro p e R s mid args below meth c A H locs cells slots Q as rls rst X hS hl hlen hv
  obtain ⟨hx, hb, -⟩ := X
  obtain ⟨w0, e0, hv0⟩ := zs_int hv
  subst e0
  exact ⟨_, hv0, fun k => lv_if_lt hx hb hd ht (fun z => absurd z hc) (fun _ => k rls hl)⟩
theorem zt_icmp_ge_t {l : Launch} {b L : Nat} {xs : Nat → Int32} {m bp : Nat} {ls : zm_L} {r : List Value} {x y : Int32} {off : Int} {tgt : Nat} (ht : (bp : Int) + off = (tgt : Int)) (hc : y ≤ x) (hd : decode (zm_by m) bp = .ok (.if_icmp .ge off, 3)) : zs_ST l b L xs m bp ls (.int y :: .int x :: r) ls tgt r := by
  intro p e R s mid args below meth c A H locs cells slots Q as rls rst X hS hl hlen hv
  obtain ⟨hx, hb, -⟩ := X
  obtain ⟨w0, e0, hv0⟩ := zs_int hv
  obtain ⟨w1, e1, hv1⟩ := zs_int hv0
  subst e1
  subst e0
  exact ⟨_, hv1, fun k => lv_icmp_ge hx hb hd ht (fun _ => k rls hl) (fun z => absurd hc z)⟩
theorem zt_icmp_ge_f {l : Launch} {b L : Nat} {xs : Nat → Int32} {m bp : Nat} {ls : zm_L} {r : List Value} {x y : Int32} {off : Int} {tgt : Nat} (ht : (bp : Int) + off = (tgt : Int)) (hc : ¬ y ≤ x) (hd : decode (zm_by m) bp = .ok (.if_icmp .ge off, 3)) : zs_ST l b L xs m bp ls (.int y :: .int x :: r) ls (bp + 3) r := by
  intro p e R s mid args below meth c A H locs cells slots Q as rls rst X hS hl hlen hv
  obtain ⟨hx, hb, -⟩ := X
  obtain ⟨w0, e0, hv0⟩ := zs_int hv
  obtain ⟨w1, e1, hv1⟩ := zs_int hv0
  subst e1
  subst e0
  exact ⟨_, hv1, fun k => lv_icmp_ge hx hb hd ht (fun z => absurd z hc) (fun _ => k rls hl)⟩
theorem zt_if_ge_t {l : Launch} {b L : Nat} {xs : Nat → Int32} {m bp : Nat} {ls : zm_L} {r : List Value} {x : Int32} {off : Int} {tgt : Nat} (ht : (bp : Int) + off = (tgt : Int)) (hc : 0 ≤ x) (hd : decode (zm_by m) bp = .ok (.ifCond .ge off, 3)) : zs_ST l b L xs m bp ls (.int x :: r) ls tgt r := by
  intro p e R s mid args below meth c A H locs cells slots Q as rls rst X hS hl hlen hv
  obtain ⟨hx, hb, -⟩ := X
  obtain ⟨w0, e0, hv0⟩ := zs_int hv
  subst e0
  exact ⟨_, hv0, fun k => lv_if_ge hx hb hd ht (fun _ => k rls hl) (fun z => absurd hc z)⟩
theorem zt_if_ge_f {l : Launch} {b L : Nat} {xs : Nat → Int32} {m bp : Nat} {ls : zm_L} {r : List Value} {x : Int32} {off : Int} {tgt : Nat} (ht : (bp : Int) + off = (tgt : Int)) (hc : ¬ 0 ≤ x) (hd : decode (zm_by m) bp = .ok (.ifCond .ge off, 3)) : zs_ST l b L xs m bp ls (.int x :: r) ls (bp + 3) r := by
  intro p e R s mid args below meth c A H locs cells slots Q as rls rst X hS hl hlen hv
  obtain ⟨hx, hb, -⟩ := X
  obtain ⟨w0, e0, hv0⟩ := zs_int hv
  subst e0
  exact ⟨_, hv0, fun k => lv_if_ge hx hb hd ht (fun z => absurd z hc) (fun _ => k rls hl)⟩
theorem zt_icmp_gt_t {l : Launch} {b L : Nat} {xs : Nat → Int32} {m bp : Nat} {ls : zm_L} {r : List Value} {x y : Int32} {off : Int} {tgt : Nat} (ht : (bp : Int) + off = (tgt : Int)) (hc : y < x) (hd : decode (zm_by m) bp = .ok (.if_icmp .gt off, 3)) : zs_ST l b L xs m bp ls (.int y :: .int x :: r) ls tgt r := by
  intro p e R s mid args below meth c A H locs cells slots Q as rls rst X hS hl hlen hv
  obtain ⟨hx, hb, -⟩ := X
  obtain ⟨w0, e0, hv0⟩ := zs_int hv
  obtain ⟨w1, e1, hv1⟩ := zs_int hv0
  subst e1
  subst e0
  exact ⟨_, hv1, fun k => lv_icmp_gt hx hb hd ht (fun _ => k rls hl) (fun z => absurd hc z)⟩
theorem zt_icmp_gt_f {l : Launch} {b L : Nat} {xs : Nat → Int32} {m bp : Nat} {ls : zm_L} {r : List Value} {x y : Int32} {off : Int} {tgt : Nat} (ht : (bp : Int) + off = (tgt : Int)) (hc : ¬ y < x) (hd : decode (zm_by m) bp = .ok (.if_icmp .gt off, 3)) : zs_ST l b L xs m bp ls (.int y :: .int x :: r) ls (bp + 3) r := by
  intro p e R s mid args below meth c A H locs cells slots Q as rls rst X hS hl hlen hv
  obtain ⟨hx, hb, -⟩ := X
  obtain ⟨w0, e0, hv0⟩ := zs_int hv
  obtain ⟨w1, e1, hv1⟩ := zs_int hv0
  subst e1
  subst e0
  exact ⟨_, hv1, fun k => lv_icmp_gt hx hb hd ht (fun z => absurd z hc) (fun _ => k rls hl)⟩
theorem zt_if_gt_t {l : Launch} {b L : Nat} {xs : Nat → Int32} {m bp : Nat} {ls : zm_L} {r : List Value} {x : Int32} {off : Int} {tgt : Nat} (ht : (bp : Int) + off = (tgt : Int)) (hc : 0 < x) (hd : decode (zm_by m) bp = .ok (.ifCond .gt off, 3)) : zs_ST l b L xs m bp ls (.int x :: r) ls tgt r := by
  intro p e R s mid args below meth c A H locs cells slots Q as rls rst X hS hl hlen hv
  obtain ⟨hx, hb, -⟩ := X
  obtain ⟨w0, e0, hv0⟩ := zs_int hv
  subst e0
  exact ⟨_, hv0, fun k => lv_if_gt hx hb hd ht (fun _ => k rls hl) (fun z => absurd hc z)⟩
theorem zt_if_gt_f {l : Launch} {b L : Nat} {xs : Nat → Int32} {m bp : Nat} {ls : zm_L} {r : List Value} {x : Int32} {off : Int} {tgt : Nat} (ht : (bp : Int) + off = (tgt : Int)) (hc : ¬ 0 < x) (hd : decode (zm_by m) bp = .ok (.ifCond .gt off, 3)) : zs_ST l b L xs m bp ls (.int x :: r) ls (bp + 3) r := by
  intro p e R s mid args below meth c A H locs cells slots Q as rls rst X hS hl hlen hv
  obtain ⟨hx, hb, -⟩ := X
  obtain ⟨w0, e0, hv0⟩ := zs_int hv
  subst e0
  exact ⟨_, hv0, fun k => lv_if_gt hx hb hd ht (fun z => absurd z hc) (fun _ => k rls hl)⟩
theorem zt_icmp_le_t {l : Launch} {b L : Nat} {xs : Nat → Int32} {m bp : Nat} {ls : zm_L} {r : List Value} {x y : Int32} {off : Int} {tgt : Nat} (ht : (bp : Int) + off = (tgt : Int)) (hc : x ≤ y) (hd : decode (zm_by m) bp = .ok (.if_icmp .le off, 3)) : zs_ST l b L xs m bp ls (.int y :: .int x :: r) ls tgt r := by
  intro p e R s mid args below meth c A H locs cells slots Q as rls rst X hS hl hlen hv
  obtain ⟨hx, hb, -⟩ := X
  obtain ⟨w0, e0, hv0⟩ := zs_int hv
  obtain ⟨w1, e1, hv1⟩ := zs_int hv0
  subst e1
  subst e0
  exact ⟨_, hv1, fun k => lv_icmp_le hx hb hd ht (fun _ => k rls hl) (fun z => absurd hc z)⟩
theorem zt_icmp_le_f {l : Launch} {b L : Nat} {xs : Nat → Int32} {m bp : Nat} {ls : zm_L} {r : List Value} {x y : Int32} {off : Int} {tgt : Nat} (ht : (bp : Int) + off = (tgt : Int)) (hc : ¬ x ≤ y) (hd : decode (zm_by m) bp = .ok (.if_icmp .le off, 3)) : zs_ST l b L xs m bp ls (.int y :: .int x :: r) ls (bp + 3) r := by
  intro p e R s mid args below meth c A H locs cells slots Q as rls rst X hS hl hlen hv
  obtain ⟨hx, hb, -⟩ := X
  obtain ⟨w0, e0, hv0⟩ := zs_int hv
  obtain ⟨w1, e1, hv1⟩ := zs_int hv0
  subst e1
  subst e0
  exact ⟨_, hv1, fun k => lv_icmp_le hx hb hd ht (fun z => absurd z hc) (fun _ => k rls hl)⟩
theorem zt_if_le_t {l : Launch} {b L : Nat} {xs : Nat → Int32} {m bp : Nat} {ls : zm_L} {r : List Value} {x : Int32} {off : Int} {tgt : Nat} (ht : (bp : Int) + off = (tgt : Int)) (hc : x ≤ 0) (hd : decode (zm_by m) bp = .ok (.ifCond .le off, 3)) : zs_ST l b L xs m bp ls (.int x :: r) ls tgt r := by
  intro p e R s mid args below meth c A H locs cells slots Q as rls rst X hS hl hlen hv
  obtain ⟨hx, hb, -⟩ := X
  obtain ⟨w0, e0, hv0⟩ := zs_int hv
  subst e0
  exact ⟨_, hv0, fun k => lv_if_le hx hb hd ht (fun _ => k rls hl) (fun z => absurd hc z)⟩
theorem zt_if_le_f {l : Launch} {b L : Nat} {xs : Nat → Int32} {m bp : Nat} {ls : zm_L} {r : List Value} {x : Int32} {off : Int} {tgt : Nat} (ht : (bp : Int) + off = (tgt : Int)) (hc : ¬ x ≤ 0) (hd : decode (zm_by m) bp = .ok (.ifCond .le off, 3)) : zs_ST l b L xs m bp ls (.int x :: r) ls (bp + 3) r := by
  intro p e R s mid args below meth c A H locs cells slots Q as rls rst X hS hl hlen hv
  obtain ⟨hx, hb, -⟩ := X
  obtain ⟨w0, e0, hv0⟩ := zs_int hv
  subst e0
  exact ⟨_, hv0, fun k => lv_if_le hx hb hd ht (fun z => absurd z hc) (fun _ => k rls hl)⟩
theorem zt_const {l : Launch} {b L : Nat} {xs : Nat → Int32} {m bp : Nat} {ls : zm_L} {r : List Value} {k : Nat} {v : Int32} (hw : Cond.constant (zm_ow m) k v ∈ zm_GW) (hd : decode (zm_by m) bp = .ok (.ldc_w k, 3)) : zs_ST l b L xs m bp ls r ls (bp + 3) (.int v :: r) := by
  intro p e R s mid args below meth c A H locs cells slots Q as rls rst X hS hl hlen hv
  obtain ⟨hx, hb, -, -, -, hown, -, hts, -⟩ := X
  exact ⟨_, zs_mI hv, fun k => lv_ldcw hx hb hown (hts _ hw) hd (k rls hl)⟩
theorem zt_constL {l : Launch} {b L : Nat} {xs : Nat → Int32} {m bp : Nat} {ls : zm_L} {r : List Value} {k : Nat} {v : Int64} (hw : Cond.constantLong (zm_ow m) k v ∈ zm_GW) (hd : decode (zm_by m) bp = .ok (.ldc2_w k, 3)) : zs_ST l b L xs m bp ls r ls (bp + 3) (.long v :: r) := by
  intro p e R s mid args below meth c A H locs cells slots Q as rls rst X hS hl hlen hv
  obtain ⟨hx, hb, -, -, -, hown, -, hts, -⟩ := X
  exact ⟨_, zs_mL hv, fun k => lv_ldc2 hx hb hown (hts _ hw) hd (k rls hl)⟩
theorem zt_goto {l : Launch} {b L : Nat} {xs : Nat → Int32} {m bp : Nat} {ls : zm_L} {r : List Value} {off : Int} {tgt : Nat} (ht : (bp : Int) + off = (tgt : Int)) (hd : decode (zm_by m) bp = .ok (.goto off, 3)) : zs_ST l b L xs m bp ls r ls tgt r := by
  intro p e R s mid args below meth c A H locs cells slots Q as rls rst X hS hl hlen hv
  obtain ⟨hx, hb, -⟩ := X
  exact ⟨_, hv, fun k => lv_goto hx hb hd ht (k rls hl)⟩
theorem zt_dup {l : Launch} {b L : Nat} {xs : Nat → Int32} {m bp : Nat} {ls : zm_L} {r : List Value} {v : Value} (hc : v.category = 1) (hd : decode (zm_by m) bp = .ok (.dup, 1)) : zs_ST l b L xs m bp ls (v :: r) ls (bp + 1) (v :: v :: r) := by
  intro p e R s mid args below meth c A H locs cells slots Q as rls rst X hS hl hlen hv
  obtain ⟨hx, hb, -⟩ := X
  match rst, hv with
  | w :: rr, hv => exact ⟨_, zs_mV hv.1 (zs_mV hv.1 hv.2), fun k => lv_dup hx hb hd (hv.1.cat.symm.trans hc) (k rls hl)⟩
theorem zt_dup2 {l : Launch} {b L : Nat} {xs : Nat → Int32} {m bp : Nat} {ls : zm_L} {r : List Value} {v u : Value} (hc : v.category = 1) (hc2 : u.category = 1) (hd : decode (zm_by m) bp = .ok (.dup2, 1)) : zs_ST l b L xs m bp ls (v :: u :: r) ls (bp + 1) (v :: u :: v :: u :: r) := by
  intro p e R s mid args below meth c A H locs cells slots Q as rls rst X hS hl hlen hv
  obtain ⟨hx, hb, -⟩ := X
  match rst, hv with
  | w :: z :: rr, hv => exact ⟨_, zs_mV hv.1 (zs_mV hv.2.1 (zs_mV hv.1 (zs_mV hv.2.1 hv.2.2))), fun k => lv_dup2_11 hx hb hd (hv.1.cat.symm.trans hc) (hv.2.1.cat.symm.trans hc2) (k rls hl)⟩
theorem zt_pop {l : Launch} {b L : Nat} {xs : Nat → Int32} {m bp : Nat} {ls : zm_L} {r : List Value} {v : Value} (hc : v.category = 1) (hd : decode (zm_by m) bp = .ok (.pop, 1)) : zs_ST l b L xs m bp ls (v :: r) ls (bp + 1) r := by
  intro p e R s mid args below meth c A H locs cells slots Q as rls rst X hS hl hlen hv
  obtain ⟨hx, hb, -⟩ := X
  match rst, hv with
  | w :: rr, hv => exact ⟨_, hv.2, fun k => lv_pop hx hb hd (hv.1.cat.symm.trans hc) (k rls hl)⟩
theorem zt_iload_n {l : Launch} {b L : Nat} {xs : Nat → Int32} {m bp : Nat} {ls : zm_L} {r : List Value} {k : Fin 4} {i : Nat} (hi : (k : Nat) = i) {x : Int32} (hx0 : zm_lc ls i = some (.int x)) (hd : decode (zm_by m) bp = .ok (.iload_n k, 1)) : zs_ST l b L xs m bp ls r ls (bp + 1) (.int x :: r) := by
  intro p e R s mid args below meth c A H locs cells slots Q as rls rst X hS hl hlen hv
  obtain ⟨hx, hb, -⟩ := X
  obtain ⟨w, h1, h2⟩ := hl.2.2 _ _ hx0
  rw [show w = .int x from h2] at h1
  exact ⟨_, zs_mI hv, fun k => lv_iload_n hx hb hd hi h1 (k rls hl)⟩
theorem zt_iload {l : Launch} {b L : Nat} {xs : Nat → Int32} {m bp : Nat} {ls : zm_L} {r : List Value} {i : Nat} {x : Int32} (hx0 : zm_lc ls i = some (.int x)) (hd : decode (zm_by m) bp = .ok (.iload i, 2)) : zs_ST l b L xs m bp ls r ls (bp + 2) (.int x :: r) := by
  intro p e R s mid args below meth c A H locs cells slots Q as rls rst X hS hl hlen hv
  obtain ⟨hx, hb, -⟩ := X
  obtain ⟨w, h1, h2⟩ := hl.2.2 _ _ hx0
  rw [show w = .int x from h2] at h1
  exact ⟨_, zs_mI hv, fun k => lv_iload hx hb hd h1 (k rls hl)⟩
theorem zt_lload_n {l : Launch} {b L : Nat} {xs : Nat → Int32} {m bp : Nat} {ls : zm_L} {r : List Value} {k : Fin 4} {i : Nat} (hi : (k : Nat) = i) {x : Int64} (hx0 : zm_lc ls i = some (.long x)) (hd : decode (zm_by m) bp = .ok (.lload_n k, 1)) : zs_ST l b L xs m bp ls r ls (bp + 1) (.long x :: r) := by
  intro p e R s mid args below meth c A H locs cells slots Q as rls rst X hS hl hlen hv
  obtain ⟨hx, hb, -⟩ := X
  obtain ⟨w, h1, h2⟩ := hl.2.2 _ _ hx0
  rw [show w = .long x from h2] at h1
  exact ⟨_, zs_mL hv, fun k => lv_lload_n hx hb hd hi h1 (k rls hl)⟩
theorem zt_lload {l : Launch} {b L : Nat} {xs : Nat → Int32} {m bp : Nat} {ls : zm_L} {r : List Value} {i : Nat} {x : Int64} (hx0 : zm_lc ls i = some (.long x)) (hd : decode (zm_by m) bp = .ok (.lload i, 2)) : zs_ST l b L xs m bp ls r ls (bp + 2) (.long x :: r) := by
  intro p e R s mid args below meth c A H locs cells slots Q as rls rst X hS hl hlen hv
  obtain ⟨hx, hb, -⟩ := X
  obtain ⟨w, h1, h2⟩ := hl.2.2 _ _ hx0
  rw [show w = .long x from h2] at h1
  exact ⟨_, zs_mL hv, fun k => lv_lload hx hb hd h1 (k rls hl)⟩
theorem zt_aload_n {l : Launch} {b L : Nat} {xs : Nat → Int32} {m bp : Nat} {ls : zm_L} {r : List Value} {k : Fin 4} {i : Nat} (hi : (k : Nat) = i) {x : Nat} (hx0 : zm_lc ls i = some (.ref x)) (hd : decode (zm_by m) bp = .ok (.aload_n k, 1)) : zs_ST l b L xs m bp ls r ls (bp + 1) (.ref x :: r) := by
  intro p e R s mid args below meth c A H locs cells slots Q as rls rst X hS hl hlen hv
  obtain ⟨hx, hb, -⟩ := X
  obtain ⟨w, h1, a, h2, h3⟩ := hl.2.2 _ _ hx0
  rw [h3] at h1
  exact ⟨.ref a :: rst, zs_mR h2 hv, fun k => lv_aload_n hx hb hd hi h1 (k rls hl)⟩
theorem zt_aload {l : Launch} {b L : Nat} {xs : Nat → Int32} {m bp : Nat} {ls : zm_L} {r : List Value} {i : Nat} {x : Nat} (hx0 : zm_lc ls i = some (.ref x)) (hd : decode (zm_by m) bp = .ok (.aload i, 2)) : zs_ST l b L xs m bp ls r ls (bp + 2) (.ref x :: r) := by
  intro p e R s mid args below meth c A H locs cells slots Q as rls rst X hS hl hlen hv
  obtain ⟨hx, hb, -⟩ := X
  obtain ⟨w, h1, a, h2, h3⟩ := hl.2.2 _ _ hx0
  rw [h3] at h1
  exact ⟨.ref a :: rst, zs_mR h2 hv, fun k => lv_aload hx hb hd h1 (k rls hl)⟩
theorem zt_aload_s {l : Launch} {b L : Nat} {xs : Nat → Int32} {m bp : Nat} {ls : zm_L} {r : List Value} {k : Fin 4} {i : Nat} (hi : (k : Nat) = i) {x : UInt32} (hx0 : zm_lc ls i = some (.float x)) (hd : decode (zm_by m) bp = .ok (.aload_n k, 1)) : zs_ST l b L xs m bp ls r ls (bp + 1) (.float x :: r) := by
  intro p e R s mid args below meth c A H locs cells slots Q as rls rst X hS hl hlen hv
  obtain ⟨hx, hb, -⟩ := X
  obtain ⟨w, h1, h2⟩ := hl.2.2 _ _ hx0
  rw [show w = .ref b from h2] at h1
  exact ⟨.ref b :: rst, zs_mF hv, fun k => lv_aload_n hx hb hd hi h1 (k rls hl)⟩
theorem zt_istore_n {l : Launch} {b L : Nat} {xs : Nat → Int32} {m bp : Nat} {ls : zm_L} {r : List Value} {k : Fin 4} {i : Nat} (hi : (k : Nat) = i) {x : Int32} (hn : i < zm_ml m) (hd : decode (zm_by m) bp = .ok (.istore_n k, 1)) : zs_ST l b L xs m bp ls (.int x :: r) (zm_s1 ls i (.int x)) (bp + 1) r := by
  intro p e R s mid args below meth c A H locs cells slots Q as rls rst X hS hl hlen hv
  obtain ⟨hx, hb, -⟩ := X
  obtain ⟨w0, e0, hv0⟩ := zs_int hv
  subst e0
  exact ⟨_, hv0, fun k => lv_istore_n hx hb hd hi (zs_all_has hl.2.1) (by rw [hl.1, hlen]; exact hn) rfl (fun ls2 h2 => k ls2 (hl.put1 rfl h2))⟩
theorem zt_istore {l : Launch} {b L : Nat} {xs : Nat → Int32} {m bp : Nat} {ls : zm_L} {r : List Value} {i : Nat} {x : Int32} (hn : i < zm_ml m) (hd : decode (zm_by m) bp = .ok (.istore i, 2)) : zs_ST l b L xs m bp ls (.int x :: r) (zm_s1 ls i (.int x)) (bp + 2) r := by
  intro p e R s mid args below meth c A H locs cells slots Q as rls rst X hS hl hlen hv
  obtain ⟨hx, hb, -⟩ := X
  obtain ⟨w0, e0, hv0⟩ := zs_int hv
  subst e0
  exact ⟨_, hv0, fun k => lv_istore hx hb hd (zs_all_has hl.2.1) (by rw [hl.1, hlen]; exact hn) rfl (fun ls2 h2 => k ls2 (hl.put1 rfl h2))⟩
theorem zt_lstore_n {l : Launch} {b L : Nat} {xs : Nat → Int32} {m bp : Nat} {ls : zm_L} {r : List Value} {k : Fin 4} {i : Nat} (hi : (k : Nat) = i) {x : Int64} (hn : i + 1 < zm_ml m) (hd : decode (zm_by m) bp = .ok (.lstore_n k, 1)) : zs_ST l b L xs m bp ls (.long x :: r) (zm_s2 ls i (.long x)) (bp + 1) r := by
  intro p e R s mid args below meth c A H locs cells slots Q as rls rst X hS hl hlen hv
  obtain ⟨hx, hb, -⟩ := X
  obtain ⟨w0, e0, hv0⟩ := zs_lng hv
  subst e0
  exact ⟨_, hv0, fun k => lv_lstore_n hx hb hd hi (zs_all_has hl.2.1) (by rw [hl.1, hlen]; exact hn) rfl (fun ls2 h2 => k ls2 (hl.put2 rfl h2))⟩
theorem zt_lstore {l : Launch} {b L : Nat} {xs : Nat → Int32} {m bp : Nat} {ls : zm_L} {r : List Value} {i : Nat} {x : Int64} (hn : i + 1 < zm_ml m) (hd : decode (zm_by m) bp = .ok (.lstore i, 2)) : zs_ST l b L xs m bp ls (.long x :: r) (zm_s2 ls i (.long x)) (bp + 2) r := by
  intro p e R s mid args below meth c A H locs cells slots Q as rls rst X hS hl hlen hv
  obtain ⟨hx, hb, -⟩ := X
  obtain ⟨w0, e0, hv0⟩ := zs_lng hv
  subst e0
  exact ⟨_, hv0, fun k => lv_lstore hx hb hd (zs_all_has hl.2.1) (by rw [hl.1, hlen]; exact hn) rfl (fun ls2 h2 => k ls2 (hl.put2 rfl h2))⟩
theorem zt_astore_n {l : Launch} {b L : Nat} {xs : Nat → Int32} {m bp : Nat} {ls : zm_L} {r : List Value} {k : Fin 4} {i : Nat} (hi : (k : Nat) = i) {x : Nat} (hn : i < zm_ml m) (hd : decode (zm_by m) bp = .ok (.astore_n k, 1)) : zs_ST l b L xs m bp ls (.ref x :: r) (zm_s1 ls i (.ref x)) (bp + 1) r := by
  intro p e R s mid args below meth c A H locs cells slots Q as rls rst X hS hl hlen hv
  obtain ⟨hx, hb, -⟩ := X
  obtain ⟨a, w0, e0, ha, hv0⟩ := zs_ref hv
  subst e0
  exact ⟨_, hv0, fun k => lv_astore_n hx hb hd hi (zs_all_has hl.2.1) (by rw [hl.1, hlen]; exact hn) rfl (fun ls2 h2 => k ls2 (hl.put1 ⟨a, ha, rfl⟩ h2))⟩
theorem zt_astore {l : Launch} {b L : Nat} {xs : Nat → Int32} {m bp : Nat} {ls : zm_L} {r : List Value} {i : Nat} {x : Nat} (hn : i < zm_ml m) (hd : decode (zm_by m) bp = .ok (.astore i, 2)) : zs_ST l b L xs m bp ls (.ref x :: r) (zm_s1 ls i (.ref x)) (bp + 2) r := by
  intro p e R s mid args below meth c A H locs cells slots Q as rls rst X hS hl hlen hv
  obtain ⟨hx, hb, -⟩ := X
  obtain ⟨a, w0, e0, ha, hv0⟩ := zs_ref hv
  subst e0
  exact ⟨_, hv0, fun k => lv_astore hx hb hd (zs_all_has hl.2.1) (by rw [hl.1, hlen]; exact hn) rfl (fun ls2 h2 => k ls2 (hl.put1 ⟨a, ha, rfl⟩ h2))⟩
theorem zt_iinc {l : Launch} {b L : Nat} {xs : Nat → Int32} {m bp : Nat} {ls : zm_L} {r : List Value} {i : Nat} {n : Int} {x v : Int32} (hx0 : zm_lc ls i = some (.int x)) (hv0 : Int32.ofInt n = v) (hn : i < zm_ml m) (hd : decode (zm_by m) bp = .ok (.iinc i n, 3)) : zs_ST l b L xs m bp ls r (zm_s1 ls i (.int (x + v))) (bp + 3) r := by
  intro p e R s mid args below meth c A H locs cells slots Q as rls rst X hS hl hlen hv
  obtain ⟨hx, hb, -⟩ := X
  obtain ⟨w, h1, h2⟩ := hl.2.2 _ _ hx0
  rw [show w = .int x from h2] at h1
  obtain ⟨k0, hk0⟩ := List.getElem?_of_mem (zs_all_mem h1)
  exact ⟨_, hv, fun k => lv_iinc hx hb hd (zs_all_has hl.2.1) hk0 (by rw [hv0]) (by rw [hl.1, hlen]; exact hn) rfl (fun ls2 h2 => k ls2 (hl.put1 rfl h2))⟩
end
section
/-! .. and the instructions of the heap -/
theorem zs_at {ws : va_W} {o ad : Nat} (h : (ws.map Prod.fst)[o]? = some ad) : ∃ el, ws[o]? = some (ad, el) := by
  rw [List.getElem?_map] at h
  cases hw : ws[o]? with
  | none => rw [hw] at h; cases h
  | some q =>
    rw [hw] at h
    obtain ⟨a, e⟩ := q
    cases h
    exact ⟨e, rfl⟩
theorem zs_setmap {ws : va_W} {o ad : Nat} {e0 e1 : va_E} (h : ws[o]? = some (ad, e0)) : (ws.set o (ad, e1)).map Prod.fst = ws.map Prod.fst := by
  apply List.ext_getElem?
  intro i
  rw [List.getElem?_map, List.getElem?_map, List.getElem?_set]
  by_cases hi : o = i
  · subst hi
    have hlt : o < ws.length := (List.getElem?_eq_some_iff.mp h).1
    rw [h]
    simp [hlt]
  · simp [hi]
theorem zs_h.set {b : Nat} {ws : va_W} {tys : List (ClassId × FieldType)} {h : zm_H} {o ad : Nat} {e0 e1 : va_E} {c1 : zm_C} (hh : zs_h b ws tys h) (he : ws[o]? = some (ad, e0)) (hc : zs_c b (ws.map Prod.fst) tys c1 e1) : zs_h b (ws.set o (ad, e1)) tys (zm_u h o c1) := by
  refine ⟨by rw [List.length_set]; exact hh.1, fun i q hq => ?_⟩
  rw [zs_setmap he]
  rw [List.getElem?_set] at hq
  by_cases hi : o = i
  · subst hi
    have hlt : o < ws.length := (List.getElem?_eq_some_iff.mp he).1
    simp only [if_true, hlt] at hq
    cases hq
    simpa [zm_u] using hc
  · rw [if_neg hi] at hq
    have h1 := hh.2 i q hq
    have h2 : (zm_u h o c1).2.1 i = h.2.1 i := by
      simp only [zm_u]
      rw [if_neg (fun z => hi z.symm)]
    rw [h2]
    exact h1
theorem zs_h.push {b : Nat} {ws : va_W} {tys u : List (ClassId × FieldType)} {h : zm_H} {q : Nat} {e1 : va_E} {c1 : zm_C} {k : Nat} (hh : zs_h b ws tys h) (hc : zs_c b ((ws ++ [(q, e1)]).map Prod.fst) (tys ++ u) c1 e1) : zs_h b (ws ++ [(q, e1)]) (tys ++ u) (zm_nw h c1 k) := by
  refine ⟨by simp [zm_nw, hh.1], fun i z hz => ?_⟩
  rcases Nat.lt_or_ge i ws.length with hi | hi
  · rw [List.getElem?_append_left hi] at hz
    have h1 := hh.2 i z hz
    have h2 : (zm_nw h c1 k).2.1 i = h.2.1 i := by
      simp only [zm_nw]
      rw [if_neg (by rw [hh.1]; omega)]
    rw [h2, List.map_append]
    exact h1.ap _ _
  · rw [List.getElem?_append_right hi] at hz
    have h3 : i - ws.length = 0 := by
      have := (List.getElem?_eq_some_iff.mp hz).1
      simpa using this
    rw [h3] at hz
    cases hz
    have h2 : (zm_nw h c1 k).2.1 i = c1 := by
      simp only [zm_nw]
      rw [if_pos (by rw [hh.1]; omega)]
    rw [h2]
    exact hc
/-- an instruction of the heap: from its place to the next -/
def zs_SH (l : Launch) (b L : Nat) (xs : Nat → Int32) (m bp : Nat) (ls : zm_L) (st : List Value) (h : zm_H) (pc' : Nat) (st' : List Value) (h' : zm_H) (dc ds : Nat) : Prop :=
  (h'.2.2.1 = h.2.2.1 + dc ∧ h'.2.2.2 = h.2.2.2 + ds) ∧
  ∀ (p : Program) (e : Env) (R : Room) (s : State) (mid : MethodId) (args : Array Value) (below : List Frame) (meth : Method) (c : Code) (dC : Nat → ClassId) (dI : Nat → Nat → Nat) (A : Nat → Prop) (H : Heap) (locs : List Loc) (cells slots : Nat) (Q : State → Prop) (ws : va_W) (tys : List (ClassId × FieldType)) (rls : Array Slot) (rst : List Value),
    zs_X l p R s mid args meth c m b L xs A → zs_W b dC dI ws tys A s H locs h → zs_l b (ws.map Prod.fst) ls rls → ls.length = zm_ml m → zs_vs b (ws.map Prod.fst) st rst → cells + dc ≤ R.cells → slots + ds ≤ R.slots →
    (∀ (H' : Heap) (locs' : List Loc) (ws' : va_W) (tys' : List (ClassId × FieldType)) (rst' : List Value), zs_W b dC dI ws' tys' A s H' locs' h' → (∃ t0, ws'.map Prod.fst = ws.map Prod.fst ++ t0) → zs_vs b (ws'.map Prod.fst) st' rst' →
      W p l e R s mid args below meth c H' locs' (cells + dc) (slots + ds) Q (F0 mid pc' rls rst')) →
    W p l e R s mid args below meth c H locs cells slots Q (F0 mid bp rls rst)
theorem zs_heap {l : Launch} {b L : Nat} {xs : Nat → Int32} {m i i' bp pc' dc ds : Nat} {ls : zm_L} {st st' : List Value} {h h' : zm_H} {r : zm_R} (hp : zm_pc m i = some bp) (hp' : zm_pc m i' = some pc') (hs : zs_SH l b L xs m bp ls st h pc' st' h' dc ds) (hr : zs_S l b L xs m i' ls st' h' r) : zs_S l b L xs m i ls st h r := by
  obtain ⟨⟨d1, d2⟩, hs⟩ := hs
  obtain ⟨r1, r2, hr⟩ := hr
  refine ⟨by omega, by omega, ?_⟩
  intro p e R s mid args below meth c dC dI A H locs cells slots ws tys rls rst as0 kc ks mc ms pc X hT hW ha hl hml hv hpc h1 h2 h3 h4 h5 h6
  cases Option.some.inj (hp.symm.trans hpc)
  refine hs p e R s mid args below meth c dC dI A H locs cells slots _ ws tys rls rst X hW hl hml hv (by omega) (by omega) ?_
  intro H' locs' ws' tys' rst' hW' ha' hv'
  obtain ⟨t0, ht0⟩ := ha
  obtain ⟨t1, ht1⟩ := ha'
  refine hr p e R s mid args below meth c dC dI A H' locs' (cells + dc) (slots + ds) ws' tys' rls rst' as0 kc ks mc ms pc' X hT hW' ⟨t0 ++ t1, by rw [ht1, ht0, List.append_assoc]⟩ ?_ hml hv' hp' (by omega) (by omega) h3 h4 h5 h6
  rw [ht1]
  exact hl.ap _
theorem zc_clall : (vwCl.all fun q => (u_ws q.1 q.2.1 q.2.2).all fun w => decide (w ∈ lw_tbl) && goodWord w) = true := by decide +kernel
theorem zc_clin {ci : Nat} {q : vw_C} (h : vwCl[ci]? = some q) : ∀ w ∈ u_ws q.1 q.2.1 q.2.2, w ∈ zm_GW := by
  intro w hw
  have h1 := List.all_eq_true.mp (List.all_eq_true.mp zc_clall q (List.mem_of_getElem? h)) w hw
  simp only [Bool.and_eq_true, decide_eq_true_eq] at h1
  exact List.mem_filter.mpr h1
theorem zc_ty {ci : Nat} {q : vw_C} (h : vwCl[ci]? = some q) : (∀ k, k < q.2.2 → parseFieldDescriptor (q.2.1 k).2.2.1 = some (zm_ty ci k)) ∧ ∀ a, a < q.2.2 → ∀ b, b < q.2.2 → a ≠ b → (q.2.1 a).2.1 ≠ (q.2.1 b).2.1 := by
  match ci, h with
  | 0, h => cases h; exact ⟨tyX0_ok, nmX0⟩
  | 1, h => cases h; exact ⟨tyX1_ok, nmX1⟩
  | 2, h => cases h; exact ⟨tyX2_ok, nmX2⟩
  | 3, h => cases h; exact ⟨tyX3_ok, nmX3⟩
  | 4, h => cases h; exact ⟨tyX4_ok, nmX4⟩
  | 5, h => cases h; exact ⟨tyX5_ok, nmX5⟩
  | 6, h => cases h; exact ⟨tyX6_ok, nmX6⟩
  | 7, h => cases h; exact ⟨tyX7_ok, nmX7⟩
  | 8, h => cases h; exact ⟨tyX8_ok, nmX8⟩
  | n + 9, h => simp [vwCl] at h
section ZH
variable {l : Launch} {b L : Nat} {xs : Nat → Int32} {m bp : Nat} {ls : zm_L} {r : List Value} {h h' : zm_H} {o k0 a idx : Nat} {q : vw_C}
theorem zh_gI {x : Int32} (hci : vwCl[a]? = some q) (hk : k0 < q.2.2) (hw : Cond.fieldLink (zm_ow m) idx (q.2.1 k0).1 (q.2.1 k0).2.1 (q.2.1 k0).2.2.1 ∈ zm_GW) (hg : zm_gI h o a k0 = some x) (hd : decode (zm_by m) bp = .ok (.getfield idx, 3)) : zs_SH l b L xs m bp ls (.ref o :: r) h (bp + 3) (.int x :: r) h 0 0 := by
  refine ⟨⟨rfl, rfl⟩, ?_⟩
  intro p e R s mid args below meth c dC dI A H locs cells slots Q ws tys rls rst X hW hl hlen hv hc hs k
  obtain ⟨hx, hb, -, -, -, hown, -, hts, -⟩ := X
  obtain ⟨ad, w1, e1, h1, hv1⟩ := zs_ref hv
  subst e1
  obtain ⟨hP, hK, hD, hS, hh⟩ := id hW
  obtain ⟨el, he⟩ := zs_at h1
  have hcell := hh.2 o _ he
  unfold zm_gI at hg
  split at hg
  · rename_i cj fs hcj
    split at hg
    · rename_i hcc
      subst hcc
      split at hg
      · rename_i y hy
        cases hg
        rw [hcj] at hcell
        obtain ⟨gs, e2, h2⟩ := hcell
        dsimp only at e2
        subst e2
        obtain ⟨wv, hwv, hwv2⟩ := h2.get hy
        rw [show wv = .int x from hwv2] at hwv
        exact va_get (D := (dC, dI)) hx hb hts (zc_clin hci) hown hK hP o he hci k0 hk (hts _ hw) (fun _ h9 => h9) hwv hd (k H locs ws tys _ hW ⟨[], by simp⟩ (zs_mI hv1))
      · cases hg
    · cases hg
  · cases hg
theorem zh_gR {x : Nat} (hci : vwCl[a]? = some q) (hk : k0 < q.2.2) (hw : Cond.fieldLink (zm_ow m) idx (q.2.1 k0).1 (q.2.1 k0).2.1 (q.2.1 k0).2.2.1 ∈ zm_GW) (hg : zm_gR h o a k0 = some x) (hd : decode (zm_by m) bp = .ok (.getfield idx, 3)) : zs_SH l b L xs m bp ls (.ref o :: r) h (bp + 3) (.ref x :: r) h 0 0 := by
  refine ⟨⟨rfl, rfl⟩, ?_⟩
  intro p e R s mid args below meth c dC dI A H locs cells slots Q ws tys rls rst X hW hl hlen hv hc hs k
  obtain ⟨hx, hb, -, -, -, hown, -, hts, -⟩ := X
  obtain ⟨ad, w1, e1, h1, hv1⟩ := zs_ref hv
  subst e1
  obtain ⟨hP, hK, hD, hS, hh⟩ := id hW
  obtain ⟨el, he⟩ := zs_at h1
  have hcell := hh.2 o _ he
  unfold zm_gR at hg
  split at hg
  · rename_i cj fs hcj
    split at hg
    · rename_i hcc
      subst hcc
      split at hg
      · rename_i y hy
        cases hg
        rw [hcj] at hcell
        obtain ⟨gs, e2, h2⟩ := hcell
        dsimp only at e2
        subst e2
        obtain ⟨wv, hwv, z, hz, hwv2⟩ := h2.get hy
        rw [hwv2] at hwv
        exact va_get (D := (dC, dI)) hx hb hts (zc_clin hci) hown hK hP o he hci k0 hk (hts _ hw) (fun _ h9 => h9) hwv hd (k H locs ws tys _ hW ⟨[], by simp⟩ (zs_mR hz hv1))
      · cases hg
    · cases hg
  · cases hg
theorem zh_put {v : Value} (hci : vwCl[a]? = some q) (hk : k0 < q.2.2) (hw : Cond.fieldLink (zm_ow m) idx (q.2.1 k0).1 (q.2.1 k0).2.1 (q.2.1 k0).2.2.1 ∈ zm_GW)
    (hfin : (q.2.1 k0).2.2.2 = false ∨ ((zm_nm m).name = "<init>" ∧ (q.2.1 k0).1 = zm_ow m)) (hty : ∀ (as : List Nat) (w : Value), zs_v b as v w → narrow (zm_ty a k0) w = w ∧ fits (zm_ty a k0) w = true)
    (hg : zm_pt h o a k0 v = some h') (hd : decode (zm_by m) bp = .ok (.putfield idx, 3)) : zs_SH l b L xs m bp ls (v :: .ref o :: r) h (bp + 3) r h' 0 0 := by
  unfold zm_pt at hg
  split at hg
  · rename_i cj fs hcj
    split at hg
    · rename_i hcc
      subst hcc
      split at hg
      · rename_i hlt
        cases hg
        refine ⟨⟨rfl, rfl⟩, ?_⟩
        intro p e R s mid args below meth c dC dI A H locs cells slots Q ws tys rls rst X hW hl hlen hv hc hs k
        obtain ⟨hx, hb, -, -, -, hown, hin, hts, -⟩ := X
        match rst, hv with
        | [], hv => exact hv.elim
        | w :: rst, hv =>
          obtain ⟨hv0, hv⟩ := hv
          obtain ⟨ad, w1, e1, h1, hv1⟩ := zs_ref hv
          subst e1
          obtain ⟨hP, hK, hD, hS, hh⟩ := id hW
          obtain ⟨el, he⟩ := zs_at h1
          have hcell := hh.2 o _ he
          rw [hcj] at hcell
          obtain ⟨gs, e2, h2⟩ := hcell
          dsimp only at e2
          subst e2
          obtain ⟨t1, t2⟩ := hty _ _ hv0
          have hgl : k0 < gs.length := by rw [← h2.len]; exact hlt
          have fin : ∀ (H1 : Heap) (locs1 : List Loc), va_P (dC, dI) vwCl (ws.set o (ad, .inr (cj, gs.set k0 w))) H1 → va_D A (ws.set o (ad, .inr (cj, gs.set k0 w))) → va_S A s.heap H1 locs1 → W p l e R s mid args below meth c H1 locs1 cells slots Q (F0 mid (bp + 3) rls w1) := by
            intro H1 locs1 hP1 hD1 hS1
            refine k H1 locs1 _ tys _ ⟨hP1, hK, hD1, hS1, hh.set he ⟨_, rfl, h2.set k0 hv0⟩⟩ ⟨[], ?_⟩ ?_
            · rw [zs_setmap he, List.append_nil]
            · rw [zs_setmap he]
              exact hv1
          rcases hfin with hf | ⟨hf1, hf2⟩
          · exact va_put (D := (dC, dI)) hx hb hts (zc_clin hci) (zm_ty cj) (zc_ty hci).1 (zc_ty hci).2 hown hK hP hD hS o he hci k0 hk (hts _ hw) (fun _ h9 => h9) hf ((zc_ty hci).1 k0 hk) t1 t2 hgl hd fin
          · cases hfl : (q.2.1 k0).2.2.2 with
            | false => exact va_put (D := (dC, dI)) hx hb hts (zc_clin hci) (zm_ty cj) (zc_ty hci).1 (zc_ty hci).2 hown hK hP hD hS o he hci k0 hk (hts _ hw) (fun _ h9 => h9) hfl ((zc_ty hci).1 k0 hk) t1 t2 hgl hd fin
            | true => exact va_putF (D := (dC, dI)) hx hb hts (zc_clin hci) (zm_ty cj) (zc_ty hci).1 (zc_ty hci).2 hown hK hP hD hS o he hci k0 hk (hts _ hw) (fun _ h9 => h9) hfl (hin hf1) hf2 ((zc_ty hci).1 k0 hk) t1 t2 hgl hd fin
      · cases hg
    · cases hg
  · cases hg
end ZH
end
section
/-! .. arrays, new cells, switches -/
theorem zm_ix_in {x : Int32} {n k : Nat} (h : zm_ix x n = some k) : vp_in x n ∧ k = x.toNatClampNeg := by
  unfold zm_ix at h
  split at h
  · cases h
  · rename_i h1
    split at h
    · rename_i h2
      cases h
      exact ⟨fun z => z.elim h1 (fun z => by omega), rfl⟩
    · cases h
theorem zm_ix_nn {x : Int32} {n k : Nat} (h : zm_ix x n = some k) : ¬ x < 0 ∧ x.toNatClampNeg = k ∧ k < n := by
  unfold zm_ix at h
  split at h
  · cases h
  · rename_i h1
    split at h
    · rename_i h2
      cases h
      exact ⟨h1, rfl, h2⟩
    · cases h
section ZA
variable {l : Launch} {b L : Nat} {xs : Nat → Int32} {m bp : Nat} {ls : zm_L} {r : List Value} {h h' : zm_H} {o idx : Nat} {q : vw_C}
theorem zh_iald {x : Int32} {y : Int32} (hg : zm_aI h o x = some y) (hd : decode (zm_by m) bp = .ok (.iaload, 1)) : zs_SH l b L xs m bp ls (.int x :: .ref o :: r) h (bp + 1) (.int y :: r) h 0 0 := by
  refine ⟨⟨rfl, rfl⟩, ?_⟩
  intro p e R s mid args below meth c dC dI A H locs cells slots Q ws tys rls rst X hW hl hlen hv hc hs k
  obtain ⟨hx, hb, -, -, -, hown, -, hts, hN, hXX, hbl, hbA, hA, -⟩ := X
  obtain ⟨w0, e0, hv0⟩ := zs_int hv
  obtain ⟨ad, w1, e1, h1, hv1⟩ := zs_ref hv0
  subst e1
  subst e0
  obtain ⟨hP, hK, hD, hS, hh⟩ := id hW
  obtain ⟨el, he⟩ := zs_at h1
  have hcell := hh.2 o _ he
  unfold zm_aI at hg
  split at hg
  · rename_i n f hcj
    rw [hcj] at hcell
    obtain ⟨cA, t, e2, ht⟩ := hcell
    dsimp only at e2
    subst e2
    obtain ⟨kk, hk1, hk2⟩ := Option.map_eq_some_iff.mp hg
    obtain ⟨i1, i2⟩ := zm_ix_in hk1
    subst i2
    subst hk2
    exact va_iald hx hb hK hP o t he ht i1 hd (k H locs ws tys _ hW ⟨[], by simp⟩ (zs_mI hv1))
  · cases hg
theorem zh_zald {x : Int32} {y : Int32} (hg : zm_aZ h o x = some y) (hd : decode (zm_by m) bp = .ok (.baload, 1)) : zs_SH l b L xs m bp ls (.int x :: .ref o :: r) h (bp + 1) (.int y :: r) h 0 0 := by
  refine ⟨⟨rfl, rfl⟩, ?_⟩
  intro p e R s mid args below meth c dC dI A H locs cells slots Q ws tys rls rst X hW hl hlen hv hc hs k
  obtain ⟨hx, hb, -, -, -, hown, -, hts, hN, hXX, hbl, hbA, hA, -⟩ := X
  obtain ⟨w0, e0, hv0⟩ := zs_int hv
  obtain ⟨ad, w1, e1, h1, hv1⟩ := zs_ref hv0
  subst e1
  subst e0
  obtain ⟨hP, hK, hD, hS, hh⟩ := id hW
  obtain ⟨el, he⟩ := zs_at h1
  have hcell := hh.2 o _ he
  unfold zm_aZ at hg
  split at hg
  · rename_i n f hcj
    rw [hcj] at hcell
    obtain ⟨cA, t, e2, ht⟩ := hcell
    dsimp only at e2
    subst e2
    obtain ⟨kk, hk1, hk2⟩ := Option.map_eq_some_iff.mp hg
    obtain ⟨i1, i2⟩ := zm_ix_in hk1
    subst i2
    subst hk2
    exact va_zald hx hb hK hP o t he ht i1 hd (k H locs ws tys _ hW ⟨[], by simp⟩ (zs_mI hv1))
  · cases hg
theorem zh_lald {x : Int32} {y : Int64} (hg : zm_aL h o x = some y) (hd : decode (zm_by m) bp = .ok (.laload, 1)) : zs_SH l b L xs m bp ls (.int x :: .ref o :: r) h (bp + 1) (.long y :: r) h 0 0 := by
  refine ⟨⟨rfl, rfl⟩, ?_⟩
  intro p e R s mid args below meth c dC dI A H locs cells slots Q ws tys rls rst X hW hl hlen hv hc hs k
  obtain ⟨hx, hb, -, -, -, hown, -, hts, hN, hXX, hbl, hbA, hA, -⟩ := X
  obtain ⟨w0, e0, hv0⟩ := zs_int hv
  obtain ⟨ad, w1, e1, h1, hv1⟩ := zs_ref hv0
  subst e1
  subst e0
  obtain ⟨hP, hK, hD, hS, hh⟩ := id hW
  obtain ⟨el, he⟩ := zs_at h1
  have hcell := hh.2 o _ he
  unfold zm_aL at hg
  split at hg
  · rename_i n f hcj
    rw [hcj] at hcell
    obtain ⟨cA, t, e2, ht⟩ := hcell
    dsimp only at e2
    subst e2
    obtain ⟨kk, hk1, hk2⟩ := Option.map_eq_some_iff.mp hg
    obtain ⟨i1, i2⟩ := zm_ix_in hk1
    subst i2
    subst hk2
    exact va_lald hx hb hK hP o t he ht i1 hd (k H locs ws tys _ hW ⟨[], by simp⟩ (zs_mL hv1))
  · cases hg
theorem zh_sld {x : Int32} {z : UInt32} {kk : Nat} (hg : zm_ix x L = some kk) (hd : decode (zm_by m) bp = .ok (.iaload, 1)) : zs_SH l b L xs m bp ls (.int x :: .float z :: r) h (bp + 1) (.int (xs kk) :: r) h 0 0 := by
  refine ⟨⟨rfl, rfl⟩, ?_⟩
  intro p e R s mid args below meth c dC dI A H locs cells slots Q ws tys rls rst X hW hl hlen hv hc hs k
  obtain ⟨hx, hb, -, -, -, hown, -, hts, hN, hXX, hbl, hbA, hA, -⟩ := X
  obtain ⟨w0, e0, hv0⟩ := zs_int hv
  obtain ⟨w1, e1, hv1⟩ := zs_flt hv0
  subst e1
  subst e0
  obtain ⟨hP, hK, hD, hS, hh⟩ := id hW
  obtain ⟨i1, i2⟩ := zm_ix_in hg
  subst i2
  exact va_sld hx hb hXX hbl hbA hS i1 hd (k H locs ws tys _ hW ⟨[], by simp⟩ (zs_mI hv1))
theorem zh_slen {z : UInt32} (hd : decode (zm_by m) bp = .ok (.arraylength, 1)) : zs_SH l b L xs m bp ls (.float z :: r) h (bp + 1) (.int (Int32.ofNat L) :: r) h 0 0 := by
  refine ⟨⟨rfl, rfl⟩, ?_⟩
  intro p e R s mid args below meth c dC dI A H locs cells slots Q ws tys rls rst X hW hl hlen hv hc hs k
  obtain ⟨hx, hb, -, -, -, hown, -, hts, hN, hXX, hbl, hbA, hA, -⟩ := X
  obtain ⟨w1, e1, hv1⟩ := zs_flt hv
  subst e1
  obtain ⟨hP, hK, hD, hS, hh⟩ := id hW
  exact va_slen hx hb hXX hbl hbA hS hd (k H locs ws tys _ hW ⟨[], by simp⟩ (zs_mI hv1))
theorem zh_alen {n : Nat} (hg : zm_ln h o = some n) (hd : decode (zm_by m) bp = .ok (.arraylength, 1)) : zs_SH l b L xs m bp ls (.ref o :: r) h (bp + 1) (.int (Int32.ofNat n) :: r) h 0 0 := by
  refine ⟨⟨rfl, rfl⟩, ?_⟩
  intro p e R s mid args below meth c dC dI A H locs cells slots Q ws tys rls rst X hW hl hlen hv hc hs k
  obtain ⟨hx, hb, -, -, -, hown, -, hts, hN, hXX, hbl, hbA, hA, -⟩ := X
  obtain ⟨ad, w1, e1, h1, hv1⟩ := zs_ref hv
  subst e1
  obtain ⟨hP, hK, hD, hS, hh⟩ := id hW
  obtain ⟨el, he⟩ := zs_at h1
  have hcell := hh.2 o _ he
  unfold zm_ln at hg
  split at hg
  · rename_i ty n0 f hcj
    cases hg
    rw [hcj] at hcell
    match f, hcell with
    | .inl f, hcell =>
      obtain ⟨cA, t, e2, ht⟩ := hcell
      dsimp only at e2
      subst e2
      exact va_alen hx hb hK hP o t he ht rfl hd (k H locs ws tys _ hW ⟨[], by simp⟩ (zs_mI hv1))
    | .inr (.inl f), hcell =>
      obtain ⟨cA, t, e2, ht⟩ := hcell
      dsimp only at e2
      subst e2
      exact va_alen hx hb hK hP o t he ht rfl hd (k H locs ws tys _ hW ⟨[], by simp⟩ (zs_mI hv1))
    | .inr (.inr f), hcell =>
      obtain ⟨cA, t, g, e2, ht, -⟩ := hcell
      dsimp only at e2
      subst e2
      exact va_alen hx hb hK hP o t he ht rfl hd (k H locs ws tys _ hW ⟨[], by simp⟩ (zs_mI hv1))
  · cases hg
theorem zh_aald {x : Int32} {y : Nat} (hg : zm_aR h o x = some y) (hd : decode (zm_by m) bp = .ok (.aaload, 1)) : zs_SH l b L xs m bp ls (.int x :: .ref o :: r) h (bp + 1) (.ref y :: r) h 0 0 := by
  refine ⟨⟨rfl, rfl⟩, ?_⟩
  intro p e R s mid args below meth c dC dI A H locs cells slots Q ws tys rls rst X hW hl hlen hv hc hs k
  obtain ⟨hx, hb, -, -, -, hown, -, hts, hN, hXX, hbl, hbA, hA, -⟩ := X
  obtain ⟨w0, e0, hv0⟩ := zs_int hv
  obtain ⟨ad, w1, e1, h1, hv1⟩ := zs_ref hv0
  subst e1
  subst e0
  obtain ⟨hP, hK, hD, hS, hh⟩ := id hW
  obtain ⟨el, he⟩ := zs_at h1
  have hcell := hh.2 o _ he
  unfold zm_aR at hg
  split at hg
  · rename_i C n f hcj
    rw [hcj] at hcell
    obtain ⟨cA, t, g, e2, ht, hfg⟩ := hcell
    dsimp only at e2
    subst e2
    obtain ⟨kk, hk1, hk2⟩ := Option.bind_eq_some_iff.mp hg
    obtain ⟨i1, i2⟩ := zm_ix_in hk1
    subst i2
    have h3 := hfg x.toNatClampNeg
    rw [hk2] at h3
    obtain ⟨z, hz, hz2⟩ := h3
    refine va_aldq hx hb hK hP o t he ht i1 hd ?_
    rw [hz2]
    exact k H locs ws tys _ hW ⟨[], by simp⟩ (zs_mR hz hv1)
  · cases hg
theorem zh_iast {x : Int32} {y : Int32} (hg : zm_sI h o x y = some h') (hd : decode (zm_by m) bp = .ok (.iastore, 1)) : zs_SH l b L xs m bp ls (.int y :: .int x :: .ref o :: r) h (bp + 1) r h' 0 0 := by
  unfold zm_sI at hg
  split at hg
  · rename_i n f hcj
    obtain ⟨kk, hk1, hk2⟩ := Option.map_eq_some_iff.mp hg
    obtain ⟨i1, i2⟩ := zm_ix_in hk1
    subst i2
    subst hk2
    refine ⟨⟨rfl, rfl⟩, ?_⟩
    intro p e R s mid args below meth c dC dI A H locs cells slots Q ws tys rls rst X hW hl hlen hv hc hs k
    obtain ⟨hx, hb, -, -, -, hown, -, hts, hN, hXX, hbl, hbA, hA, -⟩ := X
    obtain ⟨wq, eq, hvq⟩ := zs_int hv
    obtain ⟨w0, e0, hv0⟩ := zs_int hvq
    obtain ⟨ad, w1, e1, h1, hv2⟩ := zs_ref hv0
    subst e1
    subst e0
    subst eq
    obtain ⟨hP, hK, hD, hS, hh⟩ := id hW
    obtain ⟨el, he⟩ := zs_at h1
    have hcell := hh.2 o _ he
    rw [hcj] at hcell
    obtain ⟨cA, t, e2, ht⟩ := hcell
    dsimp only at e2
    subst e2
    refine va_iast hx hb hK hP hD hS o t he ht i1 hd fun H1 locs1 hP1 hD1 hS1 => ?_
    refine k H1 locs1 _ tys _ ⟨hP1, hK, hD1, hS1, hh.set he ⟨cA, t, rfl, ht⟩⟩ ⟨[], ?_⟩ ?_
    · rw [zs_setmap he, List.append_nil]
    · rw [zs_setmap he]
      exact hv2
  · cases hg
theorem zh_zast {x : Int32} {y : Int32} (hg : zm_sZ h o x y = some h') (hd : decode (zm_by m) bp = .ok (.bastore, 1)) : zs_SH l b L xs m bp ls (.int y :: .int x :: .ref o :: r) h (bp + 1) r h' 0 0 := by
  unfold zm_sZ at hg
  split at hg
  · rename_i n f hcj
    obtain ⟨kk, hk1, hk2⟩ := Option.map_eq_some_iff.mp hg
    obtain ⟨i1, i2⟩ := zm_ix_in hk1
    subst i2
    subst hk2
    refine ⟨⟨rfl, rfl⟩, ?_⟩
    intro p e R s mid args below meth c dC dI A H locs cells slots Q ws tys rls rst X hW hl hlen hv hc hs k
    obtain ⟨hx, hb, -, -, -, hown, -, hts, hN, hXX, hbl, hbA, hA, -⟩ := X
    obtain ⟨wq, eq, hvq⟩ := zs_int hv
    obtain ⟨w0, e0, hv0⟩ := zs_int hvq
    obtain ⟨ad, w1, e1, h1, hv2⟩ := zs_ref hv0
    subst e1
    subst e0
    subst eq
    obtain ⟨hP, hK, hD, hS, hh⟩ := id hW
    obtain ⟨el, he⟩ := zs_at h1
    have hcell := hh.2 o _ he
    rw [hcj] at hcell
    obtain ⟨cA, t, e2, ht⟩ := hcell
    dsimp only at e2
    subst e2
    refine va_zast hx hb hK hP hD hS o t he ht i1 hd fun H1 locs1 hP1 hD1 hS1 => ?_
    refine k H1 locs1 _ tys _ ⟨hP1, hK, hD1, hS1, hh.set he ⟨cA, t, rfl, ht⟩⟩ ⟨[], ?_⟩ ?_
    · rw [zs_setmap he, List.append_nil]
    · rw [zs_setmap he]
      exact hv2
  · cases hg
theorem zh_last {x : Int32} {y : Int64} (hg : zm_sL h o x y = some h') (hd : decode (zm_by m) bp = .ok (.lastore, 1)) : zs_SH l b L xs m bp ls (.long y :: .int x :: .ref o :: r) h (bp + 1) r h' 0 0 := by
  unfold zm_sL at hg
  split at hg
  · rename_i n f hcj
    obtain ⟨kk, hk1, hk2⟩ := Option.map_eq_some_iff.mp hg
    obtain ⟨i1, i2⟩ := zm_ix_in hk1
    subst i2
    subst hk2
    refine ⟨⟨rfl, rfl⟩, ?_⟩
    intro p e R s mid args below meth c dC dI A H locs cells slots Q ws tys rls rst X hW hl hlen hv hc hs k
    obtain ⟨hx, hb, -, -, -, hown, -, hts, hN, hXX, hbl, hbA, hA, -⟩ := X
    obtain ⟨wq, eq, hvq⟩ := zs_lng hv
    obtain ⟨w0, e0, hv0⟩ := zs_int hvq
    obtain ⟨ad, w1, e1, h1, hv2⟩ := zs_ref hv0
    subst e1
    subst e0
    subst eq
    obtain ⟨hP, hK, hD, hS, hh⟩ := id hW
    obtain ⟨el, he⟩ := zs_at h1
    have hcell := hh.2 o _ he
    rw [hcj] at hcell
    obtain ⟨cA, t, e2, ht⟩ := hcell
    dsimp only at e2
    subst e2
    refine va_last hx hb hK hP hD hS o t he ht i1 hd fun H1 locs1 hP1 hD1 hS1 => ?_
    refine k H1 locs1 _ tys _ ⟨hP1, hK, hD1, hS1, hh.set he ⟨cA, t, rfl, ht⟩⟩ ⟨[], ?_⟩ ?_
    · rw [zs_setmap he, List.append_nil]
    · rw [zs_setmap he]
      exact hv2
  · cases hg
theorem zh_aast {x : Int32} {y : Nat} (hg : zm_sR h o x y = some h') (hd : decode (zm_by m) bp = .ok (.aastore, 1)) : zs_SH l b L xs m bp ls (.ref y :: .int x :: .ref o :: r) h (bp + 1) r h' 0 0 := by
  unfold zm_sR at hg
  split at hg
  · rename_i C n f hcj
    split at hg
    · rename_i cy fy hcy
      split at hg
      · rename_i hcc
        obtain ⟨hc1, hc2⟩ := hcc
        subst hc1
        subst hc2
        obtain ⟨kk, hk1, hk2⟩ := Option.map_eq_some_iff.mp hg
        obtain ⟨i1, i2⟩ := zm_ix_in hk1
        subst i2
        subst hk2
        refine ⟨⟨rfl, rfl⟩, ?_⟩
        intro p e R s mid args below meth c dC dI A H locs cells slots Q ws tys rls rst X hW hl hlen hv hc hs k
        obtain ⟨hx, hb, -, -, -, hown, -, hts, hN, hXX, hbl, hbA, hA, -⟩ := X
        obtain ⟨ay, wq, eq, hy1, hvq⟩ := zs_ref hv
        obtain ⟨w0, e0, hv0⟩ := zs_int hvq
        obtain ⟨ad, w1, e1, h1, hv2⟩ := zs_ref hv0
        subst e1
        subst e0
        subst eq
        obtain ⟨hP, hK, hD, hS, hh⟩ := id hW
        obtain ⟨el, he⟩ := zs_at h1
        have hcell := hh.2 o _ he
        rw [hcj] at hcell
        obtain ⟨cA, t, g, e2, ht, hfg⟩ := hcell
        dsimp only at e2
        subst e2
        obtain ⟨ely, hey⟩ := zs_at hy1
        have hcelly := hh.2 y _ hey
        rw [hcy] at hcelly
        obtain ⟨gy, e3, hgy⟩ := hcelly
        dsimp only at e3
        subst e3
        refine va_astq (r := (RX1, TX1, 4)) hx hb hK hP hD hS o t y 1 he ht hey rfl i1 hd fun H1 locs1 hP1 hD1 hS1 => ?_
        refine k H1 locs1 _ tys _ ⟨hP1, hK, hD1, hS1, hh.set he ⟨cA, t, _, rfl, ht, fun i => ?_⟩⟩ ⟨[], ?_⟩ ?_
        · unfold va_up
          by_cases hi : i = x.toNatClampNeg
          · rw [if_pos hi, if_pos hi]
            exact ⟨ay, hy1, rfl⟩
          · rw [if_neg hi, if_neg hi]
            exact hfg i
        · rw [zs_setmap he, List.append_nil]
        · rw [zs_setmap he]
          exact hv2
      · cases hg
    · cases hg
  · cases hg
theorem zc_dsv : ((List.range 9).all fun a => (zm_ds a).all fun v => match v with
    | .int _ => true
    | .null => true
    | _ => false) = true := by decide +kernel
theorem zs_dsr {as : List Nat} : ∀ (vs : List Value), (vs.all fun v => match v with
    | .int _ => true
    | .null => true
    | _ => false) = true → zs_vs b as vs vs
  | [], _ => trivial
  | v :: vs, hv => by
    simp only [List.all_cons, Bool.and_eq_true] at hv
    refine ⟨?_, zs_dsr vs hv.2⟩
    have h1 := hv.1
    cases v <;> first | rfl | (simp at h1)
theorem zm_dsg {a j : Nat} (hj : j < (zm_cl a).2.2) : defaultValue (zm_ty a j) = vp_V (zm_ds a) j := by
  simp [vp_V, zm_ds, zm_df, hj]
theorem zh_new {a : Nat} (ha : a < 9) (hci : vwCl[a]? = some q) (hw0 : Cond.classLink (zm_ow m) idx q.1 ∈ zm_GW) (hw1 : Cond.instantiable q.1 q.2.2 ∈ zm_GW) (hw2 : Cond.initialized q.1 ∈ zm_GW) (hd : decode (zm_by m) bp = .ok (.new idx, 3)) : zs_SH l b L xs m bp ls r h (bp + 3) (.ref h.1 :: r) (zm_nw h (.inr (a, zm_ds a)) (zm_cl a).2.2) 1 (zm_cl a).2.2 := by
  refine ⟨⟨rfl, rfl⟩, ?_⟩
  intro p e R s mid args below meth c dC dI A H locs cells slots Q ws tys rls rst X hW hl hlen hv hc hs k
  obtain ⟨hx, hb, -, -, -, hown, -, hts, hN, hXX, hbl, hbA, hA, -⟩ := X
  obtain ⟨hP, hK, hD, hS, hh⟩ := id hW
  have hq : zm_cl a = q := by unfold zm_cl; rw [hci]
  have hj := @zm_dsg a
  rw [hq] at hj hs k
  refine va_new (fs := zm_ds a) hx hb hts (zc_clin hci) (zm_ty a) (zc_ty hci).1 hown (hts _ hw0) (hts _ hw1) (hts _ hw2) hK hP hD hS hA hci (fun j hj2 => hj hj2) hc hs hd fun q0 H1 hP1 hD1 hS1 => ?_
  have hds := List.all_eq_true.mp zc_dsv a (List.mem_range.mpr ha)
  refine k H1 locs _ (tys ++ []) _ ⟨hP1, by rw [List.append_nil]; exact hK, hD1, hS1, ?_⟩ ⟨[q0], by simp⟩ (zs_mR ?_ ?_)
  · exact hh.push ⟨_, rfl, zs_dsr _ hds⟩
  · rw [hh.1]
    simp
  · rw [List.map_append]
    exact hv.ap _
theorem zh_newI {x : Int32} {kk : Nat} {t : ArrayType} (ht : newarray.typeOf t = .int) (hg : zm_ix x 100001 = some kk) (hw : Cond.arrayClass (newarray.typeOf t) ∈ zm_GW) (hd : decode (zm_by m) bp = .ok (.newarray t, 2)) : zs_SH l b L xs m bp ls (.int x :: r) h (bp + 2) (.ref h.1 :: r) (zm_nw h (.inl (.int, kk, .inl fun _ => 0)) kk) 1 kk := by
  refine ⟨⟨rfl, rfl⟩, ?_⟩
  intro p e R s mid args below meth c dC dI A H locs cells slots Q ws tys rls rst X hW hl hlen hv hc hs k
  obtain ⟨hx, hb, -, -, -, hown, -, hts, hN, hXX, hbl, hbA, hA, -⟩ := X
  obtain ⟨w0, e0, hv0⟩ := zs_int hv
  subst e0
  obtain ⟨hP, hK, hD, hS, hh⟩ := id hW
  obtain ⟨i1, i2, i3⟩ := zm_ix_nn hg
  refine va_newa hx hb (hts _ hw) ht hK hP hD hS hA (a0 := (kk, .inl fun _ => 0)) (fun cA => rfl) i1 i2 (by simp only [componentBytes]; omega) hc hs hd fun q0 cA H1 hK1 hP1 hD1 hS1 => ?_
  refine k H1 locs _ (tys ++ [(cA, .int)]) _ ⟨hP1, hK1, hD1, hS1, hh.push ⟨cA, tys.length, rfl, by simp⟩⟩ ⟨[q0], by simp⟩ (zs_mR ?_ ?_)
  · rw [hh.1]
    simp
  · rw [List.map_append]
    exact hv0.ap _
theorem zh_newL {x : Int32} {kk : Nat} {t : ArrayType} (ht : newarray.typeOf t = .long) (hg : zm_ix x 100001 = some kk) (hw : Cond.arrayClass (newarray.typeOf t) ∈ zm_GW) (hd : decode (zm_by m) bp = .ok (.newarray t, 2)) : zs_SH l b L xs m bp ls (.int x :: r) h (bp + 2) (.ref h.1 :: r) (zm_nw h (.inl (.long, kk, .inr (.inl fun _ => 0))) kk) 1 kk := by
  refine ⟨⟨rfl, rfl⟩, ?_⟩
  intro p e R s mid args below meth c dC dI A H locs cells slots Q ws tys rls rst X hW hl hlen hv hc hs k
  obtain ⟨hx, hb, -, -, -, hown, -, hts, hN, hXX, hbl, hbA, hA, -⟩ := X
  obtain ⟨w0, e0, hv0⟩ := zs_int hv
  subst e0
  obtain ⟨hP, hK, hD, hS, hh⟩ := id hW
  obtain ⟨i1, i2, i3⟩ := zm_ix_nn hg
  refine va_newa hx hb (hts _ hw) ht hK hP hD hS hA (a0 := (kk, .inr (.inl fun _ => 0))) (fun cA => rfl) i1 i2 (by simp only [componentBytes]; omega) hc hs hd fun q0 cA H1 hK1 hP1 hD1 hS1 => ?_
  refine k H1 locs _ (tys ++ [(cA, .long)]) _ ⟨hP1, hK1, hD1, hS1, hh.push ⟨cA, tys.length, rfl, by simp⟩⟩ ⟨[q0], by simp⟩ (zs_mR ?_ ?_)
  · rw [hh.1]
    simp
  · rw [List.map_append]
    exact hv0.ap _
theorem zh_newZ {x : Int32} {kk : Nat} {t : ArrayType} (ht : newarray.typeOf t = .boolean) (hg : zm_ix x 100001 = some kk) (hw : Cond.arrayClass (newarray.typeOf t) ∈ zm_GW) (hd : decode (zm_by m) bp = .ok (.newarray t, 2)) : zs_SH l b L xs m bp ls (.int x :: r) h (bp + 2) (.ref h.1 :: r) (zm_nw h (.inl (.boolean, kk, .inl fun _ => 0)) kk) 1 kk := by
  refine ⟨⟨rfl, rfl⟩, ?_⟩
  intro p e R s mid args below meth c dC dI A H locs cells slots Q ws tys rls rst X hW hl hlen hv hc hs k
  obtain ⟨hx, hb, -, -, -, hown, -, hts, hN, hXX, hbl, hbA, hA, -⟩ := X
  obtain ⟨w0, e0, hv0⟩ := zs_int hv
  subst e0
  obtain ⟨hP, hK, hD, hS, hh⟩ := id hW
  obtain ⟨i1, i2, i3⟩ := zm_ix_nn hg
  refine va_newa hx hb (hts _ hw) ht hK hP hD hS hA (a0 := (kk, .inl fun _ => 0)) (fun cA => rfl) i1 i2 (by simp only [componentBytes]; omega) hc hs hd fun q0 cA H1 hK1 hP1 hD1 hS1 => ?_
  refine k H1 locs _ (tys ++ [(cA, .boolean)]) _ ⟨hP1, hK1, hD1, hS1, hh.push ⟨cA, tys.length, rfl, by simp⟩⟩ ⟨[q0], by simp⟩ (zs_mR ?_ ?_)
  · rw [hh.1]
    simp
  · rw [List.map_append]
    exact hv0.ap _
theorem zh_newq {x : Int32} {kk : Nat} (hg : zm_ix x 100001 = some kk) (hw : Cond.classLink (zm_ow m) idx RX1 ∈ zm_GW) (hd : decode (zm_by m) bp = .ok (.anewarray idx, 3)) : zs_SH l b L xs m bp ls (.int x :: r) h (bp + 3) (.ref h.1 :: r) (zm_nw h (.inl (.object RX1, kk, .inr (.inr fun _ => none))) kk) 1 kk := by
  refine ⟨⟨rfl, rfl⟩, ?_⟩
  intro p e R s mid args below meth c dC dI A H locs cells slots Q ws tys rls rst X hW hl hlen hv hc hs k
  obtain ⟨hx, hb, -, -, -, hown, -, hts, hN, hXX, hbl, hbA, hA, -⟩ := X
  obtain ⟨w0, e0, hv0⟩ := zs_int hv
  subst e0
  obtain ⟨hP, hK, hD, hS, hh⟩ := id hW
  obtain ⟨i1, i2, i3⟩ := zm_ix_nn hg
  refine va_newq hx hb hown (hts _ hw) hN.2.1 hK hP hD hS hA i1 i2 (by omega) hc hs hd fun q0 cA H1 hK1 hP1 hD1 hS1 => ?_
  refine k H1 locs _ (tys ++ [(cA, .object RX1)]) _ ⟨hP1, hK1, hD1, hS1, hh.push ⟨cA, tys.length, _, rfl, by simp, fun i => rfl⟩⟩ ⟨[q0], by simp⟩ (zs_mR ?_ ?_)
  · rw [hh.1]
    simp
  · rw [List.map_append]
    exact hv0.ap _
theorem zh_copy {s0 d0 : Nat} {sp dp n : Int32} (hg : zm_cp h s0 sp d0 dp n = some h') (hcs : (r.map fun v => v.category).sum ≤ 8) (hw0 : Cond.methodLink (zm_ow m) idx arraycopyName ∈ zm_GW) (hw1 : Cond.native arraycopyName ∈ zm_GW) (hw2 : Cond.static arraycopyName ∈ zm_GW) (hw3 : Cond.initialized "java/lang/System" ∈ zm_GW) (hf : 1 ≤ zm_rf m) (hlo : 40 ≤ zm_rl m)
    (hd : decode (zm_by m) bp = .ok (.invokestatic idx, 3)) : zs_SH l b L xs m bp ls (.int n :: .int dp :: .ref d0 :: .int sp :: .ref s0 :: r) h (bp + 3) r h' 0 0 := by
  unfold zm_cp at hg
  split at hg
  · rename_i n0 f n1 g hc0 hc1
    split at hg
    · cases hg
    · rename_i hneg
      split at hg
      · rename_i hin
        cases hg
        refine ⟨⟨rfl, rfl⟩, ?_⟩
        intro p e R s mid args below meth c dC dI A H locs cells slots Q ws tys rls rst X hW hl hlen hv hc hs k
        obtain ⟨hx, hb, -, -, hml, hown, -, hts, hN, hXX, hbl, hbA, hA, -, hrf, hrl⟩ := X
        obtain ⟨w0, e0, hv0⟩ := zs_int hv
        obtain ⟨w1, e1, hv1⟩ := zs_int hv0
        obtain ⟨ad, w2, e2, h2, hv2⟩ := zs_ref hv1
        obtain ⟨w3, e3, hv3⟩ := zs_int hv2
        obtain ⟨as, w4, e4, h4, hv4⟩ := zs_ref hv3
        subst e4
        subst e3
        subst e2
        subst e1
        subst e0
        obtain ⟨hP, hK, hD, hS, hh⟩ := id hW
        obtain ⟨el, he⟩ := zs_at h4
        obtain ⟨ek, hek⟩ := zs_at h2
        have hcell := hh.2 s0 _ he
        have hcelk := hh.2 d0 _ hek
        rw [hc0] at hcell
        rw [hc1] at hcelk
        obtain ⟨cA, t, e5, ht⟩ := hcell
        obtain ⟨cB, tb, e6, htb⟩ := hcelk
        dsimp only at e5 e6
        subst e5
        subst e6
        refine va_copyi hx hb (by rw [hml, ← hlen, ← hl.1]) hown (hts _ hw0) (hts _ hw1) (hts _ hw2) (hts _ hw3) hK hP hD hS s0 d0 t tb he hek ht htb rfl (fun z => hneg (Or.inl z)) (fun z => hneg (Or.inr (Or.inl z))) (fun z => hneg (Or.inr (Or.inr z))) hin.1 hin.2 (fun i hi => rfl) (Nat.le_trans hf hrf) ?_ hd fun H1 locs1 hP1 hD1 hS1 => ?_
        · have h9 : nativeFrameWords "java/lang/System" "arraycopy" 5 = 7 := by decide +kernel
          rw [h9, ← hv4.cat]
          omega
        · refine k H1 locs1 _ tys _ ⟨hP1, hK, hD1, hS1, hh.set hek ⟨cB, tb, rfl, htb⟩⟩ ⟨[], ?_⟩ ?_
          · rw [zs_setmap hek, List.append_nil]
          · rw [zs_setmap hek]
            exact hv4
      · cases hg
  · cases hg
theorem zh_min {x y : Int32} (hcs : (r.map fun v => v.category).sum ≤ 8) (hw0 : Cond.methodLink (zm_ow m) idx Lib.Math.min.name ∈ zm_GW) (hw1 : Cond.static Lib.Math.min.name ∈ zm_GW) (hw2 : Cond.initialized "java/lang/Math" ∈ zm_GW) (hw3 : Cond.code Lib.Math.min.name Lib.Math.min.code 2 (some .int) ∈ zm_GW) (hf : 1 ≤ zm_rf m) (hlo : 40 ≤ zm_rl m)
    (hd : decode (zm_by m) bp = .ok (.invokestatic idx, 3)) : zs_SH l b L xs m bp ls (.int y :: .int x :: r) h (bp + 3) (.int (if y < x then y else x) :: r) h 0 0 := by
  refine ⟨⟨rfl, rfl⟩, ?_⟩
  intro p e R s mid args below meth c dC dI A H locs cells slots Q ws tys rls rst X hW hl hlen hv hc hs k
  obtain ⟨hx, hb, -, -, hml, hown, -, hts, hN, hXX, hbl, hbA, hA, -, hrf, hrl⟩ := X
  obtain ⟨w0, e0, hv0⟩ := zs_int hv
  obtain ⟨w1, e1, hv1⟩ := zs_int hv0
  subst e1
  subst e0
  refine va_mmin hx hb (by rw [hml, ← hlen, ← hl.1]) hown (hts _ hw0) (hts _ hw1) (hts _ hw2) (hts _ hw3) (Nat.le_trans hf hrf) ?_ hc hs hd (k H locs ws tys _ hW ⟨[], by simp⟩ (zs_mI hv1))
  rw [← hv1.cat]
  omega
end ZA
theorem zt_obj {l : Launch} {b L : Nat} {xs : Nat → Int32} {m bp : Nat} {ls : zm_L} {r : List Value} {o idx : Nat} (hcs : (r.map fun v => v.category).sum ≤ 8) (hw0 : Cond.methodLink (zm_ow m) idx Lib.objectInit ∈ zm_GW) (hw1 : Cond.instanceMethod Lib.objectInit ∈ zm_GW) (hw2 : Cond.code Lib.objectInit ⟨#[0xb1]⟩ 1 none ∈ zm_GW) (hf : 1 ≤ zm_rf m) (hlo : 20 ≤ zm_rl m) (hd : decode (zm_by m) bp = .ok (.invokespecial idx, 3)) : zs_ST l b L xs m bp ls (.ref o :: r) ls (bp + 3) r := by
  intro p e R s mid args below meth c A H locs cells slots Q as rls rst X hS hl hlen hv
  obtain ⟨hx, hb, -, -, hml, hown, -, hts, hN, hXX, hbl, hbA, hA, -, hrf, hrl⟩ := X
  obtain ⟨ad, w1, e1, h1, hv1⟩ := zs_ref hv
  subst e1
  refine ⟨_, hv1, fun k => W.objInit hx hb hown (hts _ hw0) (hts _ hw1) (hts _ hw2) rfl (by rw [hml, ← hlen]; exact hl.1) rfl hd (Nat.le_trans hf hrf) ?_ (k rls hl)⟩
  have h2 := lv_room (m := mid) (pc := bp) (ls := rls) (rest := .ref ad :: w1) (st := w1) (by rw [← hv1.cat]; exact hcs)
  omega
theorem zc_swat {m bp : Nat} : ∀ (ts : List Nat) (os : List Int) (j : Nat) (o : Int), zc_sw m bp ts os = true → os[j]? = some o → ∃ t, ts[j]? = some t ∧ zc_tg m t bp o = true
  | [], [], j, o, _, h => by simp at h
  | t :: ts, x :: os, 0, o, h, h2 => by
    simp only [zc_sw, Bool.and_eq_true] at h
    simp only [List.getElem?_cons_zero, Option.some.injEq] at h2
    subst h2
    exact ⟨t, rfl, h.1⟩
  | t :: ts, x :: os, j + 1, o, h, h2 => by
    simp only [zc_sw, Bool.and_eq_true] at h
    simp only [List.getElem?_cons_succ] at h2 ⊢
    exact zc_swat ts os j o h.2 h2
  | [], _ :: _, j, o, h, _ => by simp [zc_sw] at h
  | _ :: _, [], j, o, h, _ => by simp [zc_sw] at h
theorem zc_swlen {m bp : Nat} : ∀ (ts : List Nat) (os : List Int), zc_sw m bp ts os = true → ts.length = os.length
  | [], [], _ => rfl
  | t :: ts, x :: os, h => by
    simp only [zc_sw, Bool.and_eq_true] at h
    simp [zc_swlen ts os h.2]
  | [], _ :: _, h => by simp [zc_sw] at h
  | _ :: _, [], h => by simp [zc_sw] at h
theorem zc_tgt {m t bp : Nat} {off : Int} (h : zc_tg m t bp off = true) : ∃ pc, zm_pc m t = some pc ∧ (bp : Int) + off = (pc : Int) := by
  unfold zc_tg at h
  split at h
  · rename_i e he
    exact ⟨e.1, by unfold zm_pc; rw [he], by simpa using h⟩
  · cases h
theorem zt_sw {l : Launch} {b L : Nat} {xs : Nat → Int32} {m bp : Nat} {ls : zm_L} {r : List Value} {d lo hi : Int} {os : Array Int} {len a : Nat} {v x : Int32} {ts : List Nat} (h1 : zc_tg m a bp d = true) (h2 : zc_sw m bp ts os.toList = true) (h3 : lo = v.toInt) (h4 : hi = v.toInt + (ts.length : Int) - 1)
    (hd : decode (zm_by m) bp = .ok (.tableswitch d lo hi os, len)) : ∃ pc, zm_pc m (zm_sw ts a v x) = some pc ∧ zs_ST l b L xs m bp ls (.int x :: r) ls pc r := by
  subst h3
  subst h4
  have hlen := zc_swlen _ _ h2
  unfold zm_sw
  by_cases c1 : x.toInt < v.toInt
  · rw [if_pos c1]
    obtain ⟨pc, e1, e2⟩ := zc_tgt h1
    refine ⟨pc, e1, ?_⟩
    intro p e R s mid args below meth c A H locs cells slots Q as rls rst X hS hl hlen hv
    obtain ⟨hx, hb, -⟩ := X
    obtain ⟨w0, e0, hv0⟩ := zs_int hv
    subst e0
    exact ⟨_, hv0, fun k => lv_tableOut hx hb hd (Or.inl c1) e2 (k rls hl)⟩
  · rw [if_neg c1]
    rcases Nat.lt_or_ge (x.toInt - v.toInt).toNat ts.length with c2 | c2
    · have hj : os.toList[(x.toInt - v.toInt).toNat]? = some (os.toList[(x.toInt - v.toInt).toNat]'(by rw [← hlen]; exact c2)) := List.getElem?_eq_getElem _
      obtain ⟨t, t1, t2⟩ := zc_swat _ _ _ _ h2 hj
      rw [t1]
      obtain ⟨pc, e1, e2⟩ := zc_tgt t2
      refine ⟨pc, e1, ?_⟩
      intro p e R s mid args below meth c A H locs cells slots Q as rls rst X hS hl hlen2 hv
      obtain ⟨hx, hb, -⟩ := X
      obtain ⟨w0, e0, hv0⟩ := zs_int hv
      subst e0
      refine ⟨_, hv0, fun k => lv_tableIn hx hb hd c1 (by omega) ?_ e2 (k rls hl)⟩
      rw [← hj, Array.getElem?_toList]
    · have hj : ts[(x.toInt - v.toInt).toNat]? = none := List.getElem?_eq_none c2
      rw [hj]
      obtain ⟨pc, e1, e2⟩ := zc_tgt h1
      refine ⟨pc, e1, ?_⟩
      intro p e R s mid args below meth c A H locs cells slots Q as rls rst X hS hl hlen hv
      obtain ⟨hx, hb, -⟩ := X
      obtain ⟨w0, e0, hv0⟩ := zs_int hv
      subst e0
      exact ⟨_, hv0, fun k => lv_tableOut hx hb hd (Or.inr (by omega)) e2 (k rls hl)⟩
end
section
/-! .. returns, throws, what the tables say at an index -/
section ZR
variable {l : Launch} {b L : Nat} {xs : Nat → Int32} {m i bp : Nat} {ls : zm_L} {h : zm_H}
theorem zr_i {x : Int32} {ty : FieldType} (hp : zm_pc m i = some bp) (hr : zm_re m = some ty) (hn : narrow ty (.int x) = .int x) (hd : decode (zm_by m) bp = .ok (.ireturn, 1)) : zs_S l b L xs m i ls [.int x] h (.inl (some (.int x)), h) := by
  refine ⟨Nat.le_refl _, Nat.le_refl _, ?_⟩
  intro p e R s mid args below meth c dC dI A H locs cells slots ws tys rls rst as0 kc ks mc ms pc X hT hW ha hl hml hv hpc h1 h2 h3 h4 h5 h6
  cases Option.some.inj (hp.symm.trans hpc)
  obtain ⟨hx, hb, hre, hlk, -⟩ := X
  obtain ⟨w0, e0, hv0⟩ := zs_int hv
  cases zs_nil hv0
  subst e0
  dsimp only at h3 h4
  obtain rfl : cells = mc := by omega
  obtain rfl : slots = ms := by omega
  obtain ⟨hP, hK, hD, hS, hh⟩ := hW
  exact vx_ret (W.zret hx hb (hre.trans hr) hn (fun t ht hWt => ⟨⟨some (.int x), some (.int x), ws, tys, rfl, rfl, rfl, ha, by rw [ht]; exact hP, va_K.moved hWt.alike hK, hD, hh⟩, hS.F ht⟩) hS.2.2 hd)
theorem zr_v (hp : zm_pc m i = some bp) (hr : zm_re m = none) (hd : decode (zm_by m) bp = .ok (.return_, 1)) : zs_S l b L xs m i ls [] h (.inl none, h) := by
  refine ⟨Nat.le_refl _, Nat.le_refl _, ?_⟩
  intro p e R s mid args below meth c dC dI A H locs cells slots ws tys rls rst as0 kc ks mc ms pc X hT hW ha hl hml hv hpc h1 h2 h3 h4 h5 h6
  cases Option.some.inj (hp.symm.trans hpc)
  obtain ⟨hx, hb, hre, hlk, -⟩ := X
  cases zs_nil hv
  dsimp only at h3 h4
  obtain rfl : cells = mc := by omega
  obtain rfl : slots = ms := by omega
  obtain ⟨hP, hK, hD, hS, hh⟩ := hW
  exact vx_ret (W.vret hx hb (hre.trans hr) (fun t ht hWt => ⟨⟨none, none, ws, tys, rfl, rfl, trivial, ha, by rw [ht]; exact hP, va_K.moved hWt.alike hK, hD, hh⟩, hS.F ht⟩) hS.2.2 hd)
theorem zr_a {x : Nat} {n : String} (hp : zm_pc m i = some bp) (hr : zm_re m = some (.object n)) (hd : decode (zm_by m) bp = .ok (.areturn, 1)) : zs_S l b L xs m i ls [.ref x] h (.inl (some (.ref x)), h) := by
  refine ⟨Nat.le_refl _, Nat.le_refl _, ?_⟩
  intro p e R s mid args below meth c dC dI A H locs cells slots ws tys rls rst as0 kc ks mc ms pc X hT hW ha hl hml hv hpc h1 h2 h3 h4 h5 h6
  cases Option.some.inj (hp.symm.trans hpc)
  obtain ⟨hx, hb, hre, hlk, -⟩ := X
  obtain ⟨ad, w0, e0, ha1, hv0⟩ := zs_ref hv
  cases zs_nil hv0
  subst e0
  dsimp only at h3 h4
  obtain rfl : cells = mc := by omega
  obtain rfl : slots = ms := by omega
  obtain ⟨hP, hK, hD, hS, hh⟩ := hW
  exact vx_ret (W.aret hx hb (hre.trans hr) (Or.inl ⟨n, rfl⟩) (Or.inr ⟨ad, rfl⟩) (fun t ht hWt => ⟨⟨some (.ref x), some (.ref ad), ws, tys, rfl, rfl, ⟨ad, ha1, rfl⟩, ha, by rw [ht]; exact hP, va_K.moved hWt.alike hK, hD, hh⟩, hS.F ht⟩) hS.2.2 hd)
abbrev zm_sup : List String := ["java/lang/RuntimeException", "java/lang/Exception"]
theorem zd_drop {α : Type} (A : List α) (x : α) (t : List α) : (A ++ x :: t).drop (A.length + 1) = t := by
  induction A with
  | nil => rfl
  | cons a A ih => simpa using ih
/-- the words of a throw but the link of the site -/
def zc_rest (X : String) : List Cond := ((Bundle.throwableAtoms ++ Bundle.throwableSAtoms ++ Bundle.chainSAtoms X zm_sup) ++ ((Bundle.ownAtoms RX7 0 X zm_sup).drop ((Bundle.throwableAtoms ++ Bundle.throwableSAtoms ++ Bundle.chainSAtoms X zm_sup).length + 1))).filter vx_no
theorem zc_atS {ic : Nat} {X : String} {w : Cond} (h : w ∈ vx_atS RX7 ic X zm_sup) : w = .methodLink RX7 ic (Bundle.initS X) ∨ w ∈ zc_rest X := by
  unfold vx_atS at h
  unfold zc_rest
  obtain ⟨h1, h2⟩ := List.mem_filter.mp h
  unfold Bundle.ownAtoms at h1
  rcases List.mem_append.mp h1 with h3 | h3
  · exact Or.inr (List.mem_filter.mpr ⟨List.mem_append_left _ h3, h2⟩)
  · rcases List.mem_cons.mp h3 with h4 | h4
    · exact Or.inl h4
    · refine Or.inr (List.mem_filter.mpr ⟨List.mem_append_right _ ?_, h2⟩)
      unfold Bundle.ownAtoms
      rw [zd_drop]
      exact h4
def zc_tw (X : String) (w : Cond) : Bool := (((decide (w ∈ lw_tbl)) && goodWord w) || decide (w = .castable X X) || zm_dcl.any fun x => decide (w = .declares x)) && vx_ot w
theorem zc_tw0 : ((zc_rest (zm_ex 0)).all (zc_tw (zm_ex 0))) = true := by decide +kernel
theorem zc_tw1 : ((zc_rest (zm_ex 1)).all (zc_tw (zm_ex 1))) = true := by decide +kernel
theorem zc_tw2 : ((zc_rest (zm_ex 2)).all (zc_tw (zm_ex 2))) = true := by decide +kernel
theorem zc_twa {a : Nat} (ha : a < 3) : ∀ w ∈ zc_rest (zm_ex a), zc_tw (zm_ex a) w = true := by
  match a, ha with
  | 0, _ => exact List.all_eq_true.mp zc_tw0
  | 1, _ => exact List.all_eq_true.mp zc_tw1
  | 2, _ => exact List.all_eq_true.mp zc_tw2
  | n + 3, h => omega
theorem zc_fit {a : Nat} (ha : a < 3) : Bundle.fit (zm_ex a) = true := by
  match a, ha with
  | 0, _ => decide +kernel
  | 1, _ => decide +kernel
  | 2, _ => decide +kernel
  | n + 3, h => omega
theorem zc_fits : ∀ n ∈ zm_sup, Bundle.fit n = true := by decide +kernel
theorem zs_words {p : Program} {R : Room} {s : State} {mid : MethodId} {args : Array Value} {meth : Method} {c : Code} {A : Nat → Prop} {a ic : Nat} (X : zs_X l p R s mid args meth c m b L xs A) (ha : a < 3) (hw : Cond.methodLink RX7 ic (Bundle.initS (zm_ex a)) ∈ zm_GW) : ∀ w ∈ vx_atS RX7 ic (zm_ex a) zm_sup, w.before args s = true ∧ vx_ot w = true := by
  obtain ⟨-, -, -, -, -, -, -, hts, hN, -⟩ := X
  intro w hw1
  have hg : ∀ w ∈ zm_GW, vx_ot w = true := fun w h => by
    have := (List.mem_filter.mp h).2
    simp [vx_ot, this]
  rcases zc_atS hw1 with h | h
  · subst h
    exact ⟨hts _ hw, hg _ hw⟩
  · have h2 := zc_twa ha w h
    simp only [zc_tw, Bool.or_eq_true, Bool.and_eq_true, decide_eq_true_eq] at h2
    obtain ⟨h2, h3⟩ := h2
    refine ⟨?_, h3⟩
    rcases h2 with (h2 | h2) | h2
    · exact hts _ (List.mem_filter.mpr h2)
    · subst h2
      exact va_Nw.use rfl (hN.2.2.2.1 a ha)
    · obtain ⟨x, hx1, hx2⟩ := List.any_eq_true.mp h2
      simp only [decide_eq_true_eq] at hx2
      subst hx2
      exact va_Nw.use rfl (hN.2.2.2.2.2.2.2 x hx1)
theorem zr_throw {ik is ic si wd a : Nat} (hp : zm_pc m i = some bp) (ha3 : a < 3) (how : zm_ow m = RX7) (hhh : zm_hh m = []) (htx : (zm_tx[si]?).map (fun q => q.1) = some is) (hw0 : Cond.classLink (zm_ow m) ik (zm_ex a) ∈ zm_GW) (hw1 : Cond.initialized (zm_ex a) ∈ zm_GW) (hw2 : Cond.methodLink (zm_ow m) ic (Bundle.initS (zm_ex a)) ∈ zm_GW)
    (hf : 6 ≤ zm_rf m) (hlo : 82 ≤ zm_rl m) (hd : decode (zm_by m) bp = .ok (.new ik, 3)) (hd3 : decode (zm_by m) (bp + 3) = .ok (.dup, 1))
    (hd4 : (decode (zm_by m) (bp + 4) = .ok (.ldc is, 2) ∧ decode (zm_by m) (bp + 6) = .ok (.invokespecial ic, 3) ∧ decode (zm_by m) (bp + 9) = .ok (.athrow, 1)) ∨ (decode (zm_by m) (bp + 4) = .ok (.ldc_w is, 3) ∧ decode (zm_by m) (bp + 7) = .ok (.invokespecial ic, 3) ∧ decode (zm_by m) (bp + 10) = .ok (.athrow, 1))) :
    zs_S l b L xs m i ls [] h (.inr a, zm_th h) := by
  refine ⟨Nat.le_succ _, Nat.le_add_right _ _, ?_⟩
  intro p e R s mid args below meth c dC dI A H locs cells slots ws tys rls rst as0 kc ks mc ms pc X hT hW ha hl hml hv hpc h1 h2 h3 h4 h5 h6
  cases Option.some.inj (hp.symm.trans hpc)
  rw [how] at hw0 hw2
  have hwd := zs_words X ha3 hw2
  obtain ⟨hx, hb, hre, hlk, hmx, hown, -, hts, hN, hXX, hbl, hbA, hA, hst, hrf, hrl⟩ := X
  cases zs_nil hv
  rw [how] at hown
  have h3' : h.2.2.1 + 1 = kc + mc := h3
  have h4' : h.2.2.2 + 6 = ks + ms := h4
  have htab : c.exceptionTable.toList = [] := by
    rw [hT (Or.inr ⟨a, rfl⟩), hhh]
    rfl
  obtain ⟨hP, hK, hD, hS, hh⟩ := hW
  obtain ⟨tq, ht1, ht2⟩ := Option.map_eq_some_iff.mp htx
  obtain ⟨sa, hsa⟩ := hN.2.2.1 tq (List.mem_of_getElem? ht1)
  rw [ht2] at hsa
  have hg : ∀ w ∈ Cond.classLink RX7 ik (zm_ex a) :: Cond.initialized (zm_ex a) :: vx_atS RX7 ic (zm_ex a) zm_sup, vx_ot w = true := by
    intro w hw
    rcases List.mem_cons.mp hw with e | hw
    · subst e; rfl
    · rcases List.mem_cons.mp hw with e | hw
      · subst e; rfl
      · exact (hwd w hw).2
  have hXT : ∀ t : State, s.vm.Alike t.vm → H.size ≤ t.heap.size → (∀ q : Nat, q < H.size → t.heap[q]? = H[q]?) → zs_T b dC dI as0 A (.inr a, zm_th h) (zm_ex a) s t := by
    intro t hal hsz hq
    refine ⟨⟨a, ws, tys, rfl, rfl, ha3, ha, hP.kept fun k q hk => hq _ (hP k q hk).lt, va_K.moved hal hK, hD, hh⟩, ?_, ?_⟩
    · exact Nat.le_trans hS.1 hsz
    · intro q hq1 hq2
      rw [hq q (Nat.lt_of_lt_of_le hq1 hS.1)]
      exact hS.2.1 q hq1 hq2
  rcases hd4 with ⟨d4, d6, d9⟩ | ⟨d4, d6, d9⟩
  · refine vx_throwS (names := zm_sup) hx hb hst hown (zc_fit ha3) zc_fits (hts _ hw0) (hts _ hw1) hsa (fun w hw => (hwd w hw).1) hg hN.2.2.2.2.2.1 hN.2.2.2.2.2.2.1 hS (by rw [hmx, ← hml]; exact hl.1) hd hd3 d4 d6 d9 (fun x hx => by rw [htab] at hx; cases hx) ?_ ?_ (by omega) (by omega) hlk hXT hS.2.2 (by omega) (by omega)
    · show 2 + 3 < R.frames
      omega
    · show 0 + (13 * 3 + 43) ≤ R.locals
      omega
  · refine vx_throwSW (names := zm_sup) hx hb hst hown (zc_fit ha3) zc_fits (hts _ hw0) (hts _ hw1) hsa (fun w hw => (hwd w hw).1) hg hN.2.2.2.2.2.1 hN.2.2.2.2.2.2.1 hS (by rw [hmx, ← hml]; exact hl.1) hd hd3 d4 d6 d9 (fun x hx => by rw [htab] at hx; cases hx) ?_ ?_ (by omega) (by omega) hlk hXT hS.2.2 (by omega) (by omega)
    · show 2 + 3 < R.frames
      omega
    · show 0 + (13 * 3 + 43) ≤ R.locals
      omega
end ZR
/-! what the checks say at an index -/
def zc_All : Prop := ∀ m, m < zm_n → ∃ hp, zc_me m hp = true
theorem zc_roat (m : Nat) : ∀ (es : List zm_E) (pss : List (List Nat)) (z : Option Nat) (i : Nat) (bp : Nat) (ins : Instr) (len a b c : Nat) (v : Int32) (w : Int64) (ts : List Nat), zc_ro m es pss z = true → es[i]? = some (bp, ins, len, a, b, c, v, w, ts) → ∃ ps, zc_in m (match es[i + 1]? with
    | some e => some e.1
    | none => z) bp ins len a b c v w ts ps = true
  | [], _, z, i, bp, ins, len, a, b, c, v, w, ts, h, he => by simp at he
  | e :: es, [], z, i, bp, ins, len, a, b, c, v, w, ts, h, he => by
    obtain ⟨x1, x2, x3, x4, x5, x6, x7, x8, x9⟩ := e
    simp [zc_ro] at h
  | (x1, x2, x3, x4, x5, x6, x7, x8, x9) :: es, ps :: pss, z, 0, bp, ins, len, a, b, c, v, w, ts, h, he => by
    simp only [zc_ro, Bool.and_eq_true] at h
    simp only [List.getElem?_cons_zero, Option.some.injEq, Prod.mk.injEq] at he
    obtain ⟨rfl, rfl, rfl, rfl, rfl, rfl, rfl, rfl, rfl⟩ := he
    refine ⟨ps, ?_⟩
    have h1 := h.1
    cases es with
    | nil => exact h1
    | cons f fs => exact h1
  | (x1, x2, x3, x4, x5, x6, x7, x8, x9) :: es, ps :: pss, z, i + 1, bp, ins, len, a, b, c, v, w, ts, h, he => by
    simp only [zc_ro, Bool.and_eq_true] at h
    simp only [List.getElem?_cons_succ] at he ⊢
    exact zc_roat m es pss z i bp ins len a b c v w ts h.2 he
theorem zm_lt {m i : Nat} {e : zm_E} (h : (zm_cd m)[i]? = some e) : m < zm_n := by
  rcases Nat.lt_or_ge m zm_n with h1 | h1
  · exact h1
  · exfalso
    have h2 : zm_cds.length = zm_n := by decide +kernel
    have h3 : zm_cds[m]? = none := List.getElem?_eq_none (by rw [h2]; exact h1)
    unfold zm_cd at h
    rw [h3] at h
    simp at h
theorem zc_at (hall : zc_All) {m i bp : Nat} {ins : Instr} {len a b c : Nat} {v : Int32} {w : Int64} {ts : List Nat} (h : (zm_cd m)[i]? = some (bp, ins, len, a, b, c, v, w, ts)) : ∃ ps, zc_in m (zm_pc m (i + 1)) bp ins len a b c v w ts ps = true := by
  obtain ⟨hp, h1⟩ := hall m (zm_lt h)
  unfold zc_me at h1
  rw [Bool.and_eq_true] at h1
  exact zc_roat m _ _ none i _ _ _ _ _ _ _ _ _ h1.1 h
theorem zc_next {nx : Option Nat} {k : Nat} (h : zc_nx nx k = true) : nx = some k := by
  unfold zc_nx at h
  split at h
  · rw [Nat.eq_of_beq_eq_true h]
  · cases h
theorem zc_okw {i : Nat} {w : Cond} (h : zc_ok i w = true) : w ∈ zm_GW := by
  unfold zc_ok at h
  simp only [Bool.and_eq_true, decide_eq_true_eq] at h
  exact List.mem_filter.mpr ⟨List.mem_of_getElem? h.1, h.2⟩
theorem zc_okg {i : Nat} {w : Cond} (h : zc_ok i w = true) : goodWord w = true := by
  unfold zc_ok at h
  simp only [Bool.and_eq_true, decide_eq_true_eq] at h
  exact h.2
/-- places rise with the indices -/
theorem zc_rise : ∀ (es : List zm_E) (i j : Nat) (x y : zm_E), zc_up es = true → es[i]? = some x → es[j]? = some y → i < j → x.1 < y.1
  | [], i, j, x, y, _, h, _, _ => by simp at h
  | [e], i, j, x, y, _, h, h2, hij => by
    have h1 := (List.getElem?_eq_some_iff.mp h2).1
    simp at h1
    omega
  | e :: f :: es, 0, j + 1, x, y, hu, h, h2, hij => by
    simp only [List.getElem?_cons_zero, Option.some.injEq] at h
    subst h
    simp only [List.getElem?_cons_succ] at h2
    simp only [zc_up, Bool.and_eq_true] at hu
    have h3 : e.1 < f.1 := by simpa using hu.1
    match j, h2 with
    | 0, h2 =>
      simp only [List.getElem?_cons_zero, Option.some.injEq] at h2
      subst h2
      exact h3
    | j + 1, h2 => exact Nat.lt_trans h3 (zc_rise (f :: es) 0 (j + 1) f y (by simpa [zc_up] using hu.2) rfl h2 (by omega))
  | e :: f :: es, i + 1, j + 1, x, y, hu, h, h2, hij => by
    simp only [List.getElem?_cons_succ] at h h2
    simp only [zc_up, Bool.and_eq_true] at hu
    exact zc_rise (f :: es) i j x y (by simpa [zc_up] using hu.2) h h2 (by omega)
  | e :: f :: es, i, 0, x, y, hu, h, h2, hij => by omega
end
section
/-! .. calls -/
def zs_B (b L : Nat) (xs : Nat → Int32) (dC : Nat → ClassId) (dI : Nat → Nat → Nat) (ws : va_W) (tys : List (ClassId × FieldType)) (sz : Nat) (U : State) : Prop :=
  U.heap.size = sz ∧ va_P (dC, dI) vwCl ws U.heap ∧ va_K (dC, dI) vwCl tys U ∧ va_D (fun _ => True) ws ∧ zs_N (va_A ws sz) U U.heap ∧ va_X b L xs U U.heap ∧ b < sz ∧ ¬ va_A ws sz b
theorem zs_blind {b L : Nat} {xs : Nat → Int32} {dC : Nat → ClassId} {dI : Nat → Nat → Nat} {ws : va_W} {tys : List (ClassId × FieldType)} {sz : Nat} {rvs : List Value} : FrameBlind (va_Pc rvs (zs_B b L xs dC dI ws tys sz)) := by
  intro a U g mk q
  obtain ⟨q0, q1, qP, qK, qD, qN, qX, qb, qA⟩ := q
  exact ⟨q0, q1, qP, va_K.moved (u := U) (U := U.calling g mk a) (Vm.Alike.refl U.vm) qK, qD, zs_N.to (s := U) (U := U.calling g mk a) (State.WarmedH.refl U) (fun _ _ _ => rfl) (fun _ h => h) qN, va_X.moved (u := U) (U := U.calling g mk a) (Vm.Alike.refl U.vm) qX, qb, qA⟩
theorem zc_m0h (hall : zc_All) {m : Nat} (hm : m < zm_n) : plainName (zm_nm m).cls = true ∧ (zm_nm m).cls = zm_ow m ∧ zm_pc m 0 = some 0 ∧ zc_up (zm_cd m) = true ∧ ∃ hp, zc_hs m (zm_ht m) (zm_hh m) hp = true := by
  obtain ⟨hp, h⟩ := hall m hm
  simp only [zc_me, zc_m0, Bool.and_eq_true, decide_eq_true_eq] at h
  obtain ⟨-, ⟨⟨⟨h1, h2⟩, h3⟩, h4⟩, h5⟩ := h
  refine ⟨h3, h4, ?_, h2, hp, h1⟩
  unfold zm_pc
  split at h5
  · rename_i e he
    rw [he]
    exact congrArg some (Nat.eq_of_beq_eq_true h5)
  · cases h5
theorem zs_met (hall : zc_All) {l : Launch} (hst : l.stackTraces = false) {b L : Nat} {xs : Nat → Int32} {m : Nat} (hm : m < zm_n) {vs rvs : List Value} {h : zm_H} {r : zm_R} (hS : zs_S l b L xs m 0 (zm_in (zm_ml m) vs) [] h r) (hin : (zm_in (zm_ml m) vs).length = zm_ml m)
    {dC : Nat → ClassId} {dI : Nat → Nat → Nat} {ws : va_W} {tys : List (ClassId × FieldType)} {sz : Nat} (hv : zs_vs b (ws.map Prod.fst) vs rvs) (hh : zs_h b ws tys h) :
    vx_Met l (zm_nm m) (zm_cw m :: zm_GW) { frames := zm_rf m, cells := r.2.2.2.1 - h.2.2.1, slots := r.2.2.2.2 - h.2.2.2, locals := zm_rl m } (va_Pc rvs (zs_B b L xs dC dI ws tys sz))
      (zs_Q b dC dI (ws.map Prod.fst) (va_A ws sz) r) (zs_T b dC dI (ws.map Prod.fst) (va_A ws sz) r) (r.2.2.2.1 - h.2.2.1) (r.2.2.2.2 - h.2.2.2) (va_A ws sz) := by
  obtain ⟨hpl, how, hpc, -, -⟩ := zc_m0h hall hm
  have body : ∀ (p : Program) (e : Env) (s : State) (mid : MethodId) (args : Array Value) (below : List Frame) (meth : Method) (c : Code) (s₁ : State), BodyLoose p l (zm_nm m) (headSpec (zm_cw m :: zm_GW) { frames := zm_rf m, cells := r.2.2.2.1 - h.2.2.1, slots := r.2.2.2.2 - h.2.2.2, locals := zm_rl m }) (zm_by m) (zm_ml m) (zm_re m) e s mid args below meth c s₁ → c.maxLocals = zm_ml m → (c.exceptionTable.toList = tableOf (zm_hh m)) → va_Pc rvs (zs_B b L xs dC dI ws tys sz) args s →
      W p l e { frames := zm_rf m, cells := r.2.2.2.1 - h.2.2.1, slots := r.2.2.2.2 - h.2.2.2, locals := zm_rl m } s mid args below meth c s.heap [] 0 0 (vx_MQ below (zs_Q b dC dI (ws.map Prod.fst) (va_A ws sz) r) (zs_T b dC dI (ws.map Prod.fst) (va_A ws sz) r) args s (r.2.2.2.1 - h.2.2.1) (r.2.2.2.2 - h.2.2.2) (va_A ws sz)) (entryFrame mid args (zm_ml m)) := by
    intro p e s mid args below meth c s₁ B hml ht hPc
    obtain ⟨rfl, hsz, hP, hK, hD0, hN, hXX, hbl, hbA⟩ := hPc
    subst hsz
    rw [lg_entry_eq]
    obtain ⟨g1, g2, hS⟩ := hS
    have hts := atoms_spec (ws := zm_cw m :: zm_GW) B.pre
    refine hS p e _ s mid _ below meth c dC dI (va_A ws s.heap.size) s.heap [] 0 0 ws tys _ [] (ws.map Prod.fst) h.2.2.1 h.2.2.2 (r.2.2.2.1 - h.2.2.1) (r.2.2.2.2 - h.2.2.2) 0 ?_ (fun _ => ht) ⟨hP, hK, hD0.self, va_S.rf, hh⟩ ⟨[], by simp⟩ (zs_entry hv hin) hin trivial hpc rfl rfl (by omega) (by omega) (Nat.le_refl _) (Nat.le_refl _)
    exact ⟨B.exec, B.bytes, B.returns, B.notSynchronized, hml, how ▸ findClass_of_methodNamed B.named, fun _ => (name_of_methodNamed B.named B.method).1.trans ‹_›, fun w hw => hts w (List.mem_cons_of_mem _ hw), hN, hXX, hbl, hbA, fun q hq => Or.inr hq, hst, Nat.le_refl _, Nat.le_refl _⟩
  cases hq : zm_hh m with
  | nil =>
    have hcw : zm_cw m = .code (zm_nm m) (zm_by m) (zm_ml m) (zm_re m) := by unfold zm_cw; rw [hq]
    refine vx_ofW (cc := zm_by m) (maxL := zm_ml m) (ret := zm_re m) (ws' := zm_GW) hpl (by rw [hcw]) ?_
    intro p e s mid args below meth c s₁ B hml ht hPc
    refine body p e s mid args below meth c s₁ B hml ?_ hPc
    rw [hq]
    exact List.eq_nil_iff_forall_not_mem.mpr ht
  | cons t tt =>
    have hcw : zm_cw m = .codeWith (zm_nm m) (zm_by m) (zm_ml m) (zm_re m) (t :: tt) := by unfold zm_cw; rw [hq]
    refine vx_ofWH (cc := zm_by m) (maxL := zm_ml m) (ret := zm_re m) (hh := t :: tt) (ws' := zm_GW) hpl (by rw [hcw]) ?_
    intro p e s mid args below meth c s₁ B hml hPc
    refine body p e s mid args below meth c s₁ B hml ?_ hPc
    rw [hq]
    refine vx_table (x := zm_nm m) B (bytes := zm_by m) (maxL' := zm_ml m) (ret' := zm_re m) ?_
    rw [← hcw]
    exact atoms_spec (ws := zm_cw m :: zm_GW) B.pre _ List.mem_cons_self
section ZK
variable {p : Program} {l : Launch} {e : Env} {R : Room} {s : State} {mid : MethodId} {args : Array Value} {below : List Frame} {meth : Method} {c : Code} {H : Heap} {locs : List Loc} {cells slots mc1 ms1 bp : Nat} {Q : State → Prop} {rls : Array Slot} {st0 rr : List Value} {av : Array Value}
  {b : Nat} {dC : Nat → ClassId} {dI : Nat → Nat → Nat} {ws : va_W} {tys : List (ClassId × FieldType)} {A A1 : Nat → Prop} {h : zm_H} {r1 : zm_R}
/-- behind a call: what came back -/
theorem zs_back (hr : vx_Run p l e R s mid args below meth c H locs cells slots mc1 ms1 (F0 mid bp rls st0) rr (zs_Q b dC dI (ws.map Prod.fst) A1 r1 av) (zs_T b dC dI (ws.map Prod.fst) A1 r1) A1) (hW : zs_W b dC dI ws tys A s H locs h) (hA1 : ∀ q, A1 q → A q)
    (kk : ∀ (v ov : Option Value) (H1 : Heap) (locs1 : List Loc) (ws1 : va_W) (tys1 : List (ClassId × FieldType)), r1.1 = .inl v → zs_o b (ws1.map Prod.fst) v ov → zs_W b dC dI ws1 tys1 A s H1 locs1 r1.2 → (∃ t0, ws1.map Prod.fst = ws.map Prod.fst ++ t0) → W p l e R s mid args below meth c H1 locs1 (cells + mc1) (slots + ms1) Q (F0 mid (bp + 3) rls (ov.toList ++ rr)))
    (kx : ∀ (k : Nat) (H1 : Heap) (locs1 : List Loc) (ws1 : va_W) (tys1 : List (ClassId × FieldType)) (q9 : Addr) (ce : Cell), r1.1 = .inr k → k < 3 → zs_W b dC dI ws1 tys1 A s H1 locs1 r1.2 → (∃ t0, ws1.map Prod.fst = ws.map Prod.fst ++ t0) → H1[q9]? = some ce → ce.vm = .none → s.vm.findClass (zm_ex k) = some ce.cls → vx_W p l e R s mid args below meth c H1 locs1 (cells + mc1) (slots + ms1) Q (F0 mid bp rls rr) q9) :
    W p l e R s mid args below meth c H locs cells slots Q (F0 mid bp rls st0) := by
  obtain ⟨hP, hK, hD, hS, hh⟩ := hW
  intro T hT X
  rcases hr T hT X with ⟨v, st₀, t, T', L, h0, X', hL, e1, e2, ⟨⟨v0, ov, ws1, tys1, hv, hr1, ho, hE1, hE2, hE3, hE4, hE5⟩, hF⟩, st⟩ | ⟨q, st₀, t, T', L, E, ce, h0, X', hL, e1, e2, ⟨⟨k, ws1, tys1, hr1, hE0, hk3, hE1, hE2, hE3, hE4, hE5⟩, hF⟩, hce, hcv, hcl, st⟩
  · cases hv
    obtain ⟨k1, k2, k3⟩ := vx_keep h0 e1 hS (fun q _ h => hA1 q h) hA1 hL hF
    have hal : t.vm.Alike s.vm := by
      rw [← e2]
      exact X'.warmed.alike.symm
    obtain ⟨t2, a1, b1⟩ := kk v0 v T'.heap (locs ++ L) ws1 tys1 hr1 ho ⟨by rw [e1]; exact hE2, va_K.moved hal hE3, hE4.weaken (fun _ _ _ h => hA1 _ h), k3, hE5⟩ hE1 T' rfl X'
    exact ⟨t2, st t2 a1, b1⟩
  · obtain ⟨k1, k2, k3⟩ := vx_keep h0 e1 hS (fun q _ h => hA1 q h) hA1 hL hF
    have hal : t.vm.Alike s.vm := by
      rw [← e2]
      exact X'.warmed.alike.symm
    subst hE0
    obtain ⟨t2, a1, b1⟩ := kx k T'.heap (locs ++ L) ws1 tys1 q ce hr1 hk3 ⟨by rw [e1]; exact hE2, va_K.moved hal hE3, hE4.weaken (fun _ _ _ h => hA1 _ h), k3, hE5⟩ hE1 (by rw [e1]; exact hce) hcv hcl T' rfl X'
    exact ⟨t2, st.trans a1, b1⟩
/-- a callee's cells are the caller's -/
theorem zs_free (hW : zs_W b dC dI ws tys A s H locs h) (hA : ∀ q, s.heap.size ≤ q → A q) : ∀ q, va_A ws H.size q → A q := by
  obtain ⟨hP, hK, hD, hS, hh⟩ := hW
  rintro q (⟨k, e, hk⟩ | hq)
  · exact hD.2 k _ hk
  · exact hA q (Nat.le_trans hS.1 hq)
theorem zs_pre {L : Nat} {xs : Nat → Int32} {m : Nat} (X : zs_X l p R s mid args meth c m b L xs A) (hW : zs_W b dC dI ws tys A s H locs h) : ∀ U : State, U.heap = H → s.WarmedH U.vm → zs_B b L xs dC dI ws tys H.size U := by
  obtain ⟨-, -, -, -, -, -, -, -, hN, hXX, hbl, hbA, hA, -⟩ := X
  have hfr := zs_free hW hA
  obtain ⟨hP, hK, hD, hS, hh⟩ := hW
  intro U hU hWm
  refine ⟨by rw [hU], by rw [hU]; exact hP, va_K.moved hWm.alike hK, hD.weaken (fun _ _ _ _ => trivial), ?_, ?_, Nat.lt_of_lt_of_le hbl hS.1, fun h => hbA (hfr b h)⟩
  · rw [hU]
    exact zs_N.to hWm (fun a h1 h2 => hS.2.1 a h1 h2) hfr hN
  · rw [hU]
    exact va_X.moved hWm.alike (hXX.kept (hS.2.1 b hbl hbA))
end ZK
end
section
/-! .. a call at its place: what the tables give, the run of the callee -/
section ZI
variable {p : Program} {l : Launch} {e : Env} {R : Room} {s : State} {mid : MethodId} {args : Array Value} {below : List Frame} {meth : Method} {c : Code} {H : Heap} {locs : List Loc} {cells slots bp : Nat} {rls : Array Slot}
  {b L : Nat} {xs : Nat → Int32} {m : Nat} {dC : Nat → ClassId} {dI : Nat → Nat → Nat} {ws : va_W} {tys : List (ClassId × FieldType)} {A : Nat → Prop} {h : zm_H} {r1 : zm_R}
theorem zs_goodGW : ∀ w ∈ zm_GW, w ∈ zm_GW ∧ ((w.onTables && w.keeps) = true ∨ ∃ ty, w = .arrayClass ty) := fun w hw => ⟨hw, good_of_word (List.mem_filter.mp hw).2⟩
theorem zs_good {a : Nat} (h : zm_cw a ∈ zm_GW) : GoodIn zm_GW (zm_cw a :: zm_GW) := fun w hw => by
  rcases List.mem_cons.mp hw with e | hw
  · subst e; exact zs_goodGW _ h
  · exact zs_goodGW _ hw
theorem zc_clh {m a b c pc : Nat} (h : zc_cl m a b c pc = true) : zm_cw a ∈ zm_GW ∧ a < zm_n ∧ (parseMethodDescriptor (zm_nm a).desc).map (fun d => d.parameters.length) = some b ∧ zc_rk c (zm_re a) = true ∧ ((zm_nm a).cls ≠ "java/lang/invoke/MethodHandle" ∧ (zm_nm a).cls ≠ "java/lang/invoke/VarHandle") ∧ zm_rf a + 1 ≤ zm_rf m ∧ 8 + (zm_ml a + 11) + zm_rl a ≤ zm_rl m := by
  unfold zc_cl at h
  simp only [Bool.and_eq_true, decide_eq_true_eq] at h
  obtain ⟨⟨⟨⟨⟨⟨h1, h2⟩, h3⟩, h4⟩, h5⟩, h6⟩, h7⟩ := h
  exact ⟨zc_okw h1, h2, h3, h4, h5, Nat.le_of_ble_eq_true h6, Nat.le_of_ble_eq_true h7⟩
theorem zs_fix (X : zs_X l p R s mid args meth c m b L xs A) : CallFix p mid c (zm_by m) (zm_ml m) s args zm_GW (zm_ow m) := ⟨X.1, X.2.1, X.2.2.2.2.1, X.2.2.2.2.2.1, X.2.2.2.2.2.2.2.1⟩
theorem zs_par {a b : Nat} (h : (parseMethodDescriptor (zm_nm a).desc).map (fun d => d.parameters.length) = some b) : ∀ sig, parseMethodDescriptor (zm_nm a).desc = some sig → b = sig.parameters.length := by
  intro sig hs
  rw [hs] at h
  exact (Option.some.inj h).symm
theorem zs_pay (X : zs_X l p R s mid args meth c m b L xs A) {a b0 c0 pc mc1 ms1 : Nat} (hcl : zc_cl m a b0 c0 pc = true) :
    (({ frames := zm_rf a, cells := mc1, slots := ms1, locals := zm_rl a } : Room).cells = mc1 ∧ ({ frames := zm_rf a, cells := mc1, slots := ms1, locals := zm_rl a } : Room).slots = ms1 ∧ ({ frames := zm_rf a, cells := mc1, slots := ms1, locals := zm_rl a } : Room).frames + 1 ≤ R.frames ∧ 8 + (zm_ml a + 11) + ({ frames := zm_rf a, cells := mc1, slots := ms1, locals := zm_rl a } : Room).locals ≤ R.locals ∧
      (∀ w ∈ zm_cw a :: zm_GW, ∀ (a' : Array Value) (U : State), s.WarmedH U.vm → w.before a' U = true) ∧ zm_cw a ∈ zm_cw a :: zm_GW) := by
  obtain ⟨h1, -, -, -, -, h6, h7⟩ := zc_clh hcl
  obtain ⟨-, -, -, -, -, -, -, hts, -, -, -, -, -, -, hrf, hrl⟩ := X
  refine ⟨rfl, rfl, ?_, ?_, pay_in hts (zs_good h1), List.mem_cons_self⟩
  · show zm_rf a + 1 ≤ R.frames
    omega
  · show 8 + (zm_ml a + 11) + zm_rl a ≤ R.locals
    omega
/-- a method without a table of handlers -/
theorem zs_cb (X : zs_X l p R s mid args meth c m b L xs A) {a b0 c0 pc mc1 ms1 idx : Nat} (hcl : zc_cl m a b0 c0 pc = true) (hh : zm_hh a = []) (hini : Cond.initialized (zm_nm a).cls ∈ zm_GW) (hlk : Cond.methodLink (zm_ow m) idx (zm_nm a) ∈ zm_GW) :
    CallB R s args (zm_ow m) idx (zm_nm a) (zm_by a) (zm_ml a) (zm_re a) (zm_cw a :: zm_GW) { frames := zm_rf a, cells := mc1, slots := ms1, locals := zm_rl a } mc1 ms1 b0 := by
  have hp := zs_pay (mc1 := mc1) (ms1 := ms1) X hcl
  obtain ⟨h1, h2, h3, h4, h5, h6, h7⟩ := zc_clh hcl
  have hcw : zm_cw a = .code (zm_nm a) (zm_by a) (zm_ml a) (zm_re a) := by unfold zm_cw; rw [hh]
  have hts := X.2.2.2.2.2.2.2.1
  refine ⟨hp.1, hp.2.1, hp.2.2.1, hp.2.2.2.1, hp.2.2.2.2.1, ?_, ?_, hts _ hini, h5, zs_par h3, hts _ hlk⟩
  · rw [← hcw]; exact List.mem_cons_self
  · rw [← hcw]; exact hts _ h1
theorem zs_cn (X : zs_X l p R s mid args meth c m b L xs A) {a b0 c0 pc mc1 ms1 idx : Nat} {host : String} (hcl : zc_cl m a b0 c0 pc = true) (hh : zm_hh a = []) (hini : Cond.initialized (zm_nm a).cls ∈ zm_GW) (hlk : va_Nw (.methodLinkNest (zm_ow m) idx (zm_nm a) host) s) :
    va_CN R s args (zm_ow m) idx (zm_nm a) host (zm_by a) (zm_ml a) (zm_re a) (zm_cw a :: zm_GW) { frames := zm_rf a, cells := mc1, slots := ms1, locals := zm_rl a } mc1 ms1 b0 := by
  have hp := zs_pay (mc1 := mc1) (ms1 := ms1) X hcl
  obtain ⟨h1, h2, h3, h4, h5, h6, h7⟩ := zc_clh hcl
  have hcw : zm_cw a = .code (zm_nm a) (zm_by a) (zm_ml a) (zm_re a) := by unfold zm_cw; rw [hh]
  have hts := X.2.2.2.2.2.2.2.1
  refine ⟨⟨hp.1, hp.2.1, hp.2.2.1, hp.2.2.2.1, hp.2.2.2.2.1, ?_⟩, ?_, hts _ hini, h5, zs_par h3, va_Nw.use rfl hlk⟩
  · rw [← hcw]; exact List.mem_cons_self
  · rw [← hcw]; exact hts _ h1
theorem zs_csw (X : zs_X l p R s mid args meth c m b L xs A) {a b0 c0 pc mc1 ms1 idx : Nat} (hcl : zc_cl m a b0 c0 pc = true) {t : Nat × Nat × Nat × Nat} {tt : List (Nat × Nat × Nat × Nat)} (hh : zm_hh a = t :: tt) (hini : Cond.initialized (zm_nm a).cls ∈ zm_GW) (hlk : Cond.methodLink (zm_ow m) idx (zm_nm a) ∈ zm_GW) (hst : Cond.static (zm_nm a) ∈ zm_GW) :
    vx_CSW R s args (zm_ow m) idx (zm_nm a) (zm_by a) (zm_ml a) (zm_re a) (t :: tt) (zm_cw a :: zm_GW) { frames := zm_rf a, cells := mc1, slots := ms1, locals := zm_rl a } mc1 ms1 b0 := by
  have hp := zs_pay (mc1 := mc1) (ms1 := ms1) X hcl
  obtain ⟨h1, h2, h3, h4, h5, h6, h7⟩ := zc_clh hcl
  have hcw : zm_cw a = .codeWith (zm_nm a) (zm_by a) (zm_ml a) (zm_re a) (t :: tt) := by unfold zm_cw; rw [hh]
  have hts := X.2.2.2.2.2.2.2.1
  refine ⟨⟨hp.1, hp.2.1, hp.2.2.1, hp.2.2.2.1, hp.2.2.2.2.1, ?_⟩, ?_, hts _ hini, h5, zs_par h3, hts _ hlk, hts _ hst⟩
  · rw [← hcw]; exact List.mem_cons_self
  · rw [← hcw]; exact hts _ h1
theorem zc_lkh {m idx a : Nat} {v : Int32} {q : Nat} (h : zc_lk m idx a v q = true) : (v = 0 ∧ Cond.methodLink (zm_ow m) idx (zm_nm a) ∈ zm_GW) ∨ (¬ v = 0 ∧ (zm_ow m, idx, zm_nm a, "TradeRings") ∈ zm_nest) := by
  unfold zc_lk at h
  split at h
  · exact Or.inl ⟨‹_›, zc_okw h⟩
  · exact Or.inr ⟨‹_›, List.mem_of_getElem? (of_decide_eq_true h)⟩
/-- a virtual call -/
theorem zs_runV (hall : zc_All) {a b0 c0 q0 q4 mc1 ms1 idx ci o ad : Nat} {v : Int32} {qc : vw_C} {vs rr pops : List Value} (X : zs_X l p R s mid args meth c m b L xs A) (hW : zs_W b dC dI ws tys A s H locs h)
    (hS : zs_S l b L xs a 0 (zm_in (zm_ml a) (.ref o :: vs)) [] h r1) (hin : (zm_in (zm_ml a) (.ref o :: vs)).length = zm_ml a)
    (hcl : zc_cl m a b0 c0 q4 = true) (hlk : zc_lk m idx a v q0 = true) (hi : Cond.instanceMethod (zm_nm a) ∈ zm_GW) (hci : vwCl[ci]? = some qc) (hse : Cond.selects qc.1 (zm_nm a) (zm_nm a) ∈ zm_GW) (hini : Cond.initialized (zm_nm a).cls ∈ zm_GW) (hh : zm_hh a = []) (his : zm_is h o ci = true)
    (hvs : zs_vs b (ws.map Prod.fst) vs pops.reverse) (hpl : pops.length = b0) (ho : (ws.map Prod.fst)[o]? = some ad) (hrl : rls.size = zm_ml m) (hcs : (rr.map fun v => v.category).sum ≤ 8)
    (hd : decode (zm_by m) bp = .ok (.invokevirtual idx, 3)) (hm1 : mc1 = r1.2.2.2.1 - h.2.2.1) (hm2 : ms1 = r1.2.2.2.2 - h.2.2.2) (hf : cells + mc1 ≤ R.cells ∧ slots + ms1 ≤ R.slots) :
    vx_Run p l e R s mid args below meth c H locs cells slots mc1 ms1 (F0 mid bp rls (pops ++ .ref ad :: rr)) rr (zs_Q b dC dI (ws.map Prod.fst) (va_A ws H.size) r1 (Value.ref ad :: pops.reverse).toArray) (zs_T b dC dI (ws.map Prod.fst) (va_A ws H.size) r1) (va_A ws H.size) := by
  have hlt := (zc_clh hcl).2.1
  have hst := X.2.2.2.2.2.2.2.2.2.2.2.2.2.1
  have hM := zs_met hall hst hlt hS hin (dC := dC) (dI := dI) (ws := ws) (tys := tys) (sz := H.size) (rvs := .ref ad :: pops.reverse) ⟨⟨ad, ho, rfl⟩, hvs⟩ hW.2.2.2.2
  rw [← hm1, ← hm2] at hM
  have hpre := zs_pre X hW
  obtain ⟨hP, hK, hD, hS0, hh0⟩ := id hW
  obtain ⟨el, he⟩ := zs_at ho
  have hcell := hh0.2 o _ he
  unfold zm_is at his
  split at his
  · rename_i cj fs hcj
    have hcc := Nat.eq_of_beq_eq_true his
    subst hcc
    rw [hcj] at hcell
    obtain ⟨gs, e2, h2⟩ := hcell
    dsimp only at e2
    subst e2
    have hPV : PreV s H qc.1 ad (va_Pc (.ref ad :: pops.reverse) (zs_B b L xs dC dI ws tys H.size)) pops.reverse := ⟨zs_blind, va_recv hK hP hci he, fun U h1 h2 => ⟨rfl, hpre U h1 h2⟩⟩
    have hn : pops.reverse.length = b0 := by rw [List.length_reverse, hpl]
    have hstk : (F0 mid bp rls (pops ++ .ref ad :: rr)).stack = pops.reverse.reverse ++ .ref ad :: rr := by rw [List.reverse_reverse]
    have hts := X.2.2.2.2.2.2.2.1
    rcases zc_lkh hlk with ⟨-, hl⟩ | ⟨-, hl⟩
    · exact vx_runV (C := qc.1) (zs_fix X) hM ⟨zs_cb X hcl hh hini hl, hts _ hi, hts _ hse⟩ hPV rfl hn hrl hstk (by show 2 * 0 + _ ≤ 8; omega) hd hf
    · exact vx_runVN (C := qc.1) (zs_fix X) hM ⟨zs_cn X hcl hh hini (X.2.2.2.2.2.2.2.2.1.1 _ hl), hts _ hi, hts _ hse⟩ hPV rfl hn hrl hstk (by show 2 * 0 + _ ≤ 8; omega) hd hf
  · cases his
/-- a constructor's call -/
theorem zs_runI (hall : zc_All) {a b0 c0 q0 q4 mc1 ms1 idx o ad : Nat} {v : Int32} {vs rr pops : List Value} (X : zs_X l p R s mid args meth c m b L xs A) (hW : zs_W b dC dI ws tys A s H locs h)
    (hS : zs_S l b L xs a 0 (zm_in (zm_ml a) (.ref o :: vs)) [] h r1) (hin : (zm_in (zm_ml a) (.ref o :: vs)).length = zm_ml a)
    (hcl : zc_cl m a b0 c0 q4 = true) (hlk : zc_lk m idx a v q0 = true) (hi : Cond.instanceMethod (zm_nm a) ∈ zm_GW) (hini : Cond.initialized (zm_nm a).cls ∈ zm_GW) (hh : zm_hh a = []) (hnm : (zm_nm a).name = "<init>") (hre : zm_re a = none)
    (hvs : zs_vs b (ws.map Prod.fst) vs pops.reverse) (hpl : pops.length = b0) (ho : (ws.map Prod.fst)[o]? = some ad) (hrl : rls.size = zm_ml m) (hcs : (rr.map fun v => v.category).sum ≤ 8)
    (hd : decode (zm_by m) bp = .ok (.invokespecial idx, 3)) (hm1 : mc1 = r1.2.2.2.1 - h.2.2.1) (hm2 : ms1 = r1.2.2.2.2 - h.2.2.2) (hf : cells + mc1 ≤ R.cells ∧ slots + ms1 ≤ R.slots) :
    vx_Run p l e R s mid args below meth c H locs cells slots mc1 ms1 (F0 mid bp rls (pops ++ .ref ad :: rr)) rr (zs_Q b dC dI (ws.map Prod.fst) (va_A ws H.size) r1 (Value.ref ad :: pops.reverse).toArray) (zs_T b dC dI (ws.map Prod.fst) (va_A ws H.size) r1) (va_A ws H.size) := by
  have hlt := (zc_clh hcl).2.1
  have hst := X.2.2.2.2.2.2.2.2.2.2.2.2.2.1
  have hM := zs_met hall hst hlt hS hin (dC := dC) (dI := dI) (ws := ws) (tys := tys) (sz := H.size) (rvs := .ref ad :: pops.reverse) ⟨⟨ad, ho, rfl⟩, hvs⟩ hW.2.2.2.2
  rw [← hm1, ← hm2] at hM
  have hpre := zs_pre X hW
  have hPV : PreS s H (va_Pc (.ref ad :: pops.reverse) (zs_B b L xs dC dI ws tys H.size)) (.ref ad :: pops.reverse) := ⟨zs_blind, fun U h1 h2 => ⟨rfl, hpre U h1 h2⟩⟩
  have hn : pops.reverse.length = b0 := by rw [List.length_reverse, hpl]
  have hstk : (F0 mid bp rls (pops ++ .ref ad :: rr)).stack = pops.reverse.reverse ++ .ref ad :: rr := by rw [List.reverse_reverse]
  have hts := X.2.2.2.2.2.2.2.1
  rcases zc_lkh hlk with ⟨-, hl⟩ | ⟨-, hl⟩
  · have hcb := zs_cb (mc1 := mc1) (ms1 := ms1) X hcl hh hini hl
    rw [hre] at hcb
    exact vx_runI (zs_fix X) hM ⟨hcb, hnm, hts _ hi⟩ hPV rfl hn hrl hstk (by show 2 * 0 + _ ≤ 8; omega) hd hf
  · have hcb := zs_cn (mc1 := mc1) (ms1 := ms1) X hcl hh hini (X.2.2.2.2.2.2.2.2.1.1 _ hl)
    rw [hre] at hcb
    exact vx_runIN (zs_fix X) hM ⟨hcb, hnm, hts _ hi⟩ hPV rfl hn hrl hstk (by show 2 * 0 + _ ≤ 8; omega) hd hf
/-- a static call -/
theorem zs_runS (hall : zc_All) {a b0 c0 q0 q4 mc1 ms1 idx : Nat} {v : Int32} {vs rr pops : List Value} (X : zs_X l p R s mid args meth c m b L xs A) (hW : zs_W b dC dI ws tys A s H locs h)
    (hS : zs_S l b L xs a 0 (zm_in (zm_ml a) vs) [] h r1) (hin : (zm_in (zm_ml a) vs).length = zm_ml a)
    (hcl : zc_cl m a b0 c0 q4 = true) (hlk : zc_lk m idx a v q0 = true) (hi : Cond.static (zm_nm a) ∈ zm_GW) (hini : Cond.initialized (zm_nm a).cls ∈ zm_GW) (hh : zm_hh a = [] ∨ v = 0)
    (hvs : zs_vs b (ws.map Prod.fst) vs pops.reverse) (hpl : pops.length = b0) (hrl : rls.size = zm_ml m) (hcs : (rr.map fun v => v.category).sum ≤ 8)
    (hd : decode (zm_by m) bp = .ok (.invokestatic idx, 3)) (hm1 : mc1 = r1.2.2.2.1 - h.2.2.1) (hm2 : ms1 = r1.2.2.2.2 - h.2.2.2) (hf : cells + mc1 ≤ R.cells ∧ slots + ms1 ≤ R.slots) :
    vx_Run p l e R s mid args below meth c H locs cells slots mc1 ms1 (F0 mid bp rls (pops ++ rr)) rr (zs_Q b dC dI (ws.map Prod.fst) (va_A ws H.size) r1 pops.reverse.toArray) (zs_T b dC dI (ws.map Prod.fst) (va_A ws H.size) r1) (va_A ws H.size) := by
  have hlt := (zc_clh hcl).2.1
  have hst := X.2.2.2.2.2.2.2.2.2.2.2.2.2.1
  have hM := zs_met hall hst hlt hS hin (dC := dC) (dI := dI) (ws := ws) (tys := tys) (sz := H.size) (rvs := pops.reverse) hvs hW.2.2.2.2
  rw [← hm1, ← hm2] at hM
  have hpre := zs_pre X hW
  have hPV : PreS s H (va_Pc pops.reverse (zs_B b L xs dC dI ws tys H.size)) pops.reverse := ⟨zs_blind, fun U h1 h2 => ⟨rfl, hpre U h1 h2⟩⟩
  have hn : pops.reverse.length = b0 := by rw [List.length_reverse, hpl]
  have hstk : (F0 mid bp rls (pops ++ rr)).stack = pops.reverse.reverse ++ rr := by rw [List.reverse_reverse]
  have hts := X.2.2.2.2.2.2.2.1
  rcases zc_lkh hlk with ⟨-, hl⟩ | ⟨hv0, hl⟩
  · cases hq : zm_hh a with
    | nil => exact vx_runS (zs_fix X) hM ⟨zs_cb X hcl hq hini hl, hts _ hi⟩ hPV rfl hn hrl hstk (by show 2 * 0 + _ ≤ 8; omega) hd hf
    | cons t tt => exact vx_runSX (zs_fix X) hM (zs_csw X hcl hq hini hl hi) hPV rfl hn hrl hstk (by show 2 * 0 + _ ≤ 8; omega) hd hf
  · have hh' : zm_hh a = [] := hh.resolve_right hv0
    exact vx_runSN (zs_fix X) hM ⟨zs_cn X hcl hh' hini (X.2.2.2.2.2.2.2.2.1.1 _ hl), hts _ hi, trivial⟩ hPV rfl hn hrl hstk (by show 2 * 0 + _ ≤ 8; omega) hd hf
end ZI
end
section
/-! .. behind a call: what comes back, and where a thrown exception goes on -/
theorem zs_vs.push {b : Nat} {as : List Nat} {v ov : Option Value} {rest rr : List Value} (ho : zs_o b as v ov) (h : zs_vs b as rest rr) : zs_vs b as (v.toList ++ rest) (ov.toList ++ rr) := by
  cases v with
  | none => cases ov with
    | none => exact h
    | some w => exact ho.elim
  | some u => cases ov with
    | none => exact ho.elim
    | some w => exact ⟨ho, h⟩
theorem zm_pc_at {m i : Nat} {e : zm_E} (h : (zm_cd m)[i]? = some e) : zm_pc m i = some e.1 := by
  unfold zm_pc
  rw [h]
theorem zm_pc_inv {m i bp : Nat} (h : zm_pc m i = some bp) : ∃ e, (zm_cd m)[i]? = some e ∧ e.1 = bp := by
  unfold zm_pc at h
  split at h
  · rename_i e he
    exact ⟨e, he, Option.some.inj h⟩
  · cases h
/-- the handler that takes exception k at index i -/
theorem zs_fd (hup : ∀ m, m < zm_n → zc_up (zm_cd m) = true) {m i k g kk bp : Nat} (hm : m < zm_n) (hp : zm_pc m i = some bp) : ∀ (qs : List (Nat × Nat × Nat × Nat × Nat)) (zs : List (Nat × Nat × Nat × Nat)) (ps : List Nat), zc_hs m qs zs ps = true → zm_fd qs i k = some (g, kk) →
    ∃ pre z suf, zs = pre ++ z :: suf ∧ (∀ y ∈ pre, covers (⟨y.1, y.2.1, y.2.2.1, y.2.2.2⟩ : ExceptionTableEntry) bp = false ∨ (y.2.2.2 ≠ 0 ∧ ∃ u, u < 3 ∧ Cond.classLink (zm_ow m) y.2.2.2 (zm_ex u) ∈ zm_GW ∧ u ≠ k)) ∧ covers (⟨z.1, z.2.1, z.2.2.1, z.2.2.2⟩ : ExceptionTableEntry) bp = true ∧ z.2.2.2 ≠ 0 ∧ Cond.classLink (zm_ow m) z.2.2.2 (zm_ex k) ∈ zm_GW ∧
      ∃ j e2 e3, g = j + 1 ∧ (zm_cd m)[j]? = some e2 ∧ (zm_cd m)[j + 1]? = some e3 ∧ e2.1 = z.2.2.1 ∧ kk < zm_ml m ∧ ((∃ f : Fin 4, e2.2.1 = .astore_n f ∧ (f : Nat) = kk ∧ e3.1 = e2.1 + 1) ∨ (e2.2.1 = .astore kk ∧ e3.1 = e2.1 + 2))
  | [], _, _, _, h => by simp [zm_fd] at h
  | q :: qs, [], _, h0, _ => by simp [zc_hs] at h0
  | q :: qs, z :: zs, [], h0, _ => by simp [zc_hs] at h0
  | q :: qs, z :: zs, x :: ps, h0, h => by
    simp only [zc_hs, Bool.and_eq_true] at h0
    obtain ⟨h1, h2⟩ := h0
    obtain ⟨ei, hei, hbi⟩ := zm_pc_inv hp
    unfold zc_h1 at h1
    simp only [Bool.and_eq_true] at h1
    obtain ⟨⟨⟨h3, h4⟩, h5⟩, h6⟩ := h1
    split at h3
    · rename_i e0 e1 e2 e3 he0 he1 he2 he3
      simp only [Bool.and_eq_true] at h3
      obtain ⟨⟨⟨⟨⟨a0, a1⟩, a2⟩, a3⟩, a4⟩, a5⟩ := h3
      have a0 := Nat.eq_of_beq_eq_true a0
      have a1 := Nat.eq_of_beq_eq_true a1
      have a2 := Nat.eq_of_beq_eq_true a2
      have a3 : 0 < q.2.2.2.1 := by simpa using a3
      have a4 : q.2.2.2.2 < zm_ml m := by simpa using a4
      have h4 : q.2.2.1 < 3 := by simpa using h4
      have hz0 : z.2.2.2 ≠ 0 := by
        intro e9
        rw [e9] at h5
        cases h5
      have hl := zc_okw h6
      have rise := fun (u v : Nat) (x y : zm_E) => zc_rise (zm_cd m) u v x y (hup m hm)
      have hcov : covers (⟨z.1, z.2.1, z.2.2.1, z.2.2.2⟩ : ExceptionTableEntry) bp = true ↔ (q.1 ≤ i ∧ i < q.2.1) := by
        show (decide (z.1 ≤ bp) && decide (bp < z.2.1)) = true ↔ _
        rw [Bool.and_eq_true, decide_eq_true_eq, decide_eq_true_eq]
        constructor
        · rintro ⟨b1, b2⟩
          refine ⟨Nat.le_of_not_lt fun hlt => ?_, Nat.lt_of_not_le fun hle => ?_⟩
          · have := rise _ _ _ _ hei he0 hlt
            omega
          · rcases Nat.lt_or_eq_of_le hle with hlt | heq
            · have := rise _ _ _ _ he1 hei hlt
              omega
            · rw [heq] at he1
              cases Option.some.inj (he1.symm.trans hei)
              omega
        · rintro ⟨b1, b2⟩
          have hb2 := rise _ _ _ _ hei he1 b2
          refine ⟨?_, by omega⟩
          rcases Nat.lt_or_eq_of_le b1 with hlt | heq
          · have := rise _ _ _ _ he0 hei hlt
            omega
          · rw [heq] at he0
            cases Option.some.inj (he0.symm.trans hei)
            omega
      obtain ⟨qf, qt, qy, qg, qk⟩ := q
      simp only [zm_fd] at h
      split at h
      · rename_i hc
        obtain ⟨c1, c2, c3⟩ := hc
        simp only [Option.some.injEq, Prod.mk.injEq] at h
        obtain ⟨h8, h9⟩ := h
        subst h8
        subst h9
        subst c3
        have hnil : ∀ y ∈ ([] : List (Nat × Nat × Nat × Nat)), covers (⟨y.1, y.2.1, y.2.2.1, y.2.2.2⟩ : ExceptionTableEntry) bp = false ∨ (y.2.2.2 ≠ 0 ∧ ∃ u, u < 3 ∧ Cond.classLink (zm_ow m) y.2.2.2 (zm_ex u) ∈ zm_GW ∧ u ≠ qy) := fun y hy => nomatch hy
        refine ⟨[], z, zs, rfl, hnil, hcov.mpr ⟨c1, c2⟩, hz0, hl, qg - 1, e2, e3, ?_, he2, ?_, a2, a4, ?_⟩
        · dsimp only at a3
          omega
        · dsimp only at a3 he3
          rw [show qg - 1 + 1 = qg by omega]
          exact he3
        · split at a5
          · rename_i f hf
            simp only [Bool.and_eq_true] at a5
            exact Or.inl ⟨f, hf, Nat.eq_of_beq_eq_true a5.1, Nat.eq_of_beq_eq_true a5.2⟩
          · rename_i f hf
            simp only [Bool.and_eq_true] at a5
            refine Or.inr ⟨?_, Nat.eq_of_beq_eq_true a5.2⟩
            rw [hf, Nat.eq_of_beq_eq_true a5.1]
          · cases a5
      · rename_i hc
        obtain ⟨pre, z', suf, r1, r2, r3⟩ := zs_fd hup hm hp qs zs ps h2 h
        refine ⟨z :: pre, z', suf, by rw [r1]; rfl, ?_, r3⟩
        intro y hy
        rcases List.mem_cons.mp hy with e | hy
        · subst e
          by_cases hq : qf ≤ i ∧ i < qt
          · refine Or.inr ⟨hz0, qy, h4, hl, fun e9 => hc ⟨hq.1, hq.2, e9⟩⟩
          · refine Or.inl ?_
            cases hcv : covers (⟨y.1, y.2.1, y.2.2.1, y.2.2.2⟩ : ExceptionTableEntry) bp with
            | false => rfl
            | true => exact absurd (hcov.mp hcv) hq
        · exact r2 y hy
    · cases h3
theorem zs_inv (hall : zc_All) {l : Launch} {b L : Nat} {xs : Nat → Int32} {m i bp : Nat} {ls : zm_L} {st rest : List Value} {h : zm_H} {r1 r : zm_R} (hp : zm_pc m i = some bp) (hp' : zm_pc m (i + 1) = some (bp + 3)) (hlo : h.2.2.1 ≤ r1.2.2.2.1 ∧ h.2.2.2 ≤ r1.2.2.2.2)
    (kv : ∀ v, r1.1 = .inl v → zs_S l b L xs m (i + 1) ls (v.toList ++ rest) r1.2 r)
    (kx : ∀ k, r1.1 = .inr k → (zm_hh m = [] ∧ r = (.inr k, r1.2)) ∨ ∃ g kk, zm_hh m ≠ [] ∧ zm_fd (zm_ht m) i k = some (g, kk) ∧ zs_S l b L xs m g (zm_s0 ls kk) [] r1.2 r)
    (hrun : ∀ (p : Program) (e : Env) (R : Room) (s : State) (mid : MethodId) (args : Array Value) (below : List Frame) (meth : Method) (c : Code) (dC : Nat → ClassId) (dI : Nat → Nat → Nat) (A : Nat → Prop) (H : Heap) (locs : List Loc) (cells slots : Nat) (ws : va_W) (tys : List (ClassId × FieldType)) (rls : Array Slot) (rst : List Value) (mc1 ms1 : Nat),
      zs_X l p R s mid args meth c m b L xs A → zs_W b dC dI ws tys A s H locs h → rls.size = zm_ml m → zs_vs b (ws.map Prod.fst) st rst → mc1 = r1.2.2.2.1 - h.2.2.1 → ms1 = r1.2.2.2.2 - h.2.2.2 → (cells + mc1 ≤ R.cells ∧ slots + ms1 ≤ R.slots) →
      ∃ rr av, zs_vs b (ws.map Prod.fst) rest rr ∧ vx_Run p l e R s mid args below meth c H locs cells slots mc1 ms1 (F0 mid bp rls rst) rr (zs_Q b dC dI (ws.map Prod.fst) (va_A ws H.size) r1 av) (zs_T b dC dI (ws.map Prod.fst) (va_A ws H.size) r1) (va_A ws H.size)) :
    zs_S l b L xs m i ls st h r := by
  have hge : r1.2.2.2.1 ≤ r.2.2.2.1 ∧ r1.2.2.2.2 ≤ r.2.2.2.2 := by
    cases hq : r1.1 with
    | inl v => exact ⟨(kv v hq).1, (kv v hq).2.1⟩
    | inr k =>
      rcases kx k hq with ⟨-, e⟩ | ⟨g, kk, -, -, e⟩
      · rw [e]; exact ⟨Nat.le_refl _, Nat.le_refl _⟩
      · exact ⟨e.1, e.2.1⟩
  refine ⟨by omega, by omega, ?_⟩
  intro p e R s mid args below meth c dC dI A H locs cells slots ws tys rls rst as0 kc ks mc ms pc X hT hW ha hl hml hv hpc h1 h2 h3 h4 h5 h6
  cases Option.some.inj (hp.symm.trans hpc)
  have hrl : rls.size = zm_ml m := hl.1.trans hml
  obtain ⟨rr, av, hrr, hr⟩ := hrun p e R s mid args below meth c dC dI A H locs cells slots ws tys rls rst _ _ X hW hrl hv rfl rfl ⟨by omega, by omega⟩
  have hA := X.2.2.2.2.2.2.2.2.2.2.2.2.1
  obtain ⟨t0, ht0⟩ := ha
  refine zs_back hr hW (zs_free hW hA) ?_ ?_
  · intro v ov H1 locs1 ws1 tys1 hr1 ho hW1 ha1
    obtain ⟨t1, ht1⟩ := ha1
    refine (kv v hr1).2.2 p e R s mid args below meth c dC dI A H1 locs1 _ _ ws1 tys1 rls _ as0 kc ks mc ms (bp + 3) X hT hW1 ⟨t0 ++ t1, by rw [ht1, ht0, List.append_assoc]⟩ ?_ hml ?_ hp' (by omega) (by omega) h3 h4 h5 h6
    · rw [ht1]; exact hl.ap _
    · refine zs_vs.push ho ?_
      rw [ht1]; exact hrr.ap _
  · intro k H1 locs1 ws1 tys1 q9 ce hr1 hk3 hW1 ha1 hcell hcv hcl
    obtain ⟨t1, ht1⟩ := ha1
    rcases kx k hr1 with ⟨hnil, e9⟩ | ⟨g, kk, hne, hfd, hS2⟩
    · subst e9
      have htab : c.exceptionTable.toList = [] := by
        rw [hT (Or.inr ⟨k, rfl⟩), hnil]
        rfl
      refine vx_out (E := zm_ex k) (fun x hx => by rw [htab] at hx; cases hx) X.2.2.2.1 hcell hcv hcl ?_ hW1.2.2.2.1.2.2 (by dsimp only at h3; omega) (by dsimp only at h4; omega)
      intro t ht hal
      obtain ⟨hP, hK, hD, hS, hh⟩ := hW1
      refine ⟨⟨k, ws1, tys1, rfl, rfl, hk3, ⟨t0 ++ t1, by rw [ht1, ht0, List.append_assoc]⟩, by rw [ht]; exact hP, va_K.moved hal hK, hD, hh⟩, hS.F ht⟩
    · have hm : m < zm_n := by
        obtain ⟨e5, h5e, -⟩ := zm_pc_inv hp
        exact zm_lt h5e
      obtain ⟨-, -, -, -, hp5, hhs⟩ := zc_m0h hall hm
      obtain ⟨pre, z, suf, k1, k2, k3, k4, k5, j, e2, e3, k6, k7, k8, k9, k10, k11⟩ := zs_fd (fun m hm => (zc_m0h hall hm).2.2.2.1) hm hp _ _ _ hhs hfd
      have htab : c.exceptionTable.toList = pre.map (fun q => (⟨q.1, q.2.1, q.2.2.1, q.2.2.2⟩ : ExceptionTableEntry)) ++ (⟨z.1, z.2.1, z.2.2.1, z.2.2.2⟩ : ExceptionTableEntry) :: suf.map (fun q => (⟨q.1, q.2.1, q.2.2.1, q.2.2.2⟩ : ExceptionTableEntry)) := by
        rw [hT (Or.inl hne), k1]
        unfold tableOf
        rw [List.map_append, List.map_cons]
      have hN := X.2.2.2.2.2.2.2.2.1
      have hts := X.2.2.2.2.2.2.2.1
      refine vx_catch (own := zm_ow m) (name := zm_ex k) (E := zm_ex k) X.2.2.2.2.2.1 _ _ _ htab ?_ k3 k4 (hts _ k5) (va_Nw.use rfl (hN.2.2.2.1 k hk3)) hcell hcv hcl ?_
      · intro x hx
        obtain ⟨y, hy, hy2⟩ := List.mem_map.mp hx
        subst hy2
        rcases k2 y hy with h9 | ⟨h9, u, hu3, hul, huk⟩
        · exact Or.inl h9
        · exact Or.inr ⟨h9, zm_ex u, hts _ hul, hN.2.2.2.2.1 k u hk3 hu3 (fun e9 => huk e9.symm)⟩
      · show W p l e R s mid args below meth c H1 locs1 _ _ _ (F0 mid z.2.2.1 rls [.ref q9])
        rw [← k9]
        obtain ⟨bp2, ins2, len2, a2, b2, c2, v2, w2, ts2⟩ := e2
        obtain ⟨ps2, hz⟩ := zc_at hall k7
        unfold zc_in at hz
        rw [Bool.and_eq_true, decide_eq_true_eq] at hz
        have hl1 : zs_l b (ws1.map Prod.fst) ls rls := by rw [ht1]; exact hl.ap _
        have hpe : zm_pc m g = some e3.1 := by rw [k6]; exact zm_pc_at k8
        have fin : ∀ (ls2 : Array Slot) (pc2 : Nat), pc2 = e3.1 → zs_l b (ws1.map Prod.fst) (zm_s0 ls kk) ls2 → W p l e R s mid args below meth c H1 locs1 (cells + (r1.2.2.2.1 - h.2.2.1)) (slots + (r1.2.2.2.2 - h.2.2.2)) (vx_MQ below (zs_Q b dC dI as0 A r) (zs_T b dC dI as0 A r) args s mc ms A) (F0 mid pc2 ls2 []) := by
          intro ls2 pc2 e5 hl2
          subst e5
          exact hS2.2.2 p e R s mid args below meth c dC dI A H1 locs1 _ _ ws1 tys1 ls2 [] as0 kc ks mc ms _ X hT hW1 ⟨t0 ++ t1, by rw [ht1, ht0, List.append_assoc]⟩ hl2 (by simp only [zm_s0, List.length_set, zs_cut_len]; exact hml) trivial hpe (by omega) (by omega) h3 h4 h5 h6
        rcases k11 with ⟨f, f1, f2, f3⟩ | ⟨f1, f3⟩
        · dsimp only at f1 f3
          subst f1
          have hd : decode (zm_by m) bp2 = .ok (.astore_n f, 1) := by
            have h9 := hz.2
            simp only [Bool.and_eq_true] at h9
            rw [← Nat.eq_of_beq_eq_true h9.1.2]
            exact hz.1
          exact lv_astore_n X.1 X.2.1 hd f2 (zs_all_has hl1.2.1) (by rw [hrl]; exact k10) rfl (fun ls2 h9 => fin ls2 _ f3.symm (hl1.put0 h9))
        · dsimp only at f1 f3
          subst f1
          have hd : decode (zm_by m) bp2 = .ok (.astore kk, 2) := by
            have h9 := hz.2
            simp only [Bool.and_eq_true] at h9
            rw [← Nat.eq_of_beq_eq_true h9.1.2]
            exact hz.1
          exact lv_astore X.1 X.2.1 hd (zs_all_has hl1.2.1) (by rw [hrl]; exact k10) rfl (fun ls2 h9 => fin ls2 _ f3.symm (hl1.put0 h9))
end
section
/-! EVERY INSTRUCTION FOLLOWS -/
theorem zc_dec {m bp k len : Nat} {ins : Instr} (h : decode (zm_by m) bp = .ok (ins, len)) (h2 : Nat.beq len k = true) : decode (zm_by m) bp = .ok (ins, k) := by
  rw [Nat.eq_of_beq_eq_true h2] at h
  exact h
theorem zc_hnil (hall : zc_All) {m : Nat} (hm : m < zm_n) : (zm_ht m = [] → zm_hh m = []) ∧ (∀ t tt, zm_ht m = t :: tt → zm_hh m ≠ []) := by
  obtain ⟨-, -, -, -, hp, h⟩ := zc_m0h hall hm
  refine ⟨fun e => ?_, fun t tt e e2 => ?_⟩
  · rw [e] at h
    cases hq : zm_hh m with
    | nil => rfl
    | cons a b =>
      rw [hq] at h
      cases hp <;> simp [zc_hs] at h
  · rw [e, e2] at h
    simp [zc_hs] at h
section ZG
variable {l : Launch} {b L : Nat} {xs : Nat → Int32}
theorem zs_rt (hall : zc_All) {e : zm_K} (ih : ∀ m i ls st h r, e (m, i, ls, st, h) = some r → zs_S l b L xs m i ls st h r) {m i bp c a : Nat} {ls : zm_L} {st rest as : List Value} {h : zm_H} {r : zm_R} (hp : zm_pc m i = some bp) (hp' : zm_pc m (i + 1) = some (bp + 3))
    (hr : zm_rt c e m i ls rest (zm_call e a as h) = some r)
    (hrun : ∀ r1 : zm_R, zs_S l b L xs a 0 (zm_in (zm_ml a) as) [] h r1 → (zm_in (zm_ml a) as).length = zm_ml a → ∀ (p : Program) (e : Env) (R : Room) (s : State) (mid : MethodId) (args : Array Value) (below : List Frame) (meth : Method) (c : Code) (dC : Nat → ClassId) (dI : Nat → Nat → Nat) (A : Nat → Prop) (H : Heap) (locs : List Loc) (cells slots : Nat) (ws : va_W) (tys : List (ClassId × FieldType)) (rls : Array Slot) (rst : List Value) (mc1 ms1 : Nat),
      zs_X l p R s mid args meth c m b L xs A → zs_W b dC dI ws tys A s H locs h → rls.size = zm_ml m → zs_vs b (ws.map Prod.fst) st rst → mc1 = r1.2.2.2.1 - h.2.2.1 → ms1 = r1.2.2.2.2 - h.2.2.2 → (cells + mc1 ≤ R.cells ∧ slots + ms1 ≤ R.slots) →
      ∃ rr av, zs_vs b (ws.map Prod.fst) rest rr ∧ vx_Run p l e R s mid args below meth c H locs cells slots mc1 ms1 (F0 mid bp rls rst) rr (zs_Q b dC dI (ws.map Prod.fst) (va_A ws H.size) r1 av) (zs_T b dC dI (ws.map Prod.fst) (va_A ws H.size) r1) (va_A ws H.size)) :
    zs_S l b L xs m i ls st h r := by
  have hm : m < zm_n := by
    obtain ⟨e5, h5e, -⟩ := zm_pc_inv hp
    exact zm_lt h5e
  have hn := zc_hnil hall hm
  unfold zm_call at hr
  split at hr
  · rename_i hlen
    have hin := Nat.eq_of_beq_eq_true hlen
    cases hq : e (a, 0, zm_in (zm_ml a) as, [], h) with
    | none =>
      rw [hq] at hr
      unfold zm_rt at hr
      split at hr <;> cases hr
    | some r1 =>
      rw [hq] at hr
      have hS1 := ih _ _ _ _ _ _ hq
      have kx : ∀ (k : Nat) (h1 : zm_H), r1 = (.inr k, h1) → zm_hx e m i ls k h1 = some r → (zm_hh m = [] ∧ r = (.inr k, r1.2)) ∨ ∃ g kk, zm_hh m ≠ [] ∧ zm_fd (zm_ht m) i k = some (g, kk) ∧ zs_S l b L xs m g (zm_s0 ls kk) [] r1.2 r := by
        intro k h1 e1 hx
        subst e1
        unfold zm_hx at hx
        split at hx
        · rename_i e2
          exact Or.inl ⟨hn.1 e2, (Option.some.inj hx).symm⟩
        · rename_i t tt e2
          split at hx
          · rename_i g kk e3
            exact Or.inr ⟨g, kk, hn.2 _ _ e2, by rw [e2]; exact e3, ih _ _ _ _ _ _ hx⟩
          · cases hx
      refine zs_inv hall hp hp' (r1 := r1) (rest := rest) ⟨hS1.1, hS1.2.1⟩ ?_ ?_ (hrun r1 hS1 hin)
      · intro v hv
        obtain ⟨r10, h1⟩ := r1
        dsimp only at hv
        subst hv
        unfold zm_rt at hr
        split at hr
        · unfold zm_rV at hr
          split at hr
          · rename_i e1
            cases e1
            exact ih _ _ _ _ _ _ hr
          · rename_i e1
            cases e1
          · cases hr
        · unfold zm_rI at hr
          split at hr
          · rename_i e1
            cases e1
            exact ih _ _ _ _ _ _ hr
          · rename_i e1
            cases e1
          · cases hr
        · unfold zm_rR at hr
          split at hr
          · rename_i e1
            cases e1
            exact ih _ _ _ _ _ _ hr
          · rename_i e1
            cases e1
          · cases hr
      · intro k hk
        obtain ⟨r10, h1⟩ := r1
        dsimp only at hk
        subst hk
        refine kx k h1 rfl ?_
        unfold zm_rt at hr
        split at hr
        · exact hr
        · exact hr
        · exact hr
  · unfold zm_rt at hr
    split at hr <;> cases hr
theorem zs_csum {st : List Value} {b : Nat} {as rr : List Value} {qs : List Nat} (h : Nat.ble (zm_cs st) 8 = true) (hv : zs_vs b qs st rr) : (rr.map fun v => v.category).sum ≤ 8 := by
  have h1 := Nat.le_of_ble_eq_true h
  rw [← hv.cat]
  exact h1
theorem zs_csum0 {st : List Value} (h : Nat.ble (zm_cs st) 8 = true) : (st.map fun v => v.category).sum ≤ 8 := Nat.le_of_ble_eq_true h
def zs_IH (l : Launch) (b L : Nat) (xs : Nat → Int32) (e : zm_K) : Prop := ∀ m i ls st h r, e (m, i, ls, st, h) = some r → zs_S l b L xs m i ls st h r

theorem zg_iadd (hall : zc_All) {e : zm_K} (ih : zs_IH l b L xs e) {m i bp len a b0 c : Nat} {v : Int32} {w : Int64} {ts : List Nat} {ls : zm_L} {st : List Value} {h : zm_H} {r : zm_R} (hc : (zm_cd m)[i]? = some (bp, .iadd, len, a, b0, c, v, w, ts)) (hr : zm_G (L, xs) e m i ls st h (.iadd) a b0 c v w ts = some r) : zs_S l b L xs m i ls st h r := by
  have hp : zm_pc m i = some bp := zm_pc_at hc
  obtain ⟨ps, hz⟩ := zc_at hall hc
  unfold zc_in at hz
  rw [Bool.and_eq_true, decide_eq_true_eq] at hz
  obtain ⟨hd, hz⟩ := hz
  unfold zm_G at hr
  dsimp only at hz hr
  rw [Bool.and_eq_true] at hz
  have hd := zc_dec hd hz.1
  have hn := zc_next hz.2
  split at hr
  · exact zs_pure hp hn rfl (zt_iadd hd) (ih _ _ _ _ _ _ hr)
  · cases hr
theorem zg_isub (hall : zc_All) {e : zm_K} (ih : zs_IH l b L xs e) {m i bp len a b0 c : Nat} {v : Int32} {w : Int64} {ts : List Nat} {ls : zm_L} {st : List Value} {h : zm_H} {r : zm_R} (hc : (zm_cd m)[i]? = some (bp, .isub, len, a, b0, c, v, w, ts)) (hr : zm_G (L, xs) e m i ls st h (.isub) a b0 c v w ts = some r) : zs_S l b L xs m i ls st h r := by
  have hp : zm_pc m i = some bp := zm_pc_at hc
  obtain ⟨ps, hz⟩ := zc_at hall hc
  unfold zc_in at hz
  rw [Bool.and_eq_true, decide_eq_true_eq] at hz
  obtain ⟨hd, hz⟩ := hz
  unfold zm_G at hr
  dsimp only at hz hr
  rw [Bool.and_eq_true] at hz
  have hd := zc_dec hd hz.1
  have hn := zc_next hz.2
  split at hr
  · exact zs_pure hp hn rfl (zt_isub hd) (ih _ _ _ _ _ _ hr)
  · cases hr
theorem zg_imul (hall : zc_All) {e : zm_K} (ih : zs_IH l b L xs e) {m i bp len a b0 c : Nat} {v : Int32} {w : Int64} {ts : List Nat} {ls : zm_L} {st : List Value} {h : zm_H} {r : zm_R} (hc : (zm_cd m)[i]? = some (bp, .imul, len, a, b0, c, v, w, ts)) (hr : zm_G (L, xs) e m i ls st h (.imul) a b0 c v w ts = some r) : zs_S l b L xs m i ls st h r := by
  have hp : zm_pc m i = some bp := zm_pc_at hc
  obtain ⟨ps, hz⟩ := zc_at hall hc
  unfold zc_in at hz
  rw [Bool.and_eq_true, decide_eq_true_eq] at hz
  obtain ⟨hd, hz⟩ := hz
  unfold zm_G at hr
  dsimp only at hz hr
  rw [Bool.and_eq_true] at hz
  have hd := zc_dec hd hz.1
  have hn := zc_next hz.2
  split at hr
  · exact zs_pure hp hn rfl (zt_imul hd) (ih _ _ _ _ _ _ hr)
  · cases hr
theorem zg_iand (hall : zc_All) {e : zm_K} (ih : zs_IH l b L xs e) {m i bp len a b0 c : Nat} {v : Int32} {w : Int64} {ts : List Nat} {ls : zm_L} {st : List Value} {h : zm_H} {r : zm_R} (hc : (zm_cd m)[i]? = some (bp, .iand, len, a, b0, c, v, w, ts)) (hr : zm_G (L, xs) e m i ls st h (.iand) a b0 c v w ts = some r) : zs_S l b L xs m i ls st h r := by
  have hp : zm_pc m i = some bp := zm_pc_at hc
  obtain ⟨ps, hz⟩ := zc_at hall hc
  unfold zc_in at hz
  rw [Bool.and_eq_true, decide_eq_true_eq] at hz
  obtain ⟨hd, hz⟩ := hz
  unfold zm_G at hr
  dsimp only at hz hr
  rw [Bool.and_eq_true] at hz
  have hd := zc_dec hd hz.1
  have hn := zc_next hz.2
  split at hr
  · exact zs_pure hp hn rfl (zt_iand hd) (ih _ _ _ _ _ _ hr)
  · cases hr
theorem zg_ior (hall : zc_All) {e : zm_K} (ih : zs_IH l b L xs e) {m i bp len a b0 c : Nat} {v : Int32} {w : Int64} {ts : List Nat} {ls : zm_L} {st : List Value} {h : zm_H} {r : zm_R} (hc : (zm_cd m)[i]? = some (bp, .ior, len, a, b0, c, v, w, ts)) (hr : zm_G (L, xs) e m i ls st h (.ior) a b0 c v w ts = some r) : zs_S l b L xs m i ls st h r := by
  have hp : zm_pc m i = some bp := zm_pc_at hc
  obtain ⟨ps, hz⟩ := zc_at hall hc
  unfold zc_in at hz
  rw [Bool.and_eq_true, decide_eq_true_eq] at hz
  obtain ⟨hd, hz⟩ := hz
  unfold zm_G at hr
  dsimp only at hz hr
  rw [Bool.and_eq_true] at hz
  have hd := zc_dec hd hz.1
  have hn := zc_next hz.2
  split at hr
  · exact zs_pure hp hn rfl (zt_ior hd) (ih _ _ _ _ _ _ hr)
  · cases hr
theorem zg_ixor (hall : zc_All) {e : zm_K} (ih : zs_IH l b L xs e) {m i bp len a b0 c : Nat} {v : Int32} {w : Int64} {ts : List Nat} {ls : zm_L} {st : List Value} {h : zm_H} {r : zm_R} (hc : (zm_cd m)[i]? = some (bp, .ixor, len, a, b0, c, v, w, ts)) (hr : zm_G (L, xs) e m i ls st h (.ixor) a b0 c v w ts = some r) : zs_S l b L xs m i ls st h r := by
  have hp : zm_pc m i = some bp := zm_pc_at hc
  obtain ⟨ps, hz⟩ := zc_at hall hc
  unfold zc_in at hz
  rw [Bool.and_eq_true, decide_eq_true_eq] at hz
  obtain ⟨hd, hz⟩ := hz
  unfold zm_G at hr
  dsimp only at hz hr
  rw [Bool.and_eq_true] at hz
  have hd := zc_dec hd hz.1
  have hn := zc_next hz.2
  split at hr
  · exact zs_pure hp hn rfl (zt_ixor hd) (ih _ _ _ _ _ _ hr)
  · cases hr
theorem zg_ishl (hall : zc_All) {e : zm_K} (ih : zs_IH l b L xs e) {m i bp len a b0 c : Nat} {v : Int32} {w : Int64} {ts : List Nat} {ls : zm_L} {st : List Value} {h : zm_H} {r : zm_R} (hc : (zm_cd m)[i]? = some (bp, .ishl, len, a, b0, c, v, w, ts)) (hr : zm_G (L, xs) e m i ls st h (.ishl) a b0 c v w ts = some r) : zs_S l b L xs m i ls st h r := by
  have hp : zm_pc m i = some bp := zm_pc_at hc
  obtain ⟨ps, hz⟩ := zc_at hall hc
  unfold zc_in at hz
  rw [Bool.and_eq_true, decide_eq_true_eq] at hz
  obtain ⟨hd, hz⟩ := hz
  unfold zm_G at hr
  dsimp only at hz hr
  rw [Bool.and_eq_true] at hz
  have hd := zc_dec hd hz.1
  have hn := zc_next hz.2
  split at hr
  · exact zs_pure hp hn rfl (zt_ishl hd) (ih _ _ _ _ _ _ hr)
  · cases hr
theorem zg_ishr (hall : zc_All) {e : zm_K} (ih : zs_IH l b L xs e) {m i bp len a b0 c : Nat} {v : Int32} {w : Int64} {ts : List Nat} {ls : zm_L} {st : List Value} {h : zm_H} {r : zm_R} (hc : (zm_cd m)[i]? = some (bp, .ishr, len, a, b0, c, v, w, ts)) (hr : zm_G (L, xs) e m i ls st h (.ishr) a b0 c v w ts = some r) : zs_S l b L xs m i ls st h r := by
  have hp : zm_pc m i = some bp := zm_pc_at hc
  obtain ⟨ps, hz⟩ := zc_at hall hc
  unfold zc_in at hz
  rw [Bool.and_eq_true, decide_eq_true_eq] at hz
  obtain ⟨hd, hz⟩ := hz
  unfold zm_G at hr
  dsimp only at hz hr
  rw [Bool.and_eq_true] at hz
  have hd := zc_dec hd hz.1
  have hn := zc_next hz.2
  split at hr
  · exact zs_pure hp hn rfl (zt_ishr hd) (ih _ _ _ _ _ _ hr)
  · cases hr
theorem zg_iushr (hall : zc_All) {e : zm_K} (ih : zs_IH l b L xs e) {m i bp len a b0 c : Nat} {v : Int32} {w : Int64} {ts : List Nat} {ls : zm_L} {st : List Value} {h : zm_H} {r : zm_R} (hc : (zm_cd m)[i]? = some (bp, .iushr, len, a, b0, c, v, w, ts)) (hr : zm_G (L, xs) e m i ls st h (.iushr) a b0 c v w ts = some r) : zs_S l b L xs m i ls st h r := by
  have hp : zm_pc m i = some bp := zm_pc_at hc
  obtain ⟨ps, hz⟩ := zc_at hall hc
  unfold zc_in at hz
  rw [Bool.and_eq_true, decide_eq_true_eq] at hz
  obtain ⟨hd, hz⟩ := hz
  unfold zm_G at hr
  dsimp only at hz hr
  rw [Bool.and_eq_true] at hz
  have hd := zc_dec hd hz.1
  have hn := zc_next hz.2
  split at hr
  · exact zs_pure hp hn rfl (zt_iushr hd) (ih _ _ _ _ _ _ hr)
  · cases hr
theorem zg_ladd (hall : zc_All) {e : zm_K} (ih : zs_IH l b L xs e) {m i bp len a b0 c : Nat} {v : Int32} {w : Int64} {ts : List Nat} {ls : zm_L} {st : List Value} {h : zm_H} {r : zm_R} (hc : (zm_cd m)[i]? = some (bp, .ladd, len, a, b0, c, v, w, ts)) (hr : zm_G (L, xs) e m i ls st h (.ladd) a b0 c v w ts = some r) : zs_S l b L xs m i ls st h r := by
  have hp : zm_pc m i = some bp := zm_pc_at hc
  obtain ⟨ps, hz⟩ := zc_at hall hc
  unfold zc_in at hz
  rw [Bool.and_eq_true, decide_eq_true_eq] at hz
  obtain ⟨hd, hz⟩ := hz
  unfold zm_G at hr
  dsimp only at hz hr
  rw [Bool.and_eq_true] at hz
  have hd := zc_dec hd hz.1
  have hn := zc_next hz.2
  split at hr
  · exact zs_pure hp hn rfl (zt_ladd hd) (ih _ _ _ _ _ _ hr)
  · cases hr
theorem zg_lmul (hall : zc_All) {e : zm_K} (ih : zs_IH l b L xs e) {m i bp len a b0 c : Nat} {v : Int32} {w : Int64} {ts : List Nat} {ls : zm_L} {st : List Value} {h : zm_H} {r : zm_R} (hc : (zm_cd m)[i]? = some (bp, .lmul, len, a, b0, c, v, w, ts)) (hr : zm_G (L, xs) e m i ls st h (.lmul) a b0 c v w ts = some r) : zs_S l b L xs m i ls st h r := by
  have hp : zm_pc m i = some bp := zm_pc_at hc
  obtain ⟨ps, hz⟩ := zc_at hall hc
  unfold zc_in at hz
  rw [Bool.and_eq_true, decide_eq_true_eq] at hz
  obtain ⟨hd, hz⟩ := hz
  unfold zm_G at hr
  dsimp only at hz hr
  rw [Bool.and_eq_true] at hz
  have hd := zc_dec hd hz.1
  have hn := zc_next hz.2
  split at hr
  · exact zs_pure hp hn rfl (zt_lmul hd) (ih _ _ _ _ _ _ hr)
  · cases hr
theorem zg_land (hall : zc_All) {e : zm_K} (ih : zs_IH l b L xs e) {m i bp len a b0 c : Nat} {v : Int32} {w : Int64} {ts : List Nat} {ls : zm_L} {st : List Value} {h : zm_H} {r : zm_R} (hc : (zm_cd m)[i]? = some (bp, .land, len, a, b0, c, v, w, ts)) (hr : zm_G (L, xs) e m i ls st h (.land) a b0 c v w ts = some r) : zs_S l b L xs m i ls st h r := by
  have hp : zm_pc m i = some bp := zm_pc_at hc
  obtain ⟨ps, hz⟩ := zc_at hall hc
  unfold zc_in at hz
  rw [Bool.and_eq_true, decide_eq_true_eq] at hz
  obtain ⟨hd, hz⟩ := hz
  unfold zm_G at hr
  dsimp only at hz hr
  rw [Bool.and_eq_true] at hz
  have hd := zc_dec hd hz.1
  have hn := zc_next hz.2
  split at hr
  · exact zs_pure hp hn rfl (zt_land hd) (ih _ _ _ _ _ _ hr)
  · cases hr
theorem zg_lor (hall : zc_All) {e : zm_K} (ih : zs_IH l b L xs e) {m i bp len a b0 c : Nat} {v : Int32} {w : Int64} {ts : List Nat} {ls : zm_L} {st : List Value} {h : zm_H} {r : zm_R} (hc : (zm_cd m)[i]? = some (bp, .lor, len, a, b0, c, v, w, ts)) (hr : zm_G (L, xs) e m i ls st h (.lor) a b0 c v w ts = some r) : zs_S l b L xs m i ls st h r := by
  have hp : zm_pc m i = some bp := zm_pc_at hc
  obtain ⟨ps, hz⟩ := zc_at hall hc
  unfold zc_in at hz
  rw [Bool.and_eq_true, decide_eq_true_eq] at hz
  obtain ⟨hd, hz⟩ := hz
  unfold zm_G at hr
  dsimp only at hz hr
  rw [Bool.and_eq_true] at hz
  have hd := zc_dec hd hz.1
  have hn := zc_next hz.2
  split at hr
  · exact zs_pure hp hn rfl (zt_lor hd) (ih _ _ _ _ _ _ hr)
  · cases hr
theorem zg_lshl (hall : zc_All) {e : zm_K} (ih : zs_IH l b L xs e) {m i bp len a b0 c : Nat} {v : Int32} {w : Int64} {ts : List Nat} {ls : zm_L} {st : List Value} {h : zm_H} {r : zm_R} (hc : (zm_cd m)[i]? = some (bp, .lshl, len, a, b0, c, v, w, ts)) (hr : zm_G (L, xs) e m i ls st h (.lshl) a b0 c v w ts = some r) : zs_S l b L xs m i ls st h r := by
  have hp : zm_pc m i = some bp := zm_pc_at hc
  obtain ⟨ps, hz⟩ := zc_at hall hc
  unfold zc_in at hz
  rw [Bool.and_eq_true, decide_eq_true_eq] at hz
  obtain ⟨hd, hz⟩ := hz
  unfold zm_G at hr
  dsimp only at hz hr
  rw [Bool.and_eq_true] at hz
  have hd := zc_dec hd hz.1
  have hn := zc_next hz.2
  split at hr
  · exact zs_pure hp hn rfl (zt_lshl hd) (ih _ _ _ _ _ _ hr)
  · cases hr
theorem zg_lushr (hall : zc_All) {e : zm_K} (ih : zs_IH l b L xs e) {m i bp len a b0 c : Nat} {v : Int32} {w : Int64} {ts : List Nat} {ls : zm_L} {st : List Value} {h : zm_H} {r : zm_R} (hc : (zm_cd m)[i]? = some (bp, .lushr, len, a, b0, c, v, w, ts)) (hr : zm_G (L, xs) e m i ls st h (.lushr) a b0 c v w ts = some r) : zs_S l b L xs m i ls st h r := by
  have hp : zm_pc m i = some bp := zm_pc_at hc
  obtain ⟨ps, hz⟩ := zc_at hall hc
  unfold zc_in at hz
  rw [Bool.and_eq_true, decide_eq_true_eq] at hz
  obtain ⟨hd, hz⟩ := hz
  unfold zm_G at hr
  dsimp only at hz hr
  rw [Bool.and_eq_true] at hz
  have hd := zc_dec hd hz.1
  have hn := zc_next hz.2
  split at hr
  · exact zs_pure hp hn rfl (zt_lushr hd) (ih _ _ _ _ _ _ hr)
  · cases hr
theorem zg_lcmp (hall : zc_All) {e : zm_K} (ih : zs_IH l b L xs e) {m i bp len a b0 c : Nat} {v : Int32} {w : Int64} {ts : List Nat} {ls : zm_L} {st : List Value} {h : zm_H} {r : zm_R} (hc : (zm_cd m)[i]? = some (bp, .lcmp, len, a, b0, c, v, w, ts)) (hr : zm_G (L, xs) e m i ls st h (.lcmp) a b0 c v w ts = some r) : zs_S l b L xs m i ls st h r := by
  have hp : zm_pc m i = some bp := zm_pc_at hc
  obtain ⟨ps, hz⟩ := zc_at hall hc
  unfold zc_in at hz
  rw [Bool.and_eq_true, decide_eq_true_eq] at hz
  obtain ⟨hd, hz⟩ := hz
  unfold zm_G at hr
  dsimp only at hz hr
  rw [Bool.and_eq_true] at hz
  have hd := zc_dec hd hz.1
  have hn := zc_next hz.2
  split at hr
  · exact zs_pure hp hn rfl (zt_lcmp hd) (ih _ _ _ _ _ _ hr)
  · cases hr
theorem zg_i2l (hall : zc_All) {e : zm_K} (ih : zs_IH l b L xs e) {m i bp len a b0 c : Nat} {v : Int32} {w : Int64} {ts : List Nat} {ls : zm_L} {st : List Value} {h : zm_H} {r : zm_R} (hc : (zm_cd m)[i]? = some (bp, .i2l, len, a, b0, c, v, w, ts)) (hr : zm_G (L, xs) e m i ls st h (.i2l) a b0 c v w ts = some r) : zs_S l b L xs m i ls st h r := by
  have hp : zm_pc m i = some bp := zm_pc_at hc
  obtain ⟨ps, hz⟩ := zc_at hall hc
  unfold zc_in at hz
  rw [Bool.and_eq_true, decide_eq_true_eq] at hz
  obtain ⟨hd, hz⟩ := hz
  unfold zm_G at hr
  dsimp only at hz hr
  rw [Bool.and_eq_true] at hz
  have hd := zc_dec hd hz.1
  have hn := zc_next hz.2
  split at hr
  · exact zs_pure hp hn rfl (zt_i2l hd) (ih _ _ _ _ _ _ hr)
  · cases hr
theorem zg_l2i (hall : zc_All) {e : zm_K} (ih : zs_IH l b L xs e) {m i bp len a b0 c : Nat} {v : Int32} {w : Int64} {ts : List Nat} {ls : zm_L} {st : List Value} {h : zm_H} {r : zm_R} (hc : (zm_cd m)[i]? = some (bp, .l2i, len, a, b0, c, v, w, ts)) (hr : zm_G (L, xs) e m i ls st h (.l2i) a b0 c v w ts = some r) : zs_S l b L xs m i ls st h r := by
  have hp : zm_pc m i = some bp := zm_pc_at hc
  obtain ⟨ps, hz⟩ := zc_at hall hc
  unfold zc_in at hz
  rw [Bool.and_eq_true, decide_eq_true_eq] at hz
  obtain ⟨hd, hz⟩ := hz
  unfold zm_G at hr
  dsimp only at hz hr
  rw [Bool.and_eq_true] at hz
  have hd := zc_dec hd hz.1
  have hn := zc_next hz.2
  split at hr
  · exact zs_pure hp hn rfl (zt_l2i hd) (ih _ _ _ _ _ _ hr)
  · cases hr
theorem zg_idiv (hall : zc_All) {e : zm_K} (ih : zs_IH l b L xs e) {m i bp len a b0 c : Nat} {v : Int32} {w : Int64} {ts : List Nat} {ls : zm_L} {st : List Value} {h : zm_H} {r : zm_R} (hc : (zm_cd m)[i]? = some (bp, .idiv, len, a, b0, c, v, w, ts)) (hr : zm_G (L, xs) e m i ls st h (.idiv) a b0 c v w ts = some r) : zs_S l b L xs m i ls st h r := by
  have hp : zm_pc m i = some bp := zm_pc_at hc
  obtain ⟨ps, hz⟩ := zc_at hall hc
  unfold zc_in at hz
  rw [Bool.and_eq_true, decide_eq_true_eq] at hz
  obtain ⟨hd, hz⟩ := hz
  unfold zm_G at hr
  dsimp only at hz hr
  rw [Bool.and_eq_true] at hz
  have hd := zc_dec hd hz.1
  have hn := zc_next hz.2
  split at hr
  · split at hr
    · cases hr
    · exact zs_pure hp hn rfl (zt_idiv ‹_› hd) (ih _ _ _ _ _ _ hr)
  · cases hr
theorem zg_irem (hall : zc_All) {e : zm_K} (ih : zs_IH l b L xs e) {m i bp len a b0 c : Nat} {v : Int32} {w : Int64} {ts : List Nat} {ls : zm_L} {st : List Value} {h : zm_H} {r : zm_R} (hc : (zm_cd m)[i]? = some (bp, .irem, len, a, b0, c, v, w, ts)) (hr : zm_G (L, xs) e m i ls st h (.irem) a b0 c v w ts = some r) : zs_S l b L xs m i ls st h r := by
  have hp : zm_pc m i = some bp := zm_pc_at hc
  obtain ⟨ps, hz⟩ := zc_at hall hc
  unfold zc_in at hz
  rw [Bool.and_eq_true, decide_eq_true_eq] at hz
  obtain ⟨hd, hz⟩ := hz
  unfold zm_G at hr
  dsimp only at hz hr
  rw [Bool.and_eq_true] at hz
  have hd := zc_dec hd hz.1
  have hn := zc_next hz.2
  split at hr
  · split at hr
    · cases hr
    · exact zs_pure hp hn rfl (zt_irem ‹_› hd) (ih _ _ _ _ _ _ hr)
  · cases hr
theorem zg_ldiv (hall : zc_All) {e : zm_K} (ih : zs_IH l b L xs e) {m i bp len a b0 c : Nat} {v : Int32} {w : Int64} {ts : List Nat} {ls : zm_L} {st : List Value} {h : zm_H} {r : zm_R} (hc : (zm_cd m)[i]? = some (bp, .ldiv, len, a, b0, c, v, w, ts)) (hr : zm_G (L, xs) e m i ls st h (.ldiv) a b0 c v w ts = some r) : zs_S l b L xs m i ls st h r := by
  have hp : zm_pc m i = some bp := zm_pc_at hc
  obtain ⟨ps, hz⟩ := zc_at hall hc
  unfold zc_in at hz
  rw [Bool.and_eq_true, decide_eq_true_eq] at hz
  obtain ⟨hd, hz⟩ := hz
  unfold zm_G at hr
  dsimp only at hz hr
  rw [Bool.and_eq_true] at hz
  have hd := zc_dec hd hz.1
  have hn := zc_next hz.2
  split at hr
  · split at hr
    · cases hr
    · exact zs_pure hp hn rfl (zt_ldiv ‹_› hd) (ih _ _ _ _ _ _ hr)
  · cases hr
theorem zg_lrem (hall : zc_All) {e : zm_K} (ih : zs_IH l b L xs e) {m i bp len a b0 c : Nat} {v : Int32} {w : Int64} {ts : List Nat} {ls : zm_L} {st : List Value} {h : zm_H} {r : zm_R} (hc : (zm_cd m)[i]? = some (bp, .lrem, len, a, b0, c, v, w, ts)) (hr : zm_G (L, xs) e m i ls st h (.lrem) a b0 c v w ts = some r) : zs_S l b L xs m i ls st h r := by
  have hp : zm_pc m i = some bp := zm_pc_at hc
  obtain ⟨ps, hz⟩ := zc_at hall hc
  unfold zc_in at hz
  rw [Bool.and_eq_true, decide_eq_true_eq] at hz
  obtain ⟨hd, hz⟩ := hz
  unfold zm_G at hr
  dsimp only at hz hr
  rw [Bool.and_eq_true] at hz
  have hd := zc_dec hd hz.1
  have hn := zc_next hz.2
  split at hr
  · split at hr
    · cases hr
    · exact zs_pure hp hn rfl (zt_lrem ‹_› hd) (ih _ _ _ _ _ _ hr)
  · cases hr
theorem zg_iconst (hall : zc_All) {e : zm_K} (ih : zs_IH l b L xs e) {m i bp len a b0 c : Nat} {v : Int32} {w : Int64} {ts : List Nat} {ls : zm_L} {st : List Value} {h : zm_H} {r : zm_R} {n : Int} (hc : (zm_cd m)[i]? = some (bp, .iconst n, len, a, b0, c, v, w, ts)) (hr : zm_G (L, xs) e m i ls st h (.iconst n) a b0 c v w ts = some r) : zs_S l b L xs m i ls st h r := by
  have hp : zm_pc m i = some bp := zm_pc_at hc
  obtain ⟨ps, hz⟩ := zc_at hall hc
  unfold zc_in at hz
  rw [Bool.and_eq_true, decide_eq_true_eq] at hz
  obtain ⟨hd, hz⟩ := hz
  unfold zm_G at hr
  dsimp only at hz hr
  simp only [Bool.and_eq_true, decide_eq_true_eq] at hz
  have hd := zc_dec hd hz.1.2
  have hn := zc_next hz.2
  exact zs_pure hp hn rfl (zt_iconst hz.1.1 hd) (ih _ _ _ _ _ _ hr)
theorem zg_bipush (hall : zc_All) {e : zm_K} (ih : zs_IH l b L xs e) {m i bp len a b0 c : Nat} {v : Int32} {w : Int64} {ts : List Nat} {ls : zm_L} {st : List Value} {h : zm_H} {r : zm_R} {n : Int} (hc : (zm_cd m)[i]? = some (bp, .bipush n, len, a, b0, c, v, w, ts)) (hr : zm_G (L, xs) e m i ls st h (.bipush n) a b0 c v w ts = some r) : zs_S l b L xs m i ls st h r := by
  have hp : zm_pc m i = some bp := zm_pc_at hc
  obtain ⟨ps, hz⟩ := zc_at hall hc
  unfold zc_in at hz
  rw [Bool.and_eq_true, decide_eq_true_eq] at hz
  obtain ⟨hd, hz⟩ := hz
  unfold zm_G at hr
  dsimp only at hz hr
  simp only [Bool.and_eq_true, decide_eq_true_eq] at hz
  have hd := zc_dec hd hz.1.2
  have hn := zc_next hz.2
  exact zs_pure hp hn rfl (zt_bipush hz.1.1 hd) (ih _ _ _ _ _ _ hr)
theorem zg_sipush (hall : zc_All) {e : zm_K} (ih : zs_IH l b L xs e) {m i bp len a b0 c : Nat} {v : Int32} {w : Int64} {ts : List Nat} {ls : zm_L} {st : List Value} {h : zm_H} {r : zm_R} {n : Int} (hc : (zm_cd m)[i]? = some (bp, .sipush n, len, a, b0, c, v, w, ts)) (hr : zm_G (L, xs) e m i ls st h (.sipush n) a b0 c v w ts = some r) : zs_S l b L xs m i ls st h r := by
  have hp : zm_pc m i = some bp := zm_pc_at hc
  obtain ⟨ps, hz⟩ := zc_at hall hc
  unfold zc_in at hz
  rw [Bool.and_eq_true, decide_eq_true_eq] at hz
  obtain ⟨hd, hz⟩ := hz
  unfold zm_G at hr
  dsimp only at hz hr
  simp only [Bool.and_eq_true, decide_eq_true_eq] at hz
  have hd := zc_dec hd hz.1.2
  have hn := zc_next hz.2
  exact zs_pure hp hn rfl (zt_sipush hz.1.1 hd) (ih _ _ _ _ _ _ hr)
theorem zg_lconst (hall : zc_All) {e : zm_K} (ih : zs_IH l b L xs e) {m i bp len a b0 c : Nat} {v : Int32} {w : Int64} {ts : List Nat} {ls : zm_L} {st : List Value} {h : zm_H} {r : zm_R} {n : Fin 2} (hc : (zm_cd m)[i]? = some (bp, .lconst n, len, a, b0, c, v, w, ts)) (hr : zm_G (L, xs) e m i ls st h (.lconst n) a b0 c v w ts = some r) : zs_S l b L xs m i ls st h r := by
  have hp : zm_pc m i = some bp := zm_pc_at hc
  obtain ⟨ps, hz⟩ := zc_at hall hc
  unfold zc_in at hz
  rw [Bool.and_eq_true, decide_eq_true_eq] at hz
  obtain ⟨hd, hz⟩ := hz
  unfold zm_G at hr
  dsimp only at hz hr
  simp only [Bool.and_eq_true, decide_eq_true_eq] at hz
  have hd := zc_dec hd hz.1.2
  have hn := zc_next hz.2
  exact zs_pure hp hn rfl (zt_lconst hz.1.1 hd) (ih _ _ _ _ _ _ hr)
theorem zg_ldc_w (hall : zc_All) {e : zm_K} (ih : zs_IH l b L xs e) {m i bp len a b0 c : Nat} {v : Int32} {w : Int64} {ts : List Nat} {ls : zm_L} {st : List Value} {h : zm_H} {r : zm_R} {n : Nat} (hc : (zm_cd m)[i]? = some (bp, .ldc_w n, len, a, b0, c, v, w, ts)) (hr : zm_G (L, xs) e m i ls st h (.ldc_w n) a b0 c v w ts = some r) : zs_S l b L xs m i ls st h r := by
  have hp : zm_pc m i = some bp := zm_pc_at hc
  obtain ⟨ps, hz⟩ := zc_at hall hc
  unfold zc_in at hz
  rw [Bool.and_eq_true, decide_eq_true_eq] at hz
  obtain ⟨hd, hz⟩ := hz
  unfold zm_G at hr
  dsimp only at hz hr
  split at hr
  · split at hz
    · split at hz
      · simp only [Bool.and_eq_true] at hz
        have hd := zc_dec hd hz.1.2
        have hn := zc_next hz.2
        exact zs_pure hp hn rfl (zt_const (zc_okw hz.1.1) hd) (ih _ _ _ _ _ _ hr)
      · cases hz
    · rename_i n9
      exact (n9 rfl).elim
  · cases hr
theorem zg_ldc2_w (hall : zc_All) {e : zm_K} (ih : zs_IH l b L xs e) {m i bp len a b0 c : Nat} {v : Int32} {w : Int64} {ts : List Nat} {ls : zm_L} {st : List Value} {h : zm_H} {r : zm_R} {n : Nat} (hc : (zm_cd m)[i]? = some (bp, .ldc2_w n, len, a, b0, c, v, w, ts)) (hr : zm_G (L, xs) e m i ls st h (.ldc2_w n) a b0 c v w ts = some r) : zs_S l b L xs m i ls st h r := by
  have hp : zm_pc m i = some bp := zm_pc_at hc
  obtain ⟨ps, hz⟩ := zc_at hall hc
  unfold zc_in at hz
  rw [Bool.and_eq_true, decide_eq_true_eq] at hz
  obtain ⟨hd, hz⟩ := hz
  unfold zm_G at hr
  dsimp only at hz hr
  split at hz
  · simp only [Bool.and_eq_true] at hz
    have hd := zc_dec hd hz.1.2
    have hn := zc_next hz.2
    exact zs_pure hp hn rfl (zt_constL (zc_okw hz.1.1) hd) (ih _ _ _ _ _ _ hr)
  · cases hz
theorem zg_iload_n (hall : zc_All) {e : zm_K} (ih : zs_IH l b L xs e) {m i bp len a b0 c : Nat} {v : Int32} {w : Int64} {ts : List Nat} {ls : zm_L} {st : List Value} {h : zm_H} {r : zm_R} {k : Fin 4} (hc : (zm_cd m)[i]? = some (bp, .iload_n k, len, a, b0, c, v, w, ts)) (hr : zm_G (L, xs) e m i ls st h (.iload_n k) a b0 c v w ts = some r) : zs_S l b L xs m i ls st h r := by
  have hp : zm_pc m i = some bp := zm_pc_at hc
  obtain ⟨ps, hz⟩ := zc_at hall hc
  unfold zc_in at hz
  rw [Bool.and_eq_true, decide_eq_true_eq] at hz
  obtain ⟨hd, hz⟩ := hz
  unfold zm_G at hr
  dsimp only at hz hr
  simp only [Bool.and_eq_true] at hz
  have hd := zc_dec hd hz.1.2
  have hn := zc_next hz.2
  split at hr
  · rename_i x hx
    exact zs_pure hp hn rfl (zt_iload_n (Nat.eq_of_beq_eq_true hz.1.1) hx hd) (ih _ _ _ _ _ _ hr)
  · cases hr
theorem zg_iload (hall : zc_All) {e : zm_K} (ih : zs_IH l b L xs e) {m i bp len a b0 c : Nat} {v : Int32} {w : Int64} {ts : List Nat} {ls : zm_L} {st : List Value} {h : zm_H} {r : zm_R} {k : Nat} (hc : (zm_cd m)[i]? = some (bp, .iload k, len, a, b0, c, v, w, ts)) (hr : zm_G (L, xs) e m i ls st h (.iload k) a b0 c v w ts = some r) : zs_S l b L xs m i ls st h r := by
  have hp : zm_pc m i = some bp := zm_pc_at hc
  obtain ⟨ps, hz⟩ := zc_at hall hc
  unfold zc_in at hz
  rw [Bool.and_eq_true, decide_eq_true_eq] at hz
  obtain ⟨hd, hz⟩ := hz
  unfold zm_G at hr
  dsimp only at hz hr
  simp only [Bool.and_eq_true] at hz
  have hd := zc_dec hd hz.1.2
  have hn := zc_next hz.2
  have hk := Nat.eq_of_beq_eq_true hz.1.1
  subst hk
  split at hr
  · rename_i x hx
    exact zs_pure hp hn rfl (zt_iload hx hd) (ih _ _ _ _ _ _ hr)
  · cases hr
theorem zg_lload_n (hall : zc_All) {e : zm_K} (ih : zs_IH l b L xs e) {m i bp len a b0 c : Nat} {v : Int32} {w : Int64} {ts : List Nat} {ls : zm_L} {st : List Value} {h : zm_H} {r : zm_R} {k : Fin 4} (hc : (zm_cd m)[i]? = some (bp, .lload_n k, len, a, b0, c, v, w, ts)) (hr : zm_G (L, xs) e m i ls st h (.lload_n k) a b0 c v w ts = some r) : zs_S l b L xs m i ls st h r := by
  have hp : zm_pc m i = some bp := zm_pc_at hc
  obtain ⟨ps, hz⟩ := zc_at hall hc
  unfold zc_in at hz
  rw [Bool.and_eq_true, decide_eq_true_eq] at hz
  obtain ⟨hd, hz⟩ := hz
  unfold zm_G at hr
  dsimp only at hz hr
  simp only [Bool.and_eq_true] at hz
  have hd := zc_dec hd hz.1.2
  have hn := zc_next hz.2
  split at hr
  · rename_i x hx
    exact zs_pure hp hn rfl (zt_lload_n (Nat.eq_of_beq_eq_true hz.1.1) hx hd) (ih _ _ _ _ _ _ hr)
  · cases hr
theorem zg_lload (hall : zc_All) {e : zm_K} (ih : zs_IH l b L xs e) {m i bp len a b0 c : Nat} {v : Int32} {w : Int64} {ts : List Nat} {ls : zm_L} {st : List Value} {h : zm_H} {r : zm_R} {k : Nat} (hc : (zm_cd m)[i]? = some (bp, .lload k, len, a, b0, c, v, w, ts)) (hr : zm_G (L, xs) e m i ls st h (.lload k) a b0 c v w ts = some r) : zs_S l b L xs m i ls st h r := by
  have hp : zm_pc m i = some bp := zm_pc_at hc
  obtain ⟨ps, hz⟩ := zc_at hall hc
  unfold zc_in at hz
  rw [Bool.and_eq_true, decide_eq_true_eq] at hz
  obtain ⟨hd, hz⟩ := hz
  unfold zm_G at hr
  dsimp only at hz hr
  simp only [Bool.and_eq_true] at hz
  have hd := zc_dec hd hz.1.2
  have hn := zc_next hz.2
  have hk := Nat.eq_of_beq_eq_true hz.1.1
  subst hk
  split at hr
  · rename_i x hx
    exact zs_pure hp hn rfl (zt_lload hx hd) (ih _ _ _ _ _ _ hr)
  · cases hr
theorem zg_aload_n (hall : zc_All) {e : zm_K} (ih : zs_IH l b L xs e) {m i bp len a b0 c : Nat} {v : Int32} {w : Int64} {ts : List Nat} {ls : zm_L} {st : List Value} {h : zm_H} {r : zm_R} {k : Fin 4} (hc : (zm_cd m)[i]? = some (bp, .aload_n k, len, a, b0, c, v, w, ts)) (hr : zm_G (L, xs) e m i ls st h (.aload_n k) a b0 c v w ts = some r) : zs_S l b L xs m i ls st h r := by
  have hp : zm_pc m i = some bp := zm_pc_at hc
  obtain ⟨ps, hz⟩ := zc_at hall hc
  unfold zc_in at hz
  rw [Bool.and_eq_true, decide_eq_true_eq] at hz
  obtain ⟨hd, hz⟩ := hz
  unfold zm_G at hr
  dsimp only at hz hr
  simp only [Bool.and_eq_true] at hz
  have hd := zc_dec hd hz.1.2
  have hn := zc_next hz.2
  split at hr
  · rename_i x hx
    exact zs_pure hp hn rfl (zt_aload_n (Nat.eq_of_beq_eq_true hz.1.1) hx hd) (ih _ _ _ _ _ _ hr)
  · rename_i x hx
    exact zs_pure hp hn rfl (zt_aload_s (Nat.eq_of_beq_eq_true hz.1.1) hx hd) (ih _ _ _ _ _ _ hr)
  · cases hr
theorem zg_aload (hall : zc_All) {e : zm_K} (ih : zs_IH l b L xs e) {m i bp len a b0 c : Nat} {v : Int32} {w : Int64} {ts : List Nat} {ls : zm_L} {st : List Value} {h : zm_H} {r : zm_R} {k : Nat} (hc : (zm_cd m)[i]? = some (bp, .aload k, len, a, b0, c, v, w, ts)) (hr : zm_G (L, xs) e m i ls st h (.aload k) a b0 c v w ts = some r) : zs_S l b L xs m i ls st h r := by
  have hp : zm_pc m i = some bp := zm_pc_at hc
  obtain ⟨ps, hz⟩ := zc_at hall hc
  unfold zc_in at hz
  rw [Bool.and_eq_true, decide_eq_true_eq] at hz
  obtain ⟨hd, hz⟩ := hz
  unfold zm_G at hr
  dsimp only at hz hr
  simp only [Bool.and_eq_true] at hz
  have hd := zc_dec hd hz.1.2
  have hn := zc_next hz.2
  have hk := Nat.eq_of_beq_eq_true hz.1.1
  subst hk
  split at hr
  · rename_i x hx
    exact zs_pure hp hn rfl (zt_aload hx hd) (ih _ _ _ _ _ _ hr)
  · cases hr
theorem zg_istore_n (hall : zc_All) {e : zm_K} (ih : zs_IH l b L xs e) {m i bp len a b0 c : Nat} {v : Int32} {w : Int64} {ts : List Nat} {ls : zm_L} {st : List Value} {h : zm_H} {r : zm_R} {k : Fin 4} (hc : (zm_cd m)[i]? = some (bp, .istore_n k, len, a, b0, c, v, w, ts)) (hr : zm_G (L, xs) e m i ls st h (.istore_n k) a b0 c v w ts = some r) : zs_S l b L xs m i ls st h r := by
  have hp : zm_pc m i = some bp := zm_pc_at hc
  obtain ⟨ps, hz⟩ := zc_at hall hc
  unfold zc_in at hz
  rw [Bool.and_eq_true, decide_eq_true_eq] at hz
  obtain ⟨hd, hz⟩ := hz
  unfold zm_G at hr
  dsimp only at hz hr
  simp only [Bool.and_eq_true] at hz
  have hd := zc_dec hd hz.1.2
  have hn := zc_next hz.2
  split at hr
  · exact zs_pure hp hn (by simp only [zm_s1, List.length_set, zs_cut_len]) (zt_istore_n (Nat.eq_of_beq_eq_true hz.1.1.1) (Nat.le_of_ble_eq_true hz.1.1.2) hd) (ih _ _ _ _ _ _ hr)
  · cases hr
theorem zg_istore (hall : zc_All) {e : zm_K} (ih : zs_IH l b L xs e) {m i bp len a b0 c : Nat} {v : Int32} {w : Int64} {ts : List Nat} {ls : zm_L} {st : List Value} {h : zm_H} {r : zm_R} {k : Nat} (hc : (zm_cd m)[i]? = some (bp, .istore k, len, a, b0, c, v, w, ts)) (hr : zm_G (L, xs) e m i ls st h (.istore k) a b0 c v w ts = some r) : zs_S l b L xs m i ls st h r := by
  have hp : zm_pc m i = some bp := zm_pc_at hc
  obtain ⟨ps, hz⟩ := zc_at hall hc
  unfold zc_in at hz
  rw [Bool.and_eq_true, decide_eq_true_eq] at hz
  obtain ⟨hd, hz⟩ := hz
  unfold zm_G at hr
  dsimp only at hz hr
  simp only [Bool.and_eq_true] at hz
  have hd := zc_dec hd hz.1.2
  have hn := zc_next hz.2
  have hk := Nat.eq_of_beq_eq_true hz.1.1.1
  subst hk
  split at hr
  · exact zs_pure hp hn (by simp only [zm_s1, List.length_set, zs_cut_len]) (zt_istore (Nat.le_of_ble_eq_true hz.1.1.2) hd) (ih _ _ _ _ _ _ hr)
  · cases hr
theorem zg_lstore_n (hall : zc_All) {e : zm_K} (ih : zs_IH l b L xs e) {m i bp len a b0 c : Nat} {v : Int32} {w : Int64} {ts : List Nat} {ls : zm_L} {st : List Value} {h : zm_H} {r : zm_R} {k : Fin 4} (hc : (zm_cd m)[i]? = some (bp, .lstore_n k, len, a, b0, c, v, w, ts)) (hr : zm_G (L, xs) e m i ls st h (.lstore_n k) a b0 c v w ts = some r) : zs_S l b L xs m i ls st h r := by
  have hp : zm_pc m i = some bp := zm_pc_at hc
  obtain ⟨ps, hz⟩ := zc_at hall hc
  unfold zc_in at hz
  rw [Bool.and_eq_true, decide_eq_true_eq] at hz
  obtain ⟨hd, hz⟩ := hz
  unfold zm_G at hr
  dsimp only at hz hr
  simp only [Bool.and_eq_true] at hz
  have hd := zc_dec hd hz.1.2
  have hn := zc_next hz.2
  split at hr
  · exact zs_pure hp hn (by simp only [zm_s2, List.length_set, zs_cut_len]) (zt_lstore_n (Nat.eq_of_beq_eq_true hz.1.1.1) (Nat.le_of_ble_eq_true hz.1.1.2) hd) (ih _ _ _ _ _ _ hr)
  · cases hr
theorem zg_lstore (hall : zc_All) {e : zm_K} (ih : zs_IH l b L xs e) {m i bp len a b0 c : Nat} {v : Int32} {w : Int64} {ts : List Nat} {ls : zm_L} {st : List Value} {h : zm_H} {r : zm_R} {k : Nat} (hc : (zm_cd m)[i]? = some (bp, .lstore k, len, a, b0, c, v, w, ts)) (hr : zm_G (L, xs) e m i ls st h (.lstore k) a b0 c v w ts = some r) : zs_S l b L xs m i ls st h r := by
  have hp : zm_pc m i = some bp := zm_pc_at hc
  obtain ⟨ps, hz⟩ := zc_at hall hc
  unfold zc_in at hz
  rw [Bool.and_eq_true, decide_eq_true_eq] at hz
  obtain ⟨hd, hz⟩ := hz
  unfold zm_G at hr
  dsimp only at hz hr
  simp only [Bool.and_eq_true] at hz
  have hd := zc_dec hd hz.1.2
  have hn := zc_next hz.2
  have hk := Nat.eq_of_beq_eq_true hz.1.1.1
  subst hk
  split at hr
  · exact zs_pure hp hn (by simp only [zm_s2, List.length_set, zs_cut_len]) (zt_lstore (Nat.le_of_ble_eq_true hz.1.1.2) hd) (ih _ _ _ _ _ _ hr)
  · cases hr
theorem zg_astore_n (hall : zc_All) {e : zm_K} (ih : zs_IH l b L xs e) {m i bp len a b0 c : Nat} {v : Int32} {w : Int64} {ts : List Nat} {ls : zm_L} {st : List Value} {h : zm_H} {r : zm_R} {k : Fin 4} (hc : (zm_cd m)[i]? = some (bp, .astore_n k, len, a, b0, c, v, w, ts)) (hr : zm_G (L, xs) e m i ls st h (.astore_n k) a b0 c v w ts = some r) : zs_S l b L xs m i ls st h r := by
  have hp : zm_pc m i = some bp := zm_pc_at hc
  obtain ⟨ps, hz⟩ := zc_at hall hc
  unfold zc_in at hz
  rw [Bool.and_eq_true, decide_eq_true_eq] at hz
  obtain ⟨hd, hz⟩ := hz
  unfold zm_G at hr
  dsimp only at hz hr
  simp only [Bool.and_eq_true] at hz
  have hd := zc_dec hd hz.1.2
  have hn := zc_next hz.2
  split at hr
  · exact zs_pure hp hn (by simp only [zm_s1, List.length_set, zs_cut_len]) (zt_astore_n (Nat.eq_of_beq_eq_true hz.1.1.1) (Nat.le_of_ble_eq_true hz.1.1.2) hd) (ih _ _ _ _ _ _ hr)
  · cases hr
theorem zg_astore (hall : zc_All) {e : zm_K} (ih : zs_IH l b L xs e) {m i bp len a b0 c : Nat} {v : Int32} {w : Int64} {ts : List Nat} {ls : zm_L} {st : List Value} {h : zm_H} {r : zm_R} {k : Nat} (hc : (zm_cd m)[i]? = some (bp, .astore k, len, a, b0, c, v, w, ts)) (hr : zm_G (L, xs) e m i ls st h (.astore k) a b0 c v w ts = some r) : zs_S l b L xs m i ls st h r := by
  have hp : zm_pc m i = some bp := zm_pc_at hc
  obtain ⟨ps, hz⟩ := zc_at hall hc
  unfold zc_in at hz
  rw [Bool.and_eq_true, decide_eq_true_eq] at hz
  obtain ⟨hd, hz⟩ := hz
  unfold zm_G at hr
  dsimp only at hz hr
  simp only [Bool.and_eq_true] at hz
  have hd := zc_dec hd hz.1.2
  have hn := zc_next hz.2
  have hk := Nat.eq_of_beq_eq_true hz.1.1.1
  subst hk
  split at hr
  · exact zs_pure hp hn (by simp only [zm_s1, List.length_set, zs_cut_len]) (zt_astore (Nat.le_of_ble_eq_true hz.1.1.2) hd) (ih _ _ _ _ _ _ hr)
  · cases hr
theorem zg_iinc (hall : zc_All) {e : zm_K} (ih : zs_IH l b L xs e) {m i bp len a b0 c : Nat} {v : Int32} {w : Int64} {ts : List Nat} {ls : zm_L} {st : List Value} {h : zm_H} {r : zm_R} {k : Nat} {n : Int} (hc : (zm_cd m)[i]? = some (bp, .iinc k n, len, a, b0, c, v, w, ts)) (hr : zm_G (L, xs) e m i ls st h (.iinc k n) a b0 c v w ts = some r) : zs_S l b L xs m i ls st h r := by
  have hp : zm_pc m i = some bp := zm_pc_at hc
  obtain ⟨ps, hz⟩ := zc_at hall hc
  unfold zc_in at hz
  rw [Bool.and_eq_true, decide_eq_true_eq] at hz
  obtain ⟨hd, hz⟩ := hz
  unfold zm_G at hr
  dsimp only at hz hr
  simp only [Bool.and_eq_true, decide_eq_true_eq] at hz
  have hd := zc_dec hd hz.1.2
  have hn := zc_next hz.2
  have hk := Nat.eq_of_beq_eq_true hz.1.1.1.1
  subst hk
  split at hr
  · rename_i x hx
    exact zs_pure hp hn (by simp only [zm_s1, List.length_set, zs_cut_len]) (zt_iinc hx hz.1.1.2 (Nat.le_of_ble_eq_true hz.1.1.1.2) hd) (ih _ _ _ _ _ _ hr)
  · cases hr
theorem zg_goto (hall : zc_All) {e : zm_K} (ih : zs_IH l b L xs e) {m i bp len a b0 c : Nat} {v : Int32} {w : Int64} {ts : List Nat} {ls : zm_L} {st : List Value} {h : zm_H} {r : zm_R} {n : Int} (hc : (zm_cd m)[i]? = some (bp, .goto n, len, a, b0, c, v, w, ts)) (hr : zm_G (L, xs) e m i ls st h (.goto n) a b0 c v w ts = some r) : zs_S l b L xs m i ls st h r := by
  have hp : zm_pc m i = some bp := zm_pc_at hc
  obtain ⟨ps, hz⟩ := zc_at hall hc
  unfold zc_in at hz
  rw [Bool.and_eq_true, decide_eq_true_eq] at hz
  obtain ⟨hd, hz⟩ := hz
  unfold zm_G at hr
  dsimp only at hz hr
  simp only [Bool.and_eq_true] at hz
  have hd := zc_dec hd hz.1
  obtain ⟨pc, h1, h2⟩ := zc_tgt hz.2
  exact zs_pure hp h1 rfl (zt_goto h2 hd) (ih _ _ _ _ _ _ hr)
theorem zg_icmp_eq (hall : zc_All) {e : zm_K} (ih : zs_IH l b L xs e) {m i bp len a b0 c : Nat} {v : Int32} {w : Int64} {ts : List Nat} {ls : zm_L} {st : List Value} {h : zm_H} {r : zm_R} {n : Int} (hc : (zm_cd m)[i]? = some (bp, .if_icmp .eq n, len, a, b0, c, v, w, ts)) (hr : zm_G (L, xs) e m i ls st h (.if_icmp .eq n) a b0 c v w ts = some r) : zs_S l b L xs m i ls st h r := by
  have hp : zm_pc m i = some bp := zm_pc_at hc
  obtain ⟨ps, hz⟩ := zc_at hall hc
  unfold zc_in at hz
  rw [Bool.and_eq_true, decide_eq_true_eq] at hz
  obtain ⟨hd, hz⟩ := hz
  unfold zm_G at hr
  dsimp only at hz hr
  simp only [Bool.and_eq_true] at hz
  have hd := zc_dec hd hz.1.1
  have hn := zc_next hz.2
  obtain ⟨pc, h1, h2⟩ := zc_tgt hz.1.2
  split at hr
  · split at hr
    · exact zs_pure hp h1 rfl (zt_icmp_eq_t h2 ‹_› hd) (ih _ _ _ _ _ _ hr)
    · exact zs_pure hp hn rfl (zt_icmp_eq_f h2 ‹_› hd) (ih _ _ _ _ _ _ hr)
  · cases hr
theorem zg_if_eq (hall : zc_All) {e : zm_K} (ih : zs_IH l b L xs e) {m i bp len a b0 c : Nat} {v : Int32} {w : Int64} {ts : List Nat} {ls : zm_L} {st : List Value} {h : zm_H} {r : zm_R} {n : Int} (hc : (zm_cd m)[i]? = some (bp, .ifCond .eq n, len, a, b0, c, v, w, ts)) (hr : zm_G (L, xs) e m i ls st h (.ifCond .eq n) a b0 c v w ts = some r) : zs_S l b L xs m i ls st h r := by
  have hp : zm_pc m i = some bp := zm_pc_at hc
  obtain ⟨ps, hz⟩ := zc_at hall hc
  unfold zc_in at hz
  rw [Bool.and_eq_true, decide_eq_true_eq] at hz
  obtain ⟨hd, hz⟩ := hz
  unfold zm_G at hr
  dsimp only at hz hr
  simp only [Bool.and_eq_true] at hz
  have hd := zc_dec hd hz.1.1
  have hn := zc_next hz.2
  obtain ⟨pc, h1, h2⟩ := zc_tgt hz.1.2
  split at hr
  · split at hr
    · exact zs_pure hp h1 rfl (zt_if_eq_t h2 ‹_› hd) (ih _ _ _ _ _ _ hr)
    · exact zs_pure hp hn rfl (zt_if_eq_f h2 ‹_› hd) (ih _ _ _ _ _ _ hr)
  · cases hr
theorem zg_icmp_ne (hall : zc_All) {e : zm_K} (ih : zs_IH l b L xs e) {m i bp len a b0 c : Nat} {v : Int32} {w : Int64} {ts : List Nat} {ls : zm_L} {st : List Value} {h : zm_H} {r : zm_R} {n : Int} (hc : (zm_cd m)[i]? = some (bp, .if_icmp .ne n, len, a, b0, c, v, w, ts)) (hr : zm_G (L, xs) e m i ls st h (.if_icmp .ne n) a b0 c v w ts = some r) : zs_S l b L xs m i ls st h r := by
  have hp : zm_pc m i = some bp := zm_pc_at hc
  obtain ⟨ps, hz⟩ := zc_at hall hc
  unfold zc_in at hz
  rw [Bool.and_eq_true, decide_eq_true_eq] at hz
  obtain ⟨hd, hz⟩ := hz
  unfold zm_G at hr
  dsimp only at hz hr
  simp only [Bool.and_eq_true] at hz
  have hd := zc_dec hd hz.1.1
  have hn := zc_next hz.2
  obtain ⟨pc, h1, h2⟩ := zc_tgt hz.1.2
  split at hr
  · split at hr
    · exact zs_pure hp hn rfl (zt_icmp_ne_f h2 ‹_› hd) (ih _ _ _ _ _ _ hr)
    · exact zs_pure hp h1 rfl (zt_icmp_ne_t h2 ‹_› hd) (ih _ _ _ _ _ _ hr)
  · cases hr
theorem zg_if_ne (hall : zc_All) {e : zm_K} (ih : zs_IH l b L xs e) {m i bp len a b0 c : Nat} {v : Int32} {w : Int64} {ts : List Nat} {ls : zm_L} {st : List Value} {h : zm_H} {r : zm_R} {n : Int} (hc : (zm_cd m)[i]? = some (bp, .ifCond .ne n, len, a, b0, c, v, w, ts)) (hr : zm_G (L, xs) e m i ls st h (.ifCond .ne n) a b0 c v w ts = some r) : zs_S l b L xs m i ls st h r := by
  have hp : zm_pc m i = some bp := zm_pc_at hc
  obtain ⟨ps, hz⟩ := zc_at hall hc
  unfold zc_in at hz
  rw [Bool.and_eq_true, decide_eq_true_eq] at hz
  obtain ⟨hd, hz⟩ := hz
  unfold zm_G at hr
  dsimp only at hz hr
  simp only [Bool.and_eq_true] at hz
  have hd := zc_dec hd hz.1.1
  have hn := zc_next hz.2
  obtain ⟨pc, h1, h2⟩ := zc_tgt hz.1.2
  split at hr
  · split at hr
    · exact zs_pure hp hn rfl (zt_if_ne_f h2 ‹_› hd) (ih _ _ _ _ _ _ hr)
    · exact zs_pure hp h1 rfl (zt_if_ne_t h2 ‹_› hd) (ih _ _ _ _ _ _ hr)
  · cases hr
theorem zg_icmp_lt (hall : zc_All) {e : zm_K} (ih : zs_IH l b L xs e) {m i bp len a b0 c : Nat} {v : Int32} {w : Int64} {ts : List Nat} {ls : zm_L} {st : List Value} {h : zm_H} {r : zm_R} {n : Int} (hc : (zm_cd m)[i]? = some (bp, .if_icmp .lt n, len, a, b0, c, v, w, ts)) (hr : zm_G (L, xs) e m i ls st h (.if_icmp .lt n) a b0 c v w ts = some r) : zs_S l b L xs m i ls st h r := by
  have hp : zm_pc m i = some bp := zm_pc_at hc
  obtain ⟨ps, hz⟩ := zc_at hall hc
  unfold zc_in at hz
  rw [Bool.and_eq_true, decide_eq_true_eq] at hz
  obtain ⟨hd, hz⟩ := hz
  unfold zm_G at hr
  dsimp only at hz hr
  simp only [Bool.and_eq_true] at hz
  have hd := zc_dec hd hz.1.1
  have hn := zc_next hz.2
  obtain ⟨pc, h1, h2⟩ := zc_tgt hz.1.2
  split at hr
  · split at hr
    · exact zs_pure hp h1 rfl (zt_icmp_lt_t h2 ‹_› hd) (ih _ _ _ _ _ _ hr)
    · exact zs_pure hp hn rfl (zt_icmp_lt_f h2 ‹_› hd) (ih _ _ _ _ _ _ hr)
  · cases hr
theorem zg_if_lt (hall : zc_All) {e : zm_K} (ih : zs_IH l b L xs e) {m i bp len a b0 c : Nat} {v : Int32} {w : Int64} {ts : List Nat} {ls : zm_L} {st : List Value} {h : zm_H} {r : zm_R} {n : Int} (hc : (zm_cd m)[i]? = some (bp, .ifCond .lt n, len, a, b0, c, v, w, ts)) (hr : zm_G (L, xs) e m i ls st h (.ifCond .lt n) a b0 c v w ts = some r) : zs_S l b L xs m i ls st h r := by
  have hp : zm_pc m i = some bp := zm_pc_at hc
  obtain ⟨ps, hz⟩ := zc_at hall hc
  unfold zc_in at hz
  rw [Bool.and_eq_true, decide_eq_true_eq] at hz
  obtain ⟨hd, hz⟩ := hz
  unfold zm_G at hr
  dsimp only at hz hr
  simp only [Bool.and_eq_true] at hz
  have hd := zc_dec hd hz.1.1
  have hn := zc_next hz.2
  obtain ⟨pc, h1, h2⟩ := zc_tgt hz.1.2
  split at hr
  · split at hr
    · exact zs_pure hp h1 rfl (zt_if_lt_t h2 ‹_› hd) (ih _ _ _ _ _ _ hr)
    · exact zs_pure hp hn rfl (zt_if_lt_f h2 ‹_› hd) (ih _ _ _ _ _ _ hr)
  · cases hr
theorem zg_icmp_ge (hall : zc_All) {e : zm_K} (ih : zs_IH l b L xs e) {m i bp len a b0 c : Nat} {v : Int32} {w : Int64} {ts : List Nat} {ls : zm_L} {st : List Value} {h : zm_H} {r : zm_R} {n : Int} (hc : (zm_cd m)[i]? = some (bp, .if_icmp .ge n, len, a, b0, c, v, w, ts)) (hr : zm_G (L, xs) e m i ls st h (.if_icmp .ge n) a b0 c v w ts = some r) : zs_S l b L xs m i ls st h r := by
  have hp : zm_pc m i = some bp := zm_pc_at hc
  obtain ⟨ps, hz⟩ := zc_at hall hc
  unfold zc_in at hz
  rw [Bool.and_eq_true, decide_eq_true_eq] at hz
  obtain ⟨hd, hz⟩ := hz
  unfold zm_G at hr
  dsimp only at hz hr
  simp only [Bool.and_eq_true] at hz
  have hd := zc_dec hd hz.1.1
  have hn := zc_next hz.2
  obtain ⟨pc, h1, h2⟩ := zc_tgt hz.1.2
  split at hr
  · split at hr
    · exact zs_pure hp h1 rfl (zt_icmp_ge_t h2 ‹_› hd) (ih _ _ _ _ _ _ hr)
    · exact zs_pure hp hn rfl (zt_icmp_ge_f h2 ‹_› hd) (ih _ _ _ _ _ _ hr)
  · cases hr
theorem zg_if_ge (hall : zc_All) {e : zm_K} (ih : zs_IH l b L xs e) {m i bp len a b0 c : Nat} {v : Int32} {w : Int64} {ts : List Nat} {ls : zm_L} {st : List Value} {h : zm_H} {r : zm_R} {n : Int} (hc : (zm_cd m)[i]? = some (bp, .ifCond .ge n, len, a, b0, c, v, w, ts)) (hr : zm_G (L, xs) e m i ls st h (.ifCond .ge n) a b0 c v w ts = some r) : zs_S l b L xs m i ls st h r := by
  have hp : zm_pc m i = some bp := zm_pc_at hc
  obtain ⟨ps, hz⟩ := zc_at hall hc
  unfold zc_in at hz
  rw [Bool.and_eq_true, decide_eq_true_eq] at hz
  obtain ⟨hd, hz⟩ := hz
  unfold zm_G at hr
  dsimp only at hz hr
  simp only [Bool.and_eq_true] at hz
  have hd := zc_dec hd hz.1.1
  have hn := zc_next hz.2
  obtain ⟨pc, h1, h2⟩ := zc_tgt hz.1.2
  split at hr
  · split at hr
    · exact zs_pure hp h1 rfl (zt_if_ge_t h2 ‹_› hd) (ih _ _ _ _ _ _ hr)
    · exact zs_pure hp hn rfl (zt_if_ge_f h2 ‹_› hd) (ih _ _ _ _ _ _ hr)
  · cases hr
theorem zg_icmp_gt (hall : zc_All) {e : zm_K} (ih : zs_IH l b L xs e) {m i bp len a b0 c : Nat} {v : Int32} {w : Int64} {ts : List Nat} {ls : zm_L} {st : List Value} {h : zm_H} {r : zm_R} {n : Int} (hc : (zm_cd m)[i]? = some (bp, .if_icmp .gt n, len, a, b0, c, v, w, ts)) (hr : zm_G (L, xs) e m i ls st h (.if_icmp .gt n) a b0 c v w ts = some r) : zs_S l b L xs m i ls st h r := by
  have hp : zm_pc m i = some bp := zm_pc_at hc
  obtain ⟨ps, hz⟩ := zc_at hall hc
  unfold zc_in at hz
  rw [Bool.and_eq_true, decide_eq_true_eq] at hz
  obtain ⟨hd, hz⟩ := hz
  unfold zm_G at hr
  dsimp only at hz hr
  simp only [Bool.and_eq_true] at hz
  have hd := zc_dec hd hz.1.1
  have hn := zc_next hz.2
  obtain ⟨pc, h1, h2⟩ := zc_tgt hz.1.2
  split at hr
  · split at hr
    · exact zs_pure hp h1 rfl (zt_icmp_gt_t h2 ‹_› hd) (ih _ _ _ _ _ _ hr)
    · exact zs_pure hp hn rfl (zt_icmp_gt_f h2 ‹_› hd) (ih _ _ _ _ _ _ hr)
  · cases hr
theorem zg_if_gt (hall : zc_All) {e : zm_K} (ih : zs_IH l b L xs e) {m i bp len a b0 c : Nat} {v : Int32} {w : Int64} {ts : List Nat} {ls : zm_L} {st : List Value} {h : zm_H} {r : zm_R} {n : Int} (hc : (zm_cd m)[i]? = some (bp, .ifCond .gt n, len, a, b0, c, v, w, ts)) (hr : zm_G (L, xs) e m i ls st h (.ifCond .gt n) a b0 c v w ts = some r) : zs_S l b L xs m i ls st h r := by
  have hp : zm_pc m i = some bp := zm_pc_at hc
  obtain ⟨ps, hz⟩ := zc_at hall hc
  unfold zc_in at hz
  rw [Bool.and_eq_true, decide_eq_true_eq] at hz
  obtain ⟨hd, hz⟩ := hz
  unfold zm_G at hr
  dsimp only at hz hr
  simp only [Bool.and_eq_true] at hz
  have hd := zc_dec hd hz.1.1
  have hn := zc_next hz.2
  obtain ⟨pc, h1, h2⟩ := zc_tgt hz.1.2
  split at hr
  · split at hr
    · exact zs_pure hp h1 rfl (zt_if_gt_t h2 ‹_› hd) (ih _ _ _ _ _ _ hr)
    · exact zs_pure hp hn rfl (zt_if_gt_f h2 ‹_› hd) (ih _ _ _ _ _ _ hr)
  · cases hr
theorem zg_icmp_le (hall : zc_All) {e : zm_K} (ih : zs_IH l b L xs e) {m i bp len a b0 c : Nat} {v : Int32} {w : Int64} {ts : List Nat} {ls : zm_L} {st : List Value} {h : zm_H} {r : zm_R} {n : Int} (hc : (zm_cd m)[i]? = some (bp, .if_icmp .le n, len, a, b0, c, v, w, ts)) (hr : zm_G (L, xs) e m i ls st h (.if_icmp .le n) a b0 c v w ts = some r) : zs_S l b L xs m i ls st h r := by
  have hp : zm_pc m i = some bp := zm_pc_at hc
  obtain ⟨ps, hz⟩ := zc_at hall hc
  unfold zc_in at hz
  rw [Bool.and_eq_true, decide_eq_true_eq] at hz
  obtain ⟨hd, hz⟩ := hz
  unfold zm_G at hr
  dsimp only at hz hr
  simp only [Bool.and_eq_true] at hz
  have hd := zc_dec hd hz.1.1
  have hn := zc_next hz.2
  obtain ⟨pc, h1, h2⟩ := zc_tgt hz.1.2
  split at hr
  · split at hr
    · exact zs_pure hp h1 rfl (zt_icmp_le_t h2 ‹_› hd) (ih _ _ _ _ _ _ hr)
    · exact zs_pure hp hn rfl (zt_icmp_le_f h2 ‹_› hd) (ih _ _ _ _ _ _ hr)
  · cases hr
theorem zg_if_le (hall : zc_All) {e : zm_K} (ih : zs_IH l b L xs e) {m i bp len a b0 c : Nat} {v : Int32} {w : Int64} {ts : List Nat} {ls : zm_L} {st : List Value} {h : zm_H} {r : zm_R} {n : Int} (hc : (zm_cd m)[i]? = some (bp, .ifCond .le n, len, a, b0, c, v, w, ts)) (hr : zm_G (L, xs) e m i ls st h (.ifCond .le n) a b0 c v w ts = some r) : zs_S l b L xs m i ls st h r := by
  have hp : zm_pc m i = some bp := zm_pc_at hc
  obtain ⟨ps, hz⟩ := zc_at hall hc
  unfold zc_in at hz
  rw [Bool.and_eq_true, decide_eq_true_eq] at hz
  obtain ⟨hd, hz⟩ := hz
  unfold zm_G at hr
  dsimp only at hz hr
  simp only [Bool.and_eq_true] at hz
  have hd := zc_dec hd hz.1.1
  have hn := zc_next hz.2
  obtain ⟨pc, h1, h2⟩ := zc_tgt hz.1.2
  split at hr
  · split at hr
    · exact zs_pure hp h1 rfl (zt_if_le_t h2 ‹_› hd) (ih _ _ _ _ _ _ hr)
    · exact zs_pure hp hn rfl (zt_if_le_f h2 ‹_› hd) (ih _ _ _ _ _ _ hr)
  · cases hr
theorem zg_tableswitch (hall : zc_All) {e : zm_K} (ih : zs_IH l b L xs e) {m i bp len a b0 c : Nat} {v : Int32} {w : Int64} {ts : List Nat} {ls : zm_L} {st : List Value} {h : zm_H} {r : zm_R} {d lo hi : Int} {os : Array Int} (hc : (zm_cd m)[i]? = some (bp, .tableswitch d lo hi os, len, a, b0, c, v, w, ts)) (hr : zm_G (L, xs) e m i ls st h (.tableswitch d lo hi os) a b0 c v w ts = some r) : zs_S l b L xs m i ls st h r := by
  have hp : zm_pc m i = some bp := zm_pc_at hc
  obtain ⟨ps, hz⟩ := zc_at hall hc
  unfold zc_in at hz
  rw [Bool.and_eq_true, decide_eq_true_eq] at hz
  obtain ⟨hd, hz⟩ := hz
  unfold zm_G at hr
  dsimp only at hz hr
  simp only [Bool.and_eq_true, decide_eq_true_eq] at hz
  split at hr
  · rename_i x rr
    obtain ⟨pc, h1, h2⟩ := zt_sw (l := l) (b := b) (L := L) (xs := xs) (ls := ls) (r := rr) (x := x) hz.1.1.1.1 hz.1.1.1.2 hz.1.1.2 hz.1.2 hd
    exact zs_pure hp h1 rfl h2 (ih _ _ _ _ _ _ hr)
  · cases hr
theorem zg_dup (hall : zc_All) {e : zm_K} (ih : zs_IH l b L xs e) {m i bp len a b0 c : Nat} {v : Int32} {w : Int64} {ts : List Nat} {ls : zm_L} {st : List Value} {h : zm_H} {r : zm_R} (hc : (zm_cd m)[i]? = some (bp, .dup, len, a, b0, c, v, w, ts)) (hr : zm_G (L, xs) e m i ls st h (.dup) a b0 c v w ts = some r) : zs_S l b L xs m i ls st h r := by
  have hp : zm_pc m i = some bp := zm_pc_at hc
  obtain ⟨ps, hz⟩ := zc_at hall hc
  unfold zc_in at hz
  rw [Bool.and_eq_true, decide_eq_true_eq] at hz
  obtain ⟨hd, hz⟩ := hz
  unfold zm_G at hr
  dsimp only at hz hr
  rw [Bool.and_eq_true] at hz
  have hd := zc_dec hd hz.1
  have hn := zc_next hz.2
  split at hr
  · exact zs_pure hp hn rfl (zt_dup rfl hd) (ih _ _ _ _ _ _ hr)
  · exact zs_pure hp hn rfl (zt_dup rfl hd) (ih _ _ _ _ _ _ hr)
  · cases hr
theorem zg_dup2 (hall : zc_All) {e : zm_K} (ih : zs_IH l b L xs e) {m i bp len a b0 c : Nat} {v : Int32} {w : Int64} {ts : List Nat} {ls : zm_L} {st : List Value} {h : zm_H} {r : zm_R} (hc : (zm_cd m)[i]? = some (bp, .dup2, len, a, b0, c, v, w, ts)) (hr : zm_G (L, xs) e m i ls st h (.dup2) a b0 c v w ts = some r) : zs_S l b L xs m i ls st h r := by
  have hp : zm_pc m i = some bp := zm_pc_at hc
  obtain ⟨ps, hz⟩ := zc_at hall hc
  unfold zc_in at hz
  rw [Bool.and_eq_true, decide_eq_true_eq] at hz
  obtain ⟨hd, hz⟩ := hz
  unfold zm_G at hr
  dsimp only at hz hr
  rw [Bool.and_eq_true] at hz
  have hd := zc_dec hd hz.1
  have hn := zc_next hz.2
  split at hr
  · exact zs_pure hp hn rfl (zt_dup2 rfl rfl hd) (ih _ _ _ _ _ _ hr)
  · cases hr
theorem zg_pop (hall : zc_All) {e : zm_K} (ih : zs_IH l b L xs e) {m i bp len a b0 c : Nat} {v : Int32} {w : Int64} {ts : List Nat} {ls : zm_L} {st : List Value} {h : zm_H} {r : zm_R} (hc : (zm_cd m)[i]? = some (bp, .pop, len, a, b0, c, v, w, ts)) (hr : zm_G (L, xs) e m i ls st h (.pop) a b0 c v w ts = some r) : zs_S l b L xs m i ls st h r := by
  have hp : zm_pc m i = some bp := zm_pc_at hc
  obtain ⟨ps, hz⟩ := zc_at hall hc
  unfold zc_in at hz
  rw [Bool.and_eq_true, decide_eq_true_eq] at hz
  obtain ⟨hd, hz⟩ := hz
  unfold zm_G at hr
  dsimp only at hz hr
  rw [Bool.and_eq_true] at hz
  have hd := zc_dec hd hz.1
  have hn := zc_next hz.2
  split at hr
  · exact zs_pure hp hn rfl (zt_pop rfl hd) (ih _ _ _ _ _ _ hr)
  · exact zs_pure hp hn rfl (zt_pop rfl hd) (ih _ _ _ _ _ _ hr)
  · cases hr
theorem zg_getfield (hall : zc_All) {e : zm_K} (ih : zs_IH l b L xs e) {m i bp len a b0 c : Nat} {v : Int32} {w : Int64} {ts : List Nat} {ls : zm_L} {st : List Value} {h : zm_H} {r : zm_R} {k : Nat} (hc : (zm_cd m)[i]? = some (bp, .getfield k, len, a, b0, c, v, w, ts)) (hr : zm_G (L, xs) e m i ls st h (.getfield k) a b0 c v w ts = some r) : zs_S l b L xs m i ls st h r := by
  have hp : zm_pc m i = some bp := zm_pc_at hc
  obtain ⟨ps, hz⟩ := zc_at hall hc
  unfold zc_in at hz
  rw [Bool.and_eq_true, decide_eq_true_eq] at hz
  obtain ⟨hd, hz⟩ := hz
  unfold zm_G at hr
  dsimp only at hz hr
  split at hz
  · rename_i pp
    simp only [Bool.and_eq_true] at hz
    obtain ⟨⟨hf, hlen⟩, hnx⟩ := hz
    have hd := zc_dec hd hlen
    have hn := zc_next hnx
    unfold zc_fd at hf
    split at hf
    · rename_i q hq
      have hcl : zm_cl a = q := by unfold zm_cl; rw [hq]
      simp only [Bool.and_eq_true] at hf
      have hb : b0 < q.2.2 := Nat.le_of_ble_eq_true hf.1.1
      have hw := zc_okw hf.1.2
      split at hr
      · split at hr
        · obtain ⟨x, hx, hr⟩ := Option.bind_eq_some_iff.mp hr
          exact zs_heap hp hn (zh_gI hq hb hw hx hd) (ih _ _ _ _ _ _ hr)
        · obtain ⟨x, hx, hr⟩ := Option.bind_eq_some_iff.mp hr
          exact zs_heap hp hn (zh_gR hq hb hw hx hd) (ih _ _ _ _ _ _ hr)
      · cases hr
    · cases hf
  · cases hz
theorem zg_putfield (hall : zc_All) {e : zm_K} (ih : zs_IH l b L xs e) {m i bp len a b0 c : Nat} {v : Int32} {w : Int64} {ts : List Nat} {ls : zm_L} {st : List Value} {h : zm_H} {r : zm_R} {k : Nat} (hc : (zm_cd m)[i]? = some (bp, .putfield k, len, a, b0, c, v, w, ts)) (hr : zm_G (L, xs) e m i ls st h (.putfield k) a b0 c v w ts = some r) : zs_S l b L xs m i ls st h r := by
  have hp : zm_pc m i = some bp := zm_pc_at hc
  obtain ⟨ps, hz⟩ := zc_at hall hc
  unfold zc_in at hz
  rw [Bool.and_eq_true, decide_eq_true_eq] at hz
  obtain ⟨hd, hz⟩ := hz
  unfold zm_G at hr
  dsimp only at hz hr
  split at hz
  · rename_i pp
    rw [Bool.and_eq_true, Bool.and_eq_true, Bool.and_eq_true] at hz
    obtain ⟨⟨⟨hf, hlen⟩, hnx⟩, hfin⟩ := hz
    have hd := zc_dec hd hlen
    have hn := zc_next hnx
    unfold zc_fd at hf
    split at hf
    · rename_i q hq
      have hcl : zm_cl a = q := by unfold zm_cl; rw [hq]
      rw [hcl] at hfin
      rw [Bool.and_eq_true, Bool.and_eq_true] at hf
      have hb : b0 < q.2.2 := Nat.le_of_ble_eq_true hf.1.1
      have hw := zc_okw hf.1.2
      have hfi : (q.2.1 b0).2.2.2 = false ∨ ((zm_nm m).name = "<init>" ∧ (q.2.1 b0).1 = zm_ow m) := by
        rw [Bool.or_eq_true] at hfin
        rcases hfin with h9 | h9
        · exact Or.inl (eq_of_beq h9)
        · rw [Bool.and_eq_true, decide_eq_true_eq, decide_eq_true_eq] at h9
          exact Or.inr h9
      split at hr
      · split at hr
        · obtain ⟨h', hx, hr⟩ := Option.bind_eq_some_iff.mp hr
          have hty := of_decide_eq_true hf.2
          refine zs_heap hp hn (zh_put hq hb hw hfi ?_ hx hd) (ih _ _ _ _ _ _ hr)
          intro as w0 hv0
          rw [show w0 = .int _ from hv0, hty]
          exact ⟨rfl, rfl⟩
        · cases hr
      · split at hr
        · obtain ⟨h', hx, hr⟩ := Option.bind_eq_some_iff.mp hr
          refine zs_heap hp hn (zh_put hq hb hw hfi ?_ hx hd) (ih _ _ _ _ _ _ hr)
          intro as w0 hv0
          obtain ⟨ad, -, e1⟩ := hv0
          subst e1
          have h9 := hf.2
          split at h9
          · exact absurd rfl ‹_›
          · unfold zc_rf at h9
            split at h9
            · rename_i e9
              rw [e9]
              exact ⟨rfl, rfl⟩
            · rename_i e9
              rw [e9]
              exact ⟨rfl, rfl⟩
            · cases h9
        · cases hr
    · cases hf
  · cases hz
theorem zg_laload (hall : zc_All) {e : zm_K} (ih : zs_IH l b L xs e) {m i bp len a b0 c : Nat} {v : Int32} {w : Int64} {ts : List Nat} {ls : zm_L} {st : List Value} {h : zm_H} {r : zm_R} (hc : (zm_cd m)[i]? = some (bp, .laload, len, a, b0, c, v, w, ts)) (hr : zm_G (L, xs) e m i ls st h (.laload) a b0 c v w ts = some r) : zs_S l b L xs m i ls st h r := by
  have hp : zm_pc m i = some bp := zm_pc_at hc
  obtain ⟨ps, hz⟩ := zc_at hall hc
  unfold zc_in at hz
  rw [Bool.and_eq_true, decide_eq_true_eq] at hz
  obtain ⟨hd, hz⟩ := hz
  unfold zm_G at hr
  dsimp only at hz hr
  rw [Bool.and_eq_true] at hz
  have hd := zc_dec hd hz.1
  have hn := zc_next hz.2
  split at hr
  · obtain ⟨y, hx, hr⟩ := Option.bind_eq_some_iff.mp hr
    exact zs_heap hp hn (zh_lald hx hd) (ih _ _ _ _ _ _ hr)
  · cases hr
theorem zg_baload (hall : zc_All) {e : zm_K} (ih : zs_IH l b L xs e) {m i bp len a b0 c : Nat} {v : Int32} {w : Int64} {ts : List Nat} {ls : zm_L} {st : List Value} {h : zm_H} {r : zm_R} (hc : (zm_cd m)[i]? = some (bp, .baload, len, a, b0, c, v, w, ts)) (hr : zm_G (L, xs) e m i ls st h (.baload) a b0 c v w ts = some r) : zs_S l b L xs m i ls st h r := by
  have hp : zm_pc m i = some bp := zm_pc_at hc
  obtain ⟨ps, hz⟩ := zc_at hall hc
  unfold zc_in at hz
  rw [Bool.and_eq_true, decide_eq_true_eq] at hz
  obtain ⟨hd, hz⟩ := hz
  unfold zm_G at hr
  dsimp only at hz hr
  rw [Bool.and_eq_true] at hz
  have hd := zc_dec hd hz.1
  have hn := zc_next hz.2
  split at hr
  · obtain ⟨y, hx, hr⟩ := Option.bind_eq_some_iff.mp hr
    exact zs_heap hp hn (zh_zald hx hd) (ih _ _ _ _ _ _ hr)
  · cases hr
theorem zg_aaload (hall : zc_All) {e : zm_K} (ih : zs_IH l b L xs e) {m i bp len a b0 c : Nat} {v : Int32} {w : Int64} {ts : List Nat} {ls : zm_L} {st : List Value} {h : zm_H} {r : zm_R} (hc : (zm_cd m)[i]? = some (bp, .aaload, len, a, b0, c, v, w, ts)) (hr : zm_G (L, xs) e m i ls st h (.aaload) a b0 c v w ts = some r) : zs_S l b L xs m i ls st h r := by
  have hp : zm_pc m i = some bp := zm_pc_at hc
  obtain ⟨ps, hz⟩ := zc_at hall hc
  unfold zc_in at hz
  rw [Bool.and_eq_true, decide_eq_true_eq] at hz
  obtain ⟨hd, hz⟩ := hz
  unfold zm_G at hr
  dsimp only at hz hr
  rw [Bool.and_eq_true] at hz
  have hd := zc_dec hd hz.1
  have hn := zc_next hz.2
  split at hr
  · obtain ⟨y, hx, hr⟩ := Option.bind_eq_some_iff.mp hr
    exact zs_heap hp hn (zh_aald hx hd) (ih _ _ _ _ _ _ hr)
  · cases hr
theorem zg_iastore (hall : zc_All) {e : zm_K} (ih : zs_IH l b L xs e) {m i bp len a b0 c : Nat} {v : Int32} {w : Int64} {ts : List Nat} {ls : zm_L} {st : List Value} {h : zm_H} {r : zm_R} (hc : (zm_cd m)[i]? = some (bp, .iastore, len, a, b0, c, v, w, ts)) (hr : zm_G (L, xs) e m i ls st h (.iastore) a b0 c v w ts = some r) : zs_S l b L xs m i ls st h r := by
  have hp : zm_pc m i = some bp := zm_pc_at hc
  obtain ⟨ps, hz⟩ := zc_at hall hc
  unfold zc_in at hz
  rw [Bool.and_eq_true, decide_eq_true_eq] at hz
  obtain ⟨hd, hz⟩ := hz
  unfold zm_G at hr
  dsimp only at hz hr
  rw [Bool.and_eq_true] at hz
  have hd := zc_dec hd hz.1
  have hn := zc_next hz.2
  split at hr
  · obtain ⟨y, hx, hr⟩ := Option.bind_eq_some_iff.mp hr
    exact zs_heap hp hn (zh_iast hx hd) (ih _ _ _ _ _ _ hr)
  · cases hr
theorem zg_lastore (hall : zc_All) {e : zm_K} (ih : zs_IH l b L xs e) {m i bp len a b0 c : Nat} {v : Int32} {w : Int64} {ts : List Nat} {ls : zm_L} {st : List Value} {h : zm_H} {r : zm_R} (hc : (zm_cd m)[i]? = some (bp, .lastore, len, a, b0, c, v, w, ts)) (hr : zm_G (L, xs) e m i ls st h (.lastore) a b0 c v w ts = some r) : zs_S l b L xs m i ls st h r := by
  have hp : zm_pc m i = some bp := zm_pc_at hc
  obtain ⟨ps, hz⟩ := zc_at hall hc
  unfold zc_in at hz
  rw [Bool.and_eq_true, decide_eq_true_eq] at hz
  obtain ⟨hd, hz⟩ := hz
  unfold zm_G at hr
  dsimp only at hz hr
  rw [Bool.and_eq_true] at hz
  have hd := zc_dec hd hz.1
  have hn := zc_next hz.2
  split at hr
  · obtain ⟨y, hx, hr⟩ := Option.bind_eq_some_iff.mp hr
    exact zs_heap hp hn (zh_last hx hd) (ih _ _ _ _ _ _ hr)
  · cases hr
theorem zg_bastore (hall : zc_All) {e : zm_K} (ih : zs_IH l b L xs e) {m i bp len a b0 c : Nat} {v : Int32} {w : Int64} {ts : List Nat} {ls : zm_L} {st : List Value} {h : zm_H} {r : zm_R} (hc : (zm_cd m)[i]? = some (bp, .bastore, len, a, b0, c, v, w, ts)) (hr : zm_G (L, xs) e m i ls st h (.bastore) a b0 c v w ts = some r) : zs_S l b L xs m i ls st h r := by
  have hp : zm_pc m i = some bp := zm_pc_at hc
  obtain ⟨ps, hz⟩ := zc_at hall hc
  unfold zc_in at hz
  rw [Bool.and_eq_true, decide_eq_true_eq] at hz
  obtain ⟨hd, hz⟩ := hz
  unfold zm_G at hr
  dsimp only at hz hr
  rw [Bool.and_eq_true] at hz
  have hd := zc_dec hd hz.1
  have hn := zc_next hz.2
  split at hr
  · obtain ⟨y, hx, hr⟩ := Option.bind_eq_some_iff.mp hr
    exact zs_heap hp hn (zh_zast hx hd) (ih _ _ _ _ _ _ hr)
  · cases hr
theorem zg_aastore (hall : zc_All) {e : zm_K} (ih : zs_IH l b L xs e) {m i bp len a b0 c : Nat} {v : Int32} {w : Int64} {ts : List Nat} {ls : zm_L} {st : List Value} {h : zm_H} {r : zm_R} (hc : (zm_cd m)[i]? = some (bp, .aastore, len, a, b0, c, v, w, ts)) (hr : zm_G (L, xs) e m i ls st h (.aastore) a b0 c v w ts = some r) : zs_S l b L xs m i ls st h r := by
  have hp : zm_pc m i = some bp := zm_pc_at hc
  obtain ⟨ps, hz⟩ := zc_at hall hc
  unfold zc_in at hz
  rw [Bool.and_eq_true, decide_eq_true_eq] at hz
  obtain ⟨hd, hz⟩ := hz
  unfold zm_G at hr
  dsimp only at hz hr
  rw [Bool.and_eq_true] at hz
  have hd := zc_dec hd hz.1
  have hn := zc_next hz.2
  split at hr
  · obtain ⟨y, hx, hr⟩ := Option.bind_eq_some_iff.mp hr
    exact zs_heap hp hn (zh_aast hx hd) (ih _ _ _ _ _ _ hr)
  · cases hr
theorem zg_iaload (hall : zc_All) {e : zm_K} (ih : zs_IH l b L xs e) {m i bp len a b0 c : Nat} {v : Int32} {w : Int64} {ts : List Nat} {ls : zm_L} {st : List Value} {h : zm_H} {r : zm_R} (hc : (zm_cd m)[i]? = some (bp, .iaload, len, a, b0, c, v, w, ts)) (hr : zm_G (L, xs) e m i ls st h (.iaload) a b0 c v w ts = some r) : zs_S l b L xs m i ls st h r := by
  have hp : zm_pc m i = some bp := zm_pc_at hc
  obtain ⟨ps, hz⟩ := zc_at hall hc
  unfold zc_in at hz
  rw [Bool.and_eq_true, decide_eq_true_eq] at hz
  obtain ⟨hd, hz⟩ := hz
  unfold zm_G at hr
  dsimp only at hz hr
  rw [Bool.and_eq_true] at hz
  have hd := zc_dec hd hz.1
  have hn := zc_next hz.2
  split at hr
  · obtain ⟨y, hx, hr⟩ := Option.bind_eq_some_iff.mp hr
    exact zs_heap hp hn (zh_iald hx hd) (ih _ _ _ _ _ _ hr)
  · obtain ⟨y, hx, hr⟩ := Option.bind_eq_some_iff.mp hr
    exact zs_heap hp hn (zh_sld hx hd) (ih _ _ _ _ _ _ hr)
  · cases hr
theorem zg_arraylength (hall : zc_All) {e : zm_K} (ih : zs_IH l b L xs e) {m i bp len a b0 c : Nat} {v : Int32} {w : Int64} {ts : List Nat} {ls : zm_L} {st : List Value} {h : zm_H} {r : zm_R} (hc : (zm_cd m)[i]? = some (bp, .arraylength, len, a, b0, c, v, w, ts)) (hr : zm_G (L, xs) e m i ls st h (.arraylength) a b0 c v w ts = some r) : zs_S l b L xs m i ls st h r := by
  have hp : zm_pc m i = some bp := zm_pc_at hc
  obtain ⟨ps, hz⟩ := zc_at hall hc
  unfold zc_in at hz
  rw [Bool.and_eq_true, decide_eq_true_eq] at hz
  obtain ⟨hd, hz⟩ := hz
  unfold zm_G at hr
  dsimp only at hz hr
  rw [Bool.and_eq_true] at hz
  have hd := zc_dec hd hz.1
  have hn := zc_next hz.2
  split at hr
  · obtain ⟨y, hx, hr⟩ := Option.bind_eq_some_iff.mp hr
    exact zs_heap hp hn (zh_alen hx hd) (ih _ _ _ _ _ _ hr)
  · exact zs_heap hp hn (zh_slen hd) (ih _ _ _ _ _ _ hr)
  · cases hr
theorem zg_new (hall : zc_All) {e : zm_K} (ih : zs_IH l b L xs e) {m i bp len a b0 c : Nat} {v : Int32} {w : Int64} {ts : List Nat} {ls : zm_L} {st : List Value} {h : zm_H} {r : zm_R} {k : Nat} (hc : (zm_cd m)[i]? = some (bp, .new k, len, a, b0, c, v, w, ts)) (hr : zm_G (L, xs) e m i ls st h (.new k) a b0 c v w ts = some r) : zs_S l b L xs m i ls st h r := by
  have hp : zm_pc m i = some bp := zm_pc_at hc
  obtain ⟨ps, hz⟩ := zc_at hall hc
  unfold zc_in at hz
  rw [Bool.and_eq_true, decide_eq_true_eq] at hz
  obtain ⟨hd, hz⟩ := hz
  unfold zm_G at hr
  dsimp only at hz hr
  split at hz
  · split at hr
    · split at hz
      · simp only [Bool.and_eq_true] at hz
        obtain ⟨⟨⟨⟨⟨h0, h1⟩, h2⟩, h3⟩, h4⟩, h5⟩ := hz
        have hd := zc_dec hd h4
        have hn := zc_next h5
        have ha : a < 9 := Nat.le_of_ble_eq_true h3
        have hci : vwCl[a]? = some (zm_cl a) := by
          unfold zm_cl
          have h9 : a < vwCl.length := by
            rw [show vwCl.length = 9 by decide +kernel]
            exact ha
          rw [List.getElem?_eq_getElem h9]
        exact zs_heap hp hn (zh_new ha hci (zc_okw h0) (zc_okw h1) (zc_okw h2) hd) (ih _ _ _ _ _ _ hr)
      · cases hz
    · exact absurd rfl ‹_›
  · rename_i hne
    split at hr
    · exact absurd rfl hne
    · split at hr
      · cases Option.some.inj hr
        simp only [Bool.and_eq_true] at hz
        have hd := zc_dec hd hz.2
        have hz := hz.1
        unfold zc_th at hz
        split at hz
        · rename_i is ic wd si p0 p1 p2
          rw [Bool.and_eq_true, Bool.and_eq_true] at hz
          obtain ⟨⟨hz, hrf⟩, hrl⟩ := hz
          rw [Bool.and_eq_true] at hz
          obtain ⟨hz, hdd⟩ := hz
          simp only [Bool.and_eq_true, decide_eq_true_eq] at hz
          obtain ⟨⟨⟨⟨⟨⟨⟨h0, h1⟩, h2⟩, how⟩, h3⟩, htx⟩, hhh⟩, hd3⟩ := hz
          refine zr_throw hp h3 how hhh htx (zc_okw h0) (zc_okw h1) (zc_okw h2) (Nat.le_of_ble_eq_true hrf) (Nat.le_of_ble_eq_true hrl) hd hd3 (wd := wd) ?_
          split at hdd
          · simp only [Bool.and_eq_true, decide_eq_true_eq] at hdd
            exact Or.inl ⟨hdd.1.1, hdd.1.2, hdd.2⟩
          · simp only [Bool.and_eq_true, decide_eq_true_eq] at hdd
            exact Or.inr ⟨hdd.1.1, hdd.1.2, hdd.2⟩
        · cases hz
      · cases hr
theorem zg_newarray (hall : zc_All) {e : zm_K} (ih : zs_IH l b L xs e) {m i bp len a b0 c : Nat} {v : Int32} {w : Int64} {ts : List Nat} {ls : zm_L} {st : List Value} {h : zm_H} {r : zm_R} {t : ArrayType} (hc : (zm_cd m)[i]? = some (bp, .newarray t, len, a, b0, c, v, w, ts)) (hr : zm_G (L, xs) e m i ls st h (.newarray t) a b0 c v w ts = some r) : zs_S l b L xs m i ls st h r := by
  have hp : zm_pc m i = some bp := zm_pc_at hc
  obtain ⟨ps, hz⟩ := zc_at hall hc
  unfold zc_in at hz
  rw [Bool.and_eq_true, decide_eq_true_eq] at hz
  obtain ⟨hd, hz⟩ := hz
  unfold zm_G at hr
  dsimp only at hz hr
  split at hz
  · simp only [Bool.and_eq_true] at hz
    obtain ⟨⟨⟨h0, h1⟩, h2⟩, h3⟩ := hz
    have hd := zc_dec hd h1
    have hn := zc_next h2
    split at hr
    · obtain ⟨y, hx, hr⟩ := Option.bind_eq_some_iff.mp hr
      split at hr
      · exact zs_heap hp hn (zh_newI (of_decide_eq_true h3) hx (zc_okw h0) hd) (ih _ _ _ _ _ _ hr)
      · exact zs_heap hp hn (zh_newL (of_decide_eq_true h3) hx (zc_okw h0) hd) (ih _ _ _ _ _ _ hr)
      · rename_i n0 n1
        refine zs_heap hp hn (zh_newZ ?_ hx (zc_okw h0) hd) (ih _ _ _ _ _ _ hr)
        split at h3
        · exact absurd rfl n0
        · exact absurd rfl n1
        · exact of_decide_eq_true h3
    · cases hr
  · cases hz
theorem zg_anewarray (hall : zc_All) {e : zm_K} (ih : zs_IH l b L xs e) {m i bp len a b0 c : Nat} {v : Int32} {w : Int64} {ts : List Nat} {ls : zm_L} {st : List Value} {h : zm_H} {r : zm_R} {k : Nat} (hc : (zm_cd m)[i]? = some (bp, .anewarray k, len, a, b0, c, v, w, ts)) (hr : zm_G (L, xs) e m i ls st h (.anewarray k) a b0 c v w ts = some r) : zs_S l b L xs m i ls st h r := by
  have hp : zm_pc m i = some bp := zm_pc_at hc
  obtain ⟨ps, hz⟩ := zc_at hall hc
  unfold zc_in at hz
  rw [Bool.and_eq_true, decide_eq_true_eq] at hz
  obtain ⟨hd, hz⟩ := hz
  unfold zm_G at hr
  dsimp only at hz hr
  split at hz
  · simp only [Bool.and_eq_true] at hz
    obtain ⟨⟨h0, h1⟩, h2⟩ := hz
    have hd := zc_dec hd h1
    have hn := zc_next h2
    split at hr
    · obtain ⟨y, hx, hr⟩ := Option.bind_eq_some_iff.mp hr
      exact zs_heap hp hn (zh_newq hx (zc_okw h0) hd) (ih _ _ _ _ _ _ hr)
    · cases hr
  · cases hz
theorem zg_invokevirtual (hall : zc_All) {e : zm_K} (ih : zs_IH l b L xs e) {m i bp len a b0 c : Nat} {v : Int32} {w : Int64} {ts : List Nat} {ls : zm_L} {st : List Value} {h : zm_H} {r : zm_R} {k : Nat} (hc : (zm_cd m)[i]? = some (bp, .invokevirtual k, len, a, b0, c, v, w, ts)) (hr : zm_G (L, xs) e m i ls st h (.invokevirtual k) a b0 c v w ts = some r) : zs_S l b L xs m i ls st h r := by
  have hp : zm_pc m i = some bp := zm_pc_at hc
  obtain ⟨ps, hz⟩ := zc_at hall hc
  unfold zc_in at hz
  rw [Bool.and_eq_true, decide_eq_true_eq] at hz
  obtain ⟨hd, hz⟩ := hz
  unfold zm_G at hr
  dsimp only at hz hr
  split at hz
  · rename_i ci p0 p1 p2 p3 p4
    simp only [Bool.and_eq_true, decide_eq_true_eq] at hz
    obtain ⟨⟨⟨⟨⟨⟨⟨⟨h0, h1⟩, h2⟩, h3⟩, h4⟩, h5⟩, h6⟩, h7⟩, h8⟩ := hz
    have hd := zc_dec hd h7
    have hn := zc_next h8
    have ha : ci < 9 := Nat.le_of_ble_eq_true h4
    have hci : vwCl[ci]? = some (zm_cl ci) := by
      unfold zm_cl
      have h9 : ci < vwCl.length := by
        rw [show vwCl.length = 9 by decide +kernel]
        exact ha
      rw [List.getElem?_eq_getElem h9]
    obtain ⟨q, hq, hr⟩ := Option.bind_eq_some_iff.mp hr
    try dsimp only at hr
    split at hr
    · rename_i o rest hq2
      split at hr
      · rename_i hoc
        rw [Bool.and_eq_true] at hoc
        refine zs_rt hall ih hp hn hr ?_
        intro r1 hS1 hin p e R s mid args below meth c' dC dI A H locs cells slots ws tys rls rst mc1 ms1 X hW hrl hv hm1 hm2 hf
        obtain ⟨pops, rr0, e1, e2, e3, e4⟩ := zs_pa b0 [] st [] rst q hq trivial hv
        rw [hq2] at e3
        obtain ⟨ad, rr, e5, e6, e7⟩ := zs_ref e3
        subst e5
        subst e1
        rw [List.append_nil] at e2
        exact ⟨rr, _, e7, zs_runV hall X hW hS1 hin h5 h0 (zc_okw h1) hci (zc_okw h2) (zc_okw h3) h6 hoc.1 e2 e4 e6 hrl (by rw [← e7.cat]; exact Nat.le_of_ble_eq_true hoc.2) hd hm1 hm2 hf⟩
      · cases hr
    · cases hr
  · cases hz
theorem zg_invokespecial (hall : zc_All) {e : zm_K} (ih : zs_IH l b L xs e) {m i bp len a b0 c : Nat} {v : Int32} {w : Int64} {ts : List Nat} {ls : zm_L} {st : List Value} {h : zm_H} {r : zm_R} {k : Nat} (hc : (zm_cd m)[i]? = some (bp, .invokespecial k, len, a, b0, c, v, w, ts)) (hr : zm_G (L, xs) e m i ls st h (.invokespecial k) a b0 c v w ts = some r) : zs_S l b L xs m i ls st h r := by
  have hp : zm_pc m i = some bp := zm_pc_at hc
  obtain ⟨ps, hz⟩ := zc_at hall hc
  unfold zc_in at hz
  rw [Bool.and_eq_true, decide_eq_true_eq] at hz
  obtain ⟨hd, hz⟩ := hz
  unfold zm_G at hr
  dsimp only at hz hr
  split at hr
  · split at hz
    · split at hz
      · simp only [Bool.and_eq_true] at hz
        obtain ⟨⟨⟨⟨⟨⟨h0, h1⟩, h2⟩, h3⟩, h4⟩, h5⟩, h6⟩ := hz
        have hd := zc_dec hd h3
        have hn := zc_next h4
        split at hr
        · split at hr
          · exact zs_pure hp hn rfl (zt_obj (Nat.le_of_ble_eq_true ‹_›) (zc_okw h0) (zc_okw h1) (zc_okw h2) (Nat.le_of_ble_eq_true h5) (Nat.le_of_ble_eq_true h6) hd) (ih _ _ _ _ _ _ hr)
          · cases hr
        · cases hr
      · cases hz
    · rename_i n9
      exfalso
      omega
    · rename_i n8 n9
      exact (n8 rfl).elim
  · cases hr
  · rename_i n1 n2
    split at hz
    · exact absurd rfl n1
    · exact absurd rfl n2
    · split at hz
      · rename_i p0 p1 p2 p3
        simp only [Bool.and_eq_true, decide_eq_true_eq] at hz
        obtain ⟨⟨⟨⟨⟨⟨⟨⟨h0, h1⟩, h2⟩, h3⟩, h4⟩, h5⟩, h6⟩, h7⟩, h8⟩ := hz
        have hd := zc_dec hd h7
        have hn := zc_next h8
        obtain ⟨q, hq, hr⟩ := Option.bind_eq_some_iff.mp hr
        try dsimp only at hr
        split at hr
        · rename_i o rest hq2
          split at hr
          · rename_i hoc
            refine zs_rt hall ih hp hn hr ?_
            intro r1 hS1 hin p e R s mid args below meth c' dC dI A H locs cells slots ws tys rls rst mc1 ms1 X hW hrl hv hm1 hm2 hf
            obtain ⟨pops, rr0, e1, e2, e3, e4⟩ := zs_pa b0 [] st [] rst q hq trivial hv
            rw [hq2] at e3
            obtain ⟨ad, rr, e5, e6, e7⟩ := zs_ref e3
            subst e5
            subst e1
            rw [List.append_nil] at e2
            exact ⟨rr, _, e7, zs_runI hall X hW hS1 hin h3 h0 (zc_okw h1) (zc_okw h2) h5 h4 h6 e2 e4 e6 hrl (by rw [← e7.cat]; exact Nat.le_of_ble_eq_true hoc) hd hm1 hm2 hf⟩
          · cases hr
        · cases hr
      · cases hz
theorem zg_invokestatic (hall : zc_All) {e : zm_K} (ih : zs_IH l b L xs e) {m i bp len a b0 c : Nat} {v : Int32} {w : Int64} {ts : List Nat} {ls : zm_L} {st : List Value} {h : zm_H} {r : zm_R} {k : Nat} (hc : (zm_cd m)[i]? = some (bp, .invokestatic k, len, a, b0, c, v, w, ts)) (hr : zm_G (L, xs) e m i ls st h (.invokestatic k) a b0 c v w ts = some r) : zs_S l b L xs m i ls st h r := by
  have hp : zm_pc m i = some bp := zm_pc_at hc
  obtain ⟨ps, hz⟩ := zc_at hall hc
  unfold zc_in at hz
  rw [Bool.and_eq_true, decide_eq_true_eq] at hz
  obtain ⟨hd, hz⟩ := hz
  unfold zm_G at hr
  dsimp only at hz hr
  split at hr
  · split at hz
    · split at hz
      · simp only [Bool.and_eq_true] at hz
        obtain ⟨⟨⟨⟨⟨⟨⟨h0, h1⟩, h2⟩, h3⟩, h4⟩, h5⟩, h6⟩, h7⟩ := hz
        have hd := zc_dec hd h4
        have hn := zc_next h5
        split at hr
        · split at hr
          · obtain ⟨h', hx, hr⟩ := Option.bind_eq_some_iff.mp hr
            exact zs_heap hp hn (zh_copy hx (Nat.le_of_ble_eq_true ‹_›) (zc_okw h0) (zc_okw h1) (zc_okw h2) (zc_okw h3) (Nat.le_of_ble_eq_true h6) (Nat.le_of_ble_eq_true h7) hd) (ih _ _ _ _ _ _ hr)
          · cases hr
        · cases hr
      · cases hz
    · rename_i n9
      exfalso
      omega
    · rename_i n8 n9
      exact (n8 rfl).elim
  · split at hz
    · rename_i n9
      exfalso
      omega
    · split at hz
      · simp only [Bool.and_eq_true] at hz
        obtain ⟨⟨⟨⟨⟨⟨⟨h0, h1⟩, h2⟩, h3⟩, h4⟩, h5⟩, h6⟩, h7⟩ := hz
        have hd := zc_dec hd h4
        have hn := zc_next h5
        split at hr
        · split at hr
          · exact zs_heap hp hn (zh_min (Nat.le_of_ble_eq_true ‹_›) (zc_okw h0) (zc_okw h1) (zc_okw h2) (zc_okw h3) (Nat.le_of_ble_eq_true h6) (Nat.le_of_ble_eq_true h7) hd) (ih _ _ _ _ _ _ hr)
          · cases hr
        · cases hr
      · cases hz
    · rename_i n8 n9
      exact (n9 rfl).elim
  · rename_i n1 n2
    split at hz
    · exact absurd rfl n1
    · exact absurd rfl n2
    · split at hz
      · rename_i p0 p1 p2 p3
        simp only [Bool.and_eq_true, Bool.or_eq_true, decide_eq_true_eq] at hz
        obtain ⟨⟨⟨⟨⟨⟨h0, h1⟩, h2⟩, h3⟩, h4⟩, h7⟩, h8⟩ := hz
        have hd := zc_dec hd h7
        have hn := zc_next h8
        obtain ⟨q, hq, hr⟩ := Option.bind_eq_some_iff.mp hr
        try dsimp only at hr
        split at hr
        · rename_i hoc
          refine zs_rt hall ih hp hn hr ?_
          intro r1 hS1 hin p e R s mid args below meth c' dC dI A H locs cells slots ws tys rls rst mc1 ms1 X hW hrl hv hm1 hm2 hf
          obtain ⟨pops, rr, e1, e2, e3, e4⟩ := zs_pa b0 [] st [] rst q hq trivial hv
          subst e1
          rw [List.append_nil] at e2
          exact ⟨rr, _, e3, zs_runS hall X hW hS1 hin h3 h0 (zc_okw h1) (zc_okw h2) h4 e2 e4 hrl (by rw [← e3.cat]; exact Nat.le_of_ble_eq_true hoc) hd hm1 hm2 hf⟩
        · cases hr
      · cases hz
theorem zg_ireturn (hall : zc_All) {e : zm_K} (ih : zs_IH l b L xs e) {m i bp len a b0 c : Nat} {v : Int32} {w : Int64} {ts : List Nat} {ls : zm_L} {st : List Value} {h : zm_H} {r : zm_R} (hc : (zm_cd m)[i]? = some (bp, .ireturn, len, a, b0, c, v, w, ts)) (hr : zm_G (L, xs) e m i ls st h (.ireturn) a b0 c v w ts = some r) : zs_S l b L xs m i ls st h r := by
  have hp : zm_pc m i = some bp := zm_pc_at hc
  obtain ⟨ps, hz⟩ := zc_at hall hc
  unfold zc_in at hz
  rw [Bool.and_eq_true, decide_eq_true_eq] at hz
  obtain ⟨hd, hz⟩ := hz
  unfold zm_G at hr
  dsimp only at hz hr
  rw [Bool.and_eq_true] at hz
  have hd := zc_dec hd hz.1
  split at hr
  · split at hr
    · cases Option.some.inj hr
      exact zr_i hp (of_decide_eq_true hz.2) rfl hd
    · rename_i n0
      have hre : zm_re m = some .boolean := by
        have h9 := hz.2
        split at h9
        · exact absurd rfl n0
        · exact of_decide_eq_true h9
      unfold zm_bo at hr
      split at hr
      · rename_i e0
        cases Option.some.inj hr
        subst e0
        exact zr_i hp hre rfl hd
      · split at hr
        · rename_i e0
          cases Option.some.inj hr
          subst e0
          exact zr_i hp hre rfl hd
        · cases hr
  · cases hr
theorem zg_areturn (hall : zc_All) {e : zm_K} (ih : zs_IH l b L xs e) {m i bp len a b0 c : Nat} {v : Int32} {w : Int64} {ts : List Nat} {ls : zm_L} {st : List Value} {h : zm_H} {r : zm_R} (hc : (zm_cd m)[i]? = some (bp, .areturn, len, a, b0, c, v, w, ts)) (hr : zm_G (L, xs) e m i ls st h (.areturn) a b0 c v w ts = some r) : zs_S l b L xs m i ls st h r := by
  have hp : zm_pc m i = some bp := zm_pc_at hc
  obtain ⟨ps, hz⟩ := zc_at hall hc
  unfold zc_in at hz
  rw [Bool.and_eq_true, decide_eq_true_eq] at hz
  obtain ⟨hd, hz⟩ := hz
  unfold zm_G at hr
  dsimp only at hz hr
  rw [Bool.and_eq_true] at hz
  have hd := zc_dec hd hz.1
  have h9 := hz.2
  split at h9
  · rename_i n e9
    split at hr
    · cases Option.some.inj hr
      exact zr_a hp e9 hd
    · cases hr
  · cases h9
theorem zg_return_ (hall : zc_All) {e : zm_K} (ih : zs_IH l b L xs e) {m i bp len a b0 c : Nat} {v : Int32} {w : Int64} {ts : List Nat} {ls : zm_L} {st : List Value} {h : zm_H} {r : zm_R} (hc : (zm_cd m)[i]? = some (bp, .return_, len, a, b0, c, v, w, ts)) (hr : zm_G (L, xs) e m i ls st h (.return_) a b0 c v w ts = some r) : zs_S l b L xs m i ls st h r := by
  have hp : zm_pc m i = some bp := zm_pc_at hc
  obtain ⟨ps, hz⟩ := zc_at hall hc
  unfold zc_in at hz
  rw [Bool.and_eq_true, decide_eq_true_eq] at hz
  obtain ⟨hd, hz⟩ := hz
  unfold zm_G at hr
  dsimp only at hz hr
  rw [Bool.and_eq_true, decide_eq_true_eq] at hz
  have hd := zc_dec hd hz.1
  split at hr
  · cases Option.some.inj hr
    exact zr_v hp hz.2 hd
  · cases hr
end ZG
section ZJ
variable {l : Launch} {b L : Nat} {xs : Nat → Int32}
theorem zs_G (hall : zc_All) {e : zm_K} (ih : zs_IH l b L xs e) {m i bp len a b0 c : Nat} {ins : Instr} {v : Int32} {w : Int64} {ts : List Nat} {ls : zm_L} {st : List Value} {h : zm_H} {r : zm_R} (hc : (zm_cd m)[i]? = some (bp, ins, len, a, b0, c, v, w, ts)) (hr : zm_G (L, xs) e m i ls st h ins a b0 c v w ts = some r) : zs_S l b L xs m i ls st h r := by
  cases ins with
  | iadd => exact zg_iadd hall ih hc hr
  | isub => exact zg_isub hall ih hc hr
  | imul => exact zg_imul hall ih hc hr
  | iand => exact zg_iand hall ih hc hr
  | ior => exact zg_ior hall ih hc hr
  | ixor => exact zg_ixor hall ih hc hr
  | ishl => exact zg_ishl hall ih hc hr
  | ishr => exact zg_ishr hall ih hc hr
  | iushr => exact zg_iushr hall ih hc hr
  | ladd => exact zg_ladd hall ih hc hr
  | lmul => exact zg_lmul hall ih hc hr
  | land => exact zg_land hall ih hc hr
  | lor => exact zg_lor hall ih hc hr
  | lshl => exact zg_lshl hall ih hc hr
  | lushr => exact zg_lushr hall ih hc hr
  | lcmp => exact zg_lcmp hall ih hc hr
  | i2l => exact zg_i2l hall ih hc hr
  | l2i => exact zg_l2i hall ih hc hr
  | idiv => exact zg_idiv hall ih hc hr
  | irem => exact zg_irem hall ih hc hr
  | ldiv => exact zg_ldiv hall ih hc hr
  | lrem => exact zg_lrem hall ih hc hr
  | iconst n => exact zg_iconst hall ih hc hr
  | bipush n => exact zg_bipush hall ih hc hr
  | sipush n => exact zg_sipush hall ih hc hr
  | lconst n => exact zg_lconst hall ih hc hr
  | ldc_w n => exact zg_ldc_w hall ih hc hr
  | ldc2_w n => exact zg_ldc2_w hall ih hc hr
  | iload_n k => exact zg_iload_n hall ih hc hr
  | iload k => exact zg_iload hall ih hc hr
  | lload_n k => exact zg_lload_n hall ih hc hr
  | lload k => exact zg_lload hall ih hc hr
  | aload_n k => exact zg_aload_n hall ih hc hr
  | aload k => exact zg_aload hall ih hc hr
  | istore_n k => exact zg_istore_n hall ih hc hr
  | istore k => exact zg_istore hall ih hc hr
  | lstore_n k => exact zg_lstore_n hall ih hc hr
  | lstore k => exact zg_lstore hall ih hc hr
  | astore_n k => exact zg_astore_n hall ih hc hr
  | astore k => exact zg_astore hall ih hc hr
  | iinc k n => exact zg_iinc hall ih hc hr
  | goto n => exact zg_goto hall ih hc hr
  | if_icmp cm n =>
    cases cm with
    | eq => exact zg_icmp_eq hall ih hc hr
    | ne => exact zg_icmp_ne hall ih hc hr
    | lt => exact zg_icmp_lt hall ih hc hr
    | ge => exact zg_icmp_ge hall ih hc hr
    | gt => exact zg_icmp_gt hall ih hc hr
    | le => exact zg_icmp_le hall ih hc hr
  | ifCond cm n =>
    cases cm with
    | eq => exact zg_if_eq hall ih hc hr
    | ne => exact zg_if_ne hall ih hc hr
    | lt => exact zg_if_lt hall ih hc hr
    | ge => exact zg_if_ge hall ih hc hr
    | gt => exact zg_if_gt hall ih hc hr
    | le => exact zg_if_le hall ih hc hr
  | tableswitch d lo hi os => exact zg_tableswitch hall ih hc hr
  | dup => exact zg_dup hall ih hc hr
  | dup2 => exact zg_dup2 hall ih hc hr
  | pop => exact zg_pop hall ih hc hr
  | getfield k => exact zg_getfield hall ih hc hr
  | putfield k => exact zg_putfield hall ih hc hr
  | laload => exact zg_laload hall ih hc hr
  | baload => exact zg_baload hall ih hc hr
  | aaload => exact zg_aaload hall ih hc hr
  | iastore => exact zg_iastore hall ih hc hr
  | lastore => exact zg_lastore hall ih hc hr
  | bastore => exact zg_bastore hall ih hc hr
  | aastore => exact zg_aastore hall ih hc hr
  | iaload => exact zg_iaload hall ih hc hr
  | arraylength => exact zg_arraylength hall ih hc hr
  | new k => exact zg_new hall ih hc hr
  | newarray t => exact zg_newarray hall ih hc hr
  | anewarray k => exact zg_anewarray hall ih hc hr
  | invokevirtual k => exact zg_invokevirtual hall ih hc hr
  | invokespecial k => exact zg_invokespecial hall ih hc hr
  | invokestatic k => exact zg_invokestatic hall ih hc hr
  | ireturn => exact zg_ireturn hall ih hc hr
  | areturn => exact zg_areturn hall ih hc hr
  | return_ => exact zg_return_ hall ih hc hr
  | _ =>
    exfalso
    unfold zm_G at hr
    cases hr
theorem zs_all_run (hall : zc_All) : ∀ (n : Nat), zs_IH l b L xs (zm_run (L, xs) n)
  | 0 => fun m i ls st h r hr => by cases hr
  | n + 1 => fun m i ls st h r hr => by
    have hr : zm_F (L, xs) (zm_run (L, xs) n) (m, i, ls, st, h) = some r := hr
    unfold zm_F at hr
    try dsimp only at hr
    split at hr
    · cases hr
    · rename_i bp ins len a b0 c v w ts hc
      exact zs_G hall (zs_all_run hall n) hc hr
end ZJ
end
section
theorem zc_t0 : zc_me 0 [] = true := by decide +kernel
theorem zc_t1 : zc_me 1 [] = true := by decide +kernel
theorem zc_t2 : zc_me 2 [] = true := by decide +kernel
theorem zc_t3 : zc_me 3 [] = true := by decide +kernel
theorem zc_t4 : zc_me 4 [] = true := by decide +kernel
theorem zc_t5 : zc_me 5 [] = true := by decide +kernel
theorem zc_t6 : zc_me 6 [] = true := by decide +kernel
theorem zc_t7 : zc_me 7 [] = true := by decide +kernel
theorem zc_t8 : zc_me 8 [] = true := by decide +kernel
theorem zc_t9 : zc_me 9 [] = true := by decide +kernel
theorem zc_t10 : zc_me 10 [] = true := by decide +kernel
theorem zc_t11 : zc_me 11 [] = true := by decide +kernel
theorem zc_t12 : zc_me 12 [] = true := by decide +kernel
theorem zc_t13 : zc_me 13 [] = true := by decide +kernel
theorem zc_t14 : zc_me 14 [] = true := by decide +kernel
theorem zc_t15 : zc_me 15 [] = true := by decide +kernel
theorem zc_t16 : zc_me 16 [] = true := by decide +kernel
theorem zc_t17 : zc_me 17 [] = true := by decide +kernel
theorem zc_t18 : zc_me 18 [] = true := by decide +kernel
theorem zc_t19 : zc_me 19 [] = true := by decide +kernel
theorem zc_t20 : zc_me 20 [] = true := by decide +kernel
theorem zc_t21 : zc_me 21 [] = true := by decide +kernel
theorem zc_t22 : zc_me 22 [] = true := by decide +kernel
theorem zc_t23 : zc_me 23 [] = true := by decide +kernel
theorem zc_t24 : zc_me 24 [] = true := by decide +kernel
theorem zc_t25 : zc_me 25 [] = true := by decide +kernel
theorem zc_t26 : zc_me 26 [] = true := by decide +kernel
theorem zc_t27 : zc_me 27 [] = true := by decide +kernel
theorem zc_t28 : zc_me 28 [] = true := by decide +kernel
theorem zc_t29 : zc_me 29 [] = true := by decide +kernel
theorem zc_t30 : zc_me 30 [] = true := by decide +kernel
theorem zc_t31 : zc_me 31 [] = true := by decide +kernel
theorem zc_t32 : zc_me 32 [] = true := by decide +kernel
theorem zc_t33 : zc_me 33 [] = true := by decide +kernel
theorem zc_t34 : zc_me 34 [] = true := by decide +kernel
theorem zc_t35 : zc_me 35 [] = true := by decide +kernel
theorem zc_t36 : zc_me 36 [] = true := by decide +kernel
theorem zc_t37 : zc_me 37 [] = true := by decide +kernel
theorem zc_t38 : zc_me 38 [] = true := by decide +kernel
theorem zc_t39 : zc_me 39 [] = true := by decide +kernel
theorem zc_t40 : zc_me 40 [] = true := by decide +kernel
theorem zc_t41 : zc_me 41 [] = true := by decide +kernel
theorem zc_t42 : zc_me 42 [] = true := by decide +kernel
theorem zc_t43 : zc_me 43 [] = true := by decide +kernel
theorem zc_t44 : zc_me 44 [] = true := by decide +kernel
theorem zc_t45 : zc_me 45 [] = true := by decide +kernel
theorem zc_t46 : zc_me 46 [] = true := by decide +kernel
theorem zc_t47 : zc_me 47 [] = true := by decide +kernel
theorem zc_t48 : zc_me 48 [] = true := by decide +kernel
theorem zc_t49 : zc_me 49 [] = true := by decide +kernel
theorem zc_t50 : zc_me 50 [] = true := by decide +kernel
theorem zc_t51 : zc_me 51 [] = true := by decide +kernel
theorem zc_t52 : zc_me 52 [] = true := by decide +kernel
theorem zc_t53 : zc_me 53 [] = true := by decide +kernel
theorem zc_t54 : zc_me 54 [] = true := by decide +kernel
theorem zc_t55 : zc_me 55 [] = true := by decide +kernel
theorem zc_t56 : zc_me 56 [] = true := by decide +kernel
theorem zc_t57 : zc_me 57 [] = true := by decide +kernel
theorem zc_t58 : zc_me 58 [] = true := by decide +kernel
theorem zc_t59 : zc_me 59 [] = true := by decide +kernel
theorem zc_t60 : zc_me 60 [] = true := by decide +kernel
theorem zc_t61 : zc_me 61 [] = true := by decide +kernel
theorem zc_t62 : zc_me 62 [] = true := by decide +kernel
theorem zc_t63 : zc_me 63 [] = true := by decide +kernel
theorem zc_t64 : zc_me 64 [] = true := by decide +kernel
theorem zc_t65 : zc_me 65 [] = true := by decide +kernel
theorem zc_t66 : zc_me 66 [] = true := by decide +kernel
theorem zc_t67 : zc_me 67 [] = true := by decide +kernel
theorem zc_t68 : zc_me 68 [] = true := by decide +kernel
theorem zc_t69 : zc_me 69 [] = true := by decide +kernel
theorem zc_t70 : zc_me 70 [] = true := by decide +kernel
theorem zc_t71 : zc_me 71 [] = true := by decide +kernel
theorem zc_t72 : zc_me 72 [] = true := by decide +kernel
theorem zc_t73 : zc_me 73 [] = true := by decide +kernel
theorem zc_t74 : zc_me 74 [] = true := by decide +kernel
theorem zc_t75 : zc_me 75 [] = true := by decide +kernel
theorem zc_t76 : zc_me 76 [] = true := by decide +kernel
theorem zc_t77 : zc_me 77 [] = true := by decide +kernel
theorem zc_t78 : zc_me 78 [] = true := by decide +kernel
theorem zc_t79 : zc_me 79 [] = true := by decide +kernel
theorem zc_t80 : zc_me 80 [] = true := by decide +kernel
theorem zc_t81 : zc_me 81 [] = true := by decide +kernel
theorem zc_t82 : zc_me 82 [] = true := by decide +kernel
theorem zc_t83 : zc_me 83 [] = true := by decide +kernel
theorem zc_t84 : zc_me 84 [] = true := by decide +kernel
theorem zc_t85 : zc_me 85 [] = true := by decide +kernel
theorem zc_t86 : zc_me 86 [] = true := by decide +kernel
theorem zc_t87 : zc_me 87 [] = true := by decide +kernel
theorem zc_t88 : zc_me 88 [] = true := by decide +kernel
theorem zc_t89 : zc_me 89 [] = true := by decide +kernel
theorem zc_t90 : zc_me 90 [] = true := by decide +kernel
theorem zc_t91 : zc_me 91 [] = true := by decide +kernel
theorem zc_t92 : zc_me 92 [] = true := by decide +kernel
theorem zc_t93 : zc_me 93 [] = true := by decide +kernel
theorem zc_t94 : zc_me 94 [] = true := by decide +kernel
theorem zc_t95 : zc_me 95 [] = true := by decide +kernel
theorem zc_t96 : zc_me 96 [] = true := by decide +kernel
theorem zc_t97 : zc_me 97 [] = true := by decide +kernel
theorem zc_t98 : zc_me 98 [] = true := by decide +kernel
theorem zc_t99 : zc_me 99 [] = true := by decide +kernel
theorem zc_t100 : zc_me 100 [] = true := by decide +kernel
theorem zc_t101 : zc_me 101 [] = true := by decide +kernel
theorem zc_t102 : zc_me 102 [] = true := by decide +kernel
theorem zc_t103 : zc_me 103 [] = true := by decide +kernel
theorem zc_t104 : zc_me 104 [] = true := by decide +kernel
theorem zc_t105 : zc_me 105 [] = true := by decide +kernel
theorem zc_t106 : zc_me 106 [] = true := by decide +kernel
theorem zc_t107 : zc_me 107 [] = true := by decide +kernel
theorem zc_t108 : zc_me 108 [] = true := by decide +kernel
theorem zc_t109 : zc_me 109 [] = true := by decide +kernel
theorem zc_t110 : zc_me 110 [] = true := by decide +kernel
theorem zc_t111 : zc_me 111 [] = true := by decide +kernel
theorem zc_t112 : zc_me 112 [] = true := by decide +kernel
theorem zc_t113 : zc_me 113 [] = true := by decide +kernel
theorem zc_t114 : zc_me 114 [] = true := by decide +kernel
theorem zc_t115 : zc_me 115 [] = true := by decide +kernel
theorem zc_t116 : zc_me 116 [] = true := by decide +kernel
theorem zc_t117 : zc_me 117 [] = true := by decide +kernel
theorem zc_t118 : zc_me 118 [] = true := by decide +kernel
theorem zc_t119 : zc_me 119 [] = true := by decide +kernel
theorem zc_t120 : zc_me 120 [] = true := by decide +kernel
theorem zc_t121 : zc_me 121 [] = true := by decide +kernel
theorem zc_t122 : zc_me 122 [] = true := by decide +kernel
theorem zc_t123 : zc_me 123 [] = true := by decide +kernel
theorem zc_t124 : zc_me 124 [] = true := by decide +kernel
theorem zc_t125 : zc_me 125 [] = true := by decide +kernel
theorem zc_t126 : zc_me 126 [] = true := by decide +kernel
theorem zc_t127 : zc_me 127 [] = true := by decide +kernel
theorem zc_t128 : zc_me 128 [] = true := by decide +kernel
theorem zc_t129 : zc_me 129 [] = true := by decide +kernel
theorem zc_t130 : zc_me 130 [] = true := by decide +kernel
theorem zc_t131 : zc_me 131 [] = true := by decide +kernel
theorem zc_t132 : zc_me 132 [] = true := by decide +kernel
theorem zc_t133 : zc_me 133 [] = true := by decide +kernel
theorem zc_t134 : zc_me 134 [] = true := by decide +kernel
theorem zc_t135 : zc_me 135 [] = true := by decide +kernel
theorem zc_t136 : zc_me 136 [] = true := by decide +kernel
theorem zc_t137 : zc_me 137 [] = true := by decide +kernel
theorem zc_t138 : zc_me 138 [] = true := by decide +kernel
theorem zc_t139 : zc_me 139 [] = true := by decide +kernel
theorem zc_t140 : zc_me 140 [] = true := by decide +kernel
theorem zc_t141 : zc_me 141 [] = true := by decide +kernel
theorem zc_t142 : zc_me 142 [] = true := by decide +kernel
theorem zc_t143 : zc_me 143 [] = true := by decide +kernel
theorem zc_t144 : zc_me 144 [] = true := by decide +kernel
theorem zc_t145 : zc_me 145 [] = true := by decide +kernel
theorem zc_t146 : zc_me 146 [] = true := by decide +kernel
theorem zc_t147 : zc_me 147 [] = true := by decide +kernel
theorem zc_t148 : zc_me 148 [] = true := by decide +kernel
theorem zc_t149 : zc_me 149 [] = true := by decide +kernel
theorem zc_t150 : zc_me 150 [] = true := by decide +kernel
theorem zc_t151 : zc_me 151 [] = true := by decide +kernel
theorem zc_t152 : zc_me 152 [] = true := by decide +kernel
theorem zc_t153 : zc_me 153 [] = true := by decide +kernel
theorem zc_t154 : zc_me 154 [] = true := by decide +kernel
theorem zc_t155 : zc_me 155 [] = true := by decide +kernel
theorem zc_t156 : zc_me 156 [] = true := by decide +kernel
theorem zc_t157 : zc_me 157 [] = true := by decide +kernel
theorem zc_t158 : zc_me 158 [] = true := by decide +kernel
theorem zc_t159 : zc_me 159 [] = true := by decide +kernel
theorem zc_t160 : zc_me 160 [] = true := by decide +kernel
theorem zc_t161 : zc_me 161 [] = true := by decide +kernel
theorem zc_t162 : zc_me 162 [] = true := by decide +kernel
theorem zc_t163 : zc_me 163 [] = true := by decide +kernel
theorem zc_t164 : zc_me 164 [] = true := by decide +kernel
theorem zc_t165 : zc_me 165 [] = true := by decide +kernel
theorem zc_t166 : zc_me 166 [] = true := by decide +kernel
theorem zc_t167 : zc_me 167 [] = true := by decide +kernel
theorem zc_t168 : zc_me 168 [] = true := by decide +kernel
theorem zc_t169 : zc_me 169 [] = true := by decide +kernel
theorem zc_t170 : zc_me 170 [] = true := by decide +kernel
theorem zc_t171 : zc_me 171 [] = true := by decide +kernel
theorem zc_t172 : zc_me 172 [] = true := by decide +kernel
theorem zc_t173 : zc_me 173 [] = true := by decide +kernel
theorem zc_t174 : zc_me 174 [] = true := by decide +kernel
theorem zc_t175 : zc_me 175 [] = true := by decide +kernel
theorem zc_t176 : zc_me 176 [] = true := by decide +kernel
theorem zc_t177 : zc_me 177 [] = true := by decide +kernel
theorem zc_t178 : zc_me 178 [] = true := by decide +kernel
theorem zc_t179 : zc_me 179 [] = true := by decide +kernel
theorem zc_t180 : zc_me 180 [] = true := by decide +kernel
theorem zc_t181 : zc_me 181 [] = true := by decide +kernel
theorem zc_t182 : zc_me 182 [] = true := by decide +kernel
theorem zc_t183 : zc_me 183 [] = true := by decide +kernel
theorem zc_t184 : zc_me 184 [] = true := by decide +kernel
theorem zc_t185 : zc_me 185 [494, 495] = true := by decide +kernel
theorem zc_t186 : zc_me 186 [495] = true := by decide +kernel
theorem zc_t187 : zc_me 187 [494] = true := by decide +kernel
theorem zc_t188 : zc_me 188 [648, 494] = true := by decide +kernel
theorem zc_t189 : zc_me 189 [648] = true := by decide +kernel
theorem zc_t190 : zc_me 190 [648] = true := by decide +kernel
theorem zc_t191 : zc_me 191 [648, 494] = true := by decide +kernel
theorem zc_t192 : zc_me 192 [648] = true := by decide +kernel
theorem zc_t193 : zc_me 193 [495] = true := by decide +kernel
theorem zc_t194 : zc_me 194 [648, 494] = true := by decide +kernel
theorem zc_t195 : zc_me 195 [648, 495] = true := by decide +kernel
theorem zc_t196 : zc_me 196 [648] = true := by decide +kernel
theorem zc_t197 : zc_me 197 [648, 495] = true := by decide +kernel
theorem zc_t198 : zc_me 198 [495] = true := by decide +kernel
theorem zc_t199 : zc_me 199 [648] = true := by decide +kernel
theorem zc_t200 : zc_me 200 [648] = true := by decide +kernel
theorem zc_t201 : zc_me 201 [648] = true := by decide +kernel
theorem zc_t202 : zc_me 202 [494] = true := by decide +kernel
theorem zc_t203 : zc_me 203 [494] = true := by decide +kernel
theorem zc_t204 : zc_me 204 [648] = true := by decide +kernel
theorem zc_t205 : zc_me 205 [648, 495] = true := by decide +kernel
theorem zc_t207 : zc_me 207 [] = true := by decide +kernel
theorem zc_t208 : zc_me 208 [] = true := by decide +kernel
def zc_hp : List (List Nat) := [[], [], [], [], [], [], [], [], [], [], [], [], [], [], [], [], [], [], [], [], [], [], [], [], [], [], [], [], [], [], [], [], [], [], [], [], [], [], [], [], [], [], [], [], [], [], [], [], [], [], [], [], [], [], [], [], [], [], [], [], [], [], [], [], [], [], [], [], [], [], [], [], [], [], [], [], [], [], [], [], [], [], [], [], [], [], [], [], [], [], [], [], [], [], [], [], [], [], [], [], [], [], [], [], [], [], [], [], [], [], [], [], [], [], [], [], [], [], [], [], [], [], [], [], [], [], [], [], [], [], [], [], [], [], [], [], [], [], [], [], [], [], [], [], [], [], [], [], [], [], [], [], [], [], [], [], [], [], [], [], [], [], [], [], [], [], [], [], [], [], [], [], [], [], [], [], [], [], [], [], [], [], [], [], [], [494, 495], [495], [494], [648, 494], [648], [648], [648, 494], [648], [495], [648, 494], [648, 495], [648], [648, 495], [495], [648], [648], [648], [494], [494], [648], [648, 495], [], [], []]
end
section
theorem zc_t206_0 : zc_ro 206 zd_206_0 zp_206_0 (some 224) = true := by decide +kernel
theorem zc_t206_1 : zc_ro 206 zd_206_1 zp_206_1 (some 328) = true := by decide +kernel
theorem zc_t206_2 : zc_ro 206 zd_206_2 zp_206_2 (some 419) = true := by decide +kernel
theorem zc_t206_3 : zc_ro 206 zd_206_3 zp_206_3 (some 509) = true := by decide +kernel
theorem zc_t206_4 : zc_ro 206 zd_206_4 zp_206_4 (some 602) = true := by decide +kernel
theorem zc_t206_5 : zc_ro 206 zd_206_5 zp_206_5 (some 700) = true := by decide +kernel
theorem zc_t206_6 : zc_ro 206 zd_206_6 zp_206_6 (some 788) = true := by decide +kernel
theorem zc_t206_7 : zc_ro 206 zd_206_7 zp_206_7 (some 877) = true := by decide +kernel
theorem zc_t206_8 : zc_ro 206 zd_206_8 zp_206_8 (some 977) = true := by decide +kernel
theorem zc_t206_9 : zc_ro 206 zd_206_9 zp_206_9 (some 1077) = true := by decide +kernel
theorem zc_t206_10 : zc_ro 206 zd_206_10 zp_206_10 (some 1178) = true := by decide +kernel
theorem zc_t206_11 : zc_ro 206 zd_206_11 zp_206_11 (some 1276) = true := by decide +kernel
theorem zc_t206_12 : zc_ro 206 zd_206_12 zp_206_12 (some 1362) = true := by decide +kernel
theorem zc_t206_13 : zc_ro 206 zd_206_13 zp_206_13 (some 1451) = true := by decide +kernel
theorem zc_t206_14 : zc_ro 206 zd_206_14 zp_206_14 (some 1540) = true := by decide +kernel
theorem zc_t206_15 : zc_ro 206 zd_206_15 zp_206_15 (some 1637) = true := by decide +kernel
theorem zc_t206_16 : zc_ro 206 zd_206_16 zp_206_16 none = true := by decide +kernel
theorem zc_t206_a16 : zc_ro 206 zd_206_16 zp_206_16 none = true := zc_t206_16
theorem zc_t206_a15 : zc_ro 206 (zd_206_15 ++ (zd_206_16)) (zp_206_15 ++ (zp_206_16)) none = true := zc_ro_app 206 _ _ _ _ _ _ zc_t206_15 zc_t206_a16
theorem zc_t206_a14 : zc_ro 206 (zd_206_14 ++ (zd_206_15 ++ (zd_206_16))) (zp_206_14 ++ (zp_206_15 ++ (zp_206_16))) none = true := zc_ro_app 206 _ _ _ _ _ _ zc_t206_14 zc_t206_a15
theorem zc_t206_a13 : zc_ro 206 (zd_206_13 ++ (zd_206_14 ++ (zd_206_15 ++ (zd_206_16)))) (zp_206_13 ++ (zp_206_14 ++ (zp_206_15 ++ (zp_206_16)))) none = true := zc_ro_app 206 _ _ _ _ _ _ zc_t206_13 zc_t206_a14
theorem zc_t206_a12 : zc_ro 206 (zd_206_12 ++ (zd_206_13 ++ (zd_206_14 ++ (zd_206_15 ++ (zd_206_16))))) (zp_206_12 ++ (zp_206_13 ++ (zp_206_14 ++ (zp_206_15 ++ (zp_206_16))))) none = true := zc_ro_app 206 _ _ _ _ _ _ zc_t206_12 zc_t206_a13
theorem zc_t206_a11 : zc_ro 206 (zd_206_11 ++ (zd_206_12 ++ (zd_206_13 ++ (zd_206_14 ++ (zd_206_15 ++ (zd_206_16)))))) (zp_206_11 ++ (zp_206_12 ++ (zp_206_13 ++ (zp_206_14 ++ (zp_206_15 ++ (zp_206_16)))))) none = true := zc_ro_app 206 _ _ _ _ _ _ zc_t206_11 zc_t206_a12
theorem zc_t206_a10 : zc_ro 206 (zd_206_10 ++ (zd_206_11 ++ (zd_206_12 ++ (zd_206_13 ++ (zd_206_14 ++ (zd_206_15 ++ (zd_206_16))))))) (zp_206_10 ++ (zp_206_11 ++ (zp_206_12 ++ (zp_206_13 ++ (zp_206_14 ++ (zp_206_15 ++ (zp_206_16))))))) none = true := zc_ro_app 206 _ _ _ _ _ _ zc_t206_10 zc_t206_a11
theorem zc_t206_a9 : zc_ro 206 (zd_206_9 ++ (zd_206_10 ++ (zd_206_11 ++ (zd_206_12 ++ (zd_206_13 ++ (zd_206_14 ++ (zd_206_15 ++ (zd_206_16)))))))) (zp_206_9 ++ (zp_206_10 ++ (zp_206_11 ++ (zp_206_12 ++ (zp_206_13 ++ (zp_206_14 ++ (zp_206_15 ++ (zp_206_16)))))))) none = true := zc_ro_app 206 _ _ _ _ _ _ zc_t206_9 zc_t206_a10
theorem zc_t206_a8 : zc_ro 206 (zd_206_8 ++ (zd_206_9 ++ (zd_206_10 ++ (zd_206_11 ++ (zd_206_12 ++ (zd_206_13 ++ (zd_206_14 ++ (zd_206_15 ++ (zd_206_16))))))))) (zp_206_8 ++ (zp_206_9 ++ (zp_206_10 ++ (zp_206_11 ++ (zp_206_12 ++ (zp_206_13 ++ (zp_206_14 ++ (zp_206_15 ++ (zp_206_16))))))))) none = true := zc_ro_app 206 _ _ _ _ _ _ zc_t206_8 zc_t206_a9
theorem zc_t206_a7 : zc_ro 206 (zd_206_7 ++ (zd_206_8 ++ (zd_206_9 ++ (zd_206_10 ++ (zd_206_11 ++ (zd_206_12 ++ (zd_206_13 ++ (zd_206_14 ++ (zd_206_15 ++ (zd_206_16)))))))))) (zp_206_7 ++ (zp_206_8 ++ (zp_206_9 ++ (zp_206_10 ++ (zp_206_11 ++ (zp_206_12 ++ (zp_206_13 ++ (zp_206_14 ++ (zp_206_15 ++ (zp_206_16)))))))))) none = true := zc_ro_app 206 _ _ _ _ _ _ zc_t206_7 zc_t206_a8
theorem zc_t206_a6 : zc_ro 206 (zd_206_6 ++ (zd_206_7 ++ (zd_206_8 ++ (zd_206_9 ++ (zd_206_10 ++ (zd_206_11 ++ (zd_206_12 ++ (zd_206_13 ++ (zd_206_14 ++ (zd_206_15 ++ (zd_206_16))))))))))) (zp_206_6 ++ (zp_206_7 ++ (zp_206_8 ++ (zp_206_9 ++ (zp_206_10 ++ (zp_206_11 ++ (zp_206_12 ++ (zp_206_13 ++ (zp_206_14 ++ (zp_206_15 ++ (zp_206_16))))))))))) none = true := zc_ro_app 206 _ _ _ _ _ _ zc_t206_6 zc_t206_a7
theorem zc_t206_a5 : zc_ro 206 (zd_206_5 ++ (zd_206_6 ++ (zd_206_7 ++ (zd_206_8 ++ (zd_206_9 ++ (zd_206_10 ++ (zd_206_11 ++ (zd_206_12 ++ (zd_206_13 ++ (zd_206_14 ++ (zd_206_15 ++ (zd_206_16)))))))))))) (zp_206_5 ++ (zp_206_6 ++ (zp_206_7 ++ (zp_206_8 ++ (zp_206_9 ++ (zp_206_10 ++ (zp_206_11 ++ (zp_206_12 ++ (zp_206_13 ++ (zp_206_14 ++ (zp_206_15 ++ (zp_206_16)))))))))))) none = true := zc_ro_app 206 _ _ _ _ _ _ zc_t206_5 zc_t206_a6
theorem zc_t206_a4 : zc_ro 206 (zd_206_4 ++ (zd_206_5 ++ (zd_206_6 ++ (zd_206_7 ++ (zd_206_8 ++ (zd_206_9 ++ (zd_206_10 ++ (zd_206_11 ++ (zd_206_12 ++ (zd_206_13 ++ (zd_206_14 ++ (zd_206_15 ++ (zd_206_16))))))))))))) (zp_206_4 ++ (zp_206_5 ++ (zp_206_6 ++ (zp_206_7 ++ (zp_206_8 ++ (zp_206_9 ++ (zp_206_10 ++ (zp_206_11 ++ (zp_206_12 ++ (zp_206_13 ++ (zp_206_14 ++ (zp_206_15 ++ (zp_206_16))))))))))))) none = true := zc_ro_app 206 _ _ _ _ _ _ zc_t206_4 zc_t206_a5
theorem zc_t206_a3 : zc_ro 206 (zd_206_3 ++ (zd_206_4 ++ (zd_206_5 ++ (zd_206_6 ++ (zd_206_7 ++ (zd_206_8 ++ (zd_206_9 ++ (zd_206_10 ++ (zd_206_11 ++ (zd_206_12 ++ (zd_206_13 ++ (zd_206_14 ++ (zd_206_15 ++ (zd_206_16)))))))))))))) (zp_206_3 ++ (zp_206_4 ++ (zp_206_5 ++ (zp_206_6 ++ (zp_206_7 ++ (zp_206_8 ++ (zp_206_9 ++ (zp_206_10 ++ (zp_206_11 ++ (zp_206_12 ++ (zp_206_13 ++ (zp_206_14 ++ (zp_206_15 ++ (zp_206_16)))))))))))))) none = true := zc_ro_app 206 _ _ _ _ _ _ zc_t206_3 zc_t206_a4
theorem zc_t206_a2 : zc_ro 206 (zd_206_2 ++ (zd_206_3 ++ (zd_206_4 ++ (zd_206_5 ++ (zd_206_6 ++ (zd_206_7 ++ (zd_206_8 ++ (zd_206_9 ++ (zd_206_10 ++ (zd_206_11 ++ (zd_206_12 ++ (zd_206_13 ++ (zd_206_14 ++ (zd_206_15 ++ (zd_206_16))))))))))))))) (zp_206_2 ++ (zp_206_3 ++ (zp_206_4 ++ (zp_206_5 ++ (zp_206_6 ++ (zp_206_7 ++ (zp_206_8 ++ (zp_206_9 ++ (zp_206_10 ++ (zp_206_11 ++ (zp_206_12 ++ (zp_206_13 ++ (zp_206_14 ++ (zp_206_15 ++ (zp_206_16))))))))))))))) none = true := zc_ro_app 206 _ _ _ _ _ _ zc_t206_2 zc_t206_a3
theorem zc_t206_a1 : zc_ro 206 (zd_206_1 ++ (zd_206_2 ++ (zd_206_3 ++ (zd_206_4 ++ (zd_206_5 ++ (zd_206_6 ++ (zd_206_7 ++ (zd_206_8 ++ (zd_206_9 ++ (zd_206_10 ++ (zd_206_11 ++ (zd_206_12 ++ (zd_206_13 ++ (zd_206_14 ++ (zd_206_15 ++ (zd_206_16)))))))))))))))) (zp_206_1 ++ (zp_206_2 ++ (zp_206_3 ++ (zp_206_4 ++ (zp_206_5 ++ (zp_206_6 ++ (zp_206_7 ++ (zp_206_8 ++ (zp_206_9 ++ (zp_206_10 ++ (zp_206_11 ++ (zp_206_12 ++ (zp_206_13 ++ (zp_206_14 ++ (zp_206_15 ++ (zp_206_16)))))))))))))))) none = true := zc_ro_app 206 _ _ _ _ _ _ zc_t206_1 zc_t206_a2
theorem zc_t206_a0 : zc_ro 206 (zd_206_0 ++ (zd_206_1 ++ (zd_206_2 ++ (zd_206_3 ++ (zd_206_4 ++ (zd_206_5 ++ (zd_206_6 ++ (zd_206_7 ++ (zd_206_8 ++ (zd_206_9 ++ (zd_206_10 ++ (zd_206_11 ++ (zd_206_12 ++ (zd_206_13 ++ (zd_206_14 ++ (zd_206_15 ++ (zd_206_16))))))))))))))))) (zp_206_0 ++ (zp_206_1 ++ (zp_206_2 ++ (zp_206_3 ++ (zp_206_4 ++ (zp_206_5 ++ (zp_206_6 ++ (zp_206_7 ++ (zp_206_8 ++ (zp_206_9 ++ (zp_206_10 ++ (zp_206_11 ++ (zp_206_12 ++ (zp_206_13 ++ (zp_206_14 ++ (zp_206_15 ++ (zp_206_16))))))))))))))))) none = true := zc_ro_app 206 _ _ _ _ _ _ zc_t206_0 zc_t206_a1
theorem zc_t206_m : zc_m0 206 [] = true := by decide +kernel
theorem zc_t206 : zc_me 206 [] = true := by
  unfold zc_me
  rw [Bool.and_eq_true]
  exact ⟨zc_t206_a0, zc_t206_m⟩
theorem zc_hp_len : zc_hp.length = 209 := by decide +kernel
end
section
/-! all tables are checked -/
theorem zc_every : zc_All := by
  intro m hm
  have hm : m < 209 := hm
  match m, hm with
  | 0, _ => exact ⟨_, zc_t0⟩
  | 1, _ => exact ⟨_, zc_t1⟩
  | 2, _ => exact ⟨_, zc_t2⟩
  | 3, _ => exact ⟨_, zc_t3⟩
  | 4, _ => exact ⟨_, zc_t4⟩
  | 5, _ => exact ⟨_, zc_t5⟩
  | 6, _ => exact ⟨_, zc_t6⟩
  | 7, _ => exact ⟨_, zc_t7⟩
  | 8, _ => exact ⟨_, zc_t8⟩
  | 9, _ => exact ⟨_, zc_t9⟩
  | 10, _ => exact ⟨_, zc_t10⟩
  | 11, _ => exact ⟨_, zc_t11⟩
  | 12, _ => exact ⟨_, zc_t12⟩
  | 13, _ => exact ⟨_, zc_t13⟩
  | 14, _ => exact ⟨_, zc_t14⟩
  | 15, _ => exact ⟨_, zc_t15⟩
  | 16, _ => exact ⟨_, zc_t16⟩
  | 17, _ => exact ⟨_, zc_t17⟩
  | 18, _ => exact ⟨_, zc_t18⟩
  | 19, _ => exact ⟨_, zc_t19⟩
  | 20, _ => exact ⟨_, zc_t20⟩
  | 21, _ => exact ⟨_, zc_t21⟩
  | 22, _ => exact ⟨_, zc_t22⟩
  | 23, _ => exact ⟨_, zc_t23⟩
  | 24, _ => exact ⟨_, zc_t24⟩
  | 25, _ => exact ⟨_, zc_t25⟩
  | 26, _ => exact ⟨_, zc_t26⟩
  | 27, _ => exact ⟨_, zc_t27⟩
  | 28, _ => exact ⟨_, zc_t28⟩
  | 29, _ => exact ⟨_, zc_t29⟩
  | 30, _ => exact ⟨_, zc_t30⟩
  | 31, _ => exact ⟨_, zc_t31⟩
  | 32, _ => exact ⟨_, zc_t32⟩
  | 33, _ => exact ⟨_, zc_t33⟩
  | 34, _ => exact ⟨_, zc_t34⟩
  | 35, _ => exact ⟨_, zc_t35⟩
  | 36, _ => exact ⟨_, zc_t36⟩
  | 37, _ => exact ⟨_, zc_t37⟩
  | 38, _ => exact ⟨_, zc_t38⟩
  | 39, _ => exact ⟨_, zc_t39⟩
  | 40, _ => exact ⟨_, zc_t40⟩
  | 41, _ => exact ⟨_, zc_t41⟩
  | 42, _ => exact ⟨_, zc_t42⟩
  | 43, _ => exact ⟨_, zc_t43⟩
  | 44, _ => exact ⟨_, zc_t44⟩
  | 45, _ => exact ⟨_, zc_t45⟩
  | 46, _ => exact ⟨_, zc_t46⟩
  | 47, _ => exact ⟨_, zc_t47⟩
  | 48, _ => exact ⟨_, zc_t48⟩
  | 49, _ => exact ⟨_, zc_t49⟩
  | 50, _ => exact ⟨_, zc_t50⟩
  | 51, _ => exact ⟨_, zc_t51⟩
  | 52, _ => exact ⟨_, zc_t52⟩
  | 53, _ => exact ⟨_, zc_t53⟩
  | 54, _ => exact ⟨_, zc_t54⟩
  | 55, _ => exact ⟨_, zc_t55⟩
  | 56, _ => exact ⟨_, zc_t56⟩
  | 57, _ => exact ⟨_, zc_t57⟩
  | 58, _ => exact ⟨_, zc_t58⟩
  | 59, _ => exact ⟨_, zc_t59⟩
  | 60, _ => exact ⟨_, zc_t60⟩
  | 61, _ => exact ⟨_, zc_t61⟩
  | 62, _ => exact ⟨_, zc_t62⟩
  | 63, _ => exact ⟨_, zc_t63⟩
  | 64, _ => exact ⟨_, zc_t64⟩
  | 65, _ => exact ⟨_, zc_t65⟩
  | 66, _ => exact ⟨_, zc_t66⟩
  | 67, _ => exact ⟨_, zc_t67⟩
  | 68, _ => exact ⟨_, zc_t68⟩
  | 69, _ => exact ⟨_, zc_t69⟩
  | 70, _ => exact ⟨_, zc_t70⟩
  | 71, _ => exact ⟨_, zc_t71⟩
  | 72, _ => exact ⟨_, zc_t72⟩
  | 73, _ => exact ⟨_, zc_t73⟩
  | 74, _ => exact ⟨_, zc_t74⟩
  | 75, _ => exact ⟨_, zc_t75⟩
  | 76, _ => exact ⟨_, zc_t76⟩
  | 77, _ => exact ⟨_, zc_t77⟩
  | 78, _ => exact ⟨_, zc_t78⟩
  | 79, _ => exact ⟨_, zc_t79⟩
  | 80, _ => exact ⟨_, zc_t80⟩
  | 81, _ => exact ⟨_, zc_t81⟩
  | 82, _ => exact ⟨_, zc_t82⟩
  | 83, _ => exact ⟨_, zc_t83⟩
  | 84, _ => exact ⟨_, zc_t84⟩
  | 85, _ => exact ⟨_, zc_t85⟩
  | 86, _ => exact ⟨_, zc_t86⟩
  | 87, _ => exact ⟨_, zc_t87⟩
  | 88, _ => exact ⟨_, zc_t88⟩
  | 89, _ => exact ⟨_, zc_t89⟩
  | 90, _ => exact ⟨_, zc_t90⟩
  | 91, _ => exact ⟨_, zc_t91⟩
  | 92, _ => exact ⟨_, zc_t92⟩
  | 93, _ => exact ⟨_, zc_t93⟩
  | 94, _ => exact ⟨_, zc_t94⟩
  | 95, _ => exact ⟨_, zc_t95⟩
  | 96, _ => exact ⟨_, zc_t96⟩
  | 97, _ => exact ⟨_, zc_t97⟩
  | 98, _ => exact ⟨_, zc_t98⟩
  | 99, _ => exact ⟨_, zc_t99⟩
  | 100, _ => exact ⟨_, zc_t100⟩
  | 101, _ => exact ⟨_, zc_t101⟩
  | 102, _ => exact ⟨_, zc_t102⟩
  | 103, _ => exact ⟨_, zc_t103⟩
  | 104, _ => exact ⟨_, zc_t104⟩
  | 105, _ => exact ⟨_, zc_t105⟩
  | 106, _ => exact ⟨_, zc_t106⟩
  | 107, _ => exact ⟨_, zc_t107⟩
  | 108, _ => exact ⟨_, zc_t108⟩
  | 109, _ => exact ⟨_, zc_t109⟩
  | 110, _ => exact ⟨_, zc_t110⟩
  | 111, _ => exact ⟨_, zc_t111⟩
  | 112, _ => exact ⟨_, zc_t112⟩
  | 113, _ => exact ⟨_, zc_t113⟩
  | 114, _ => exact ⟨_, zc_t114⟩
  | 115, _ => exact ⟨_, zc_t115⟩
  | 116, _ => exact ⟨_, zc_t116⟩
  | 117, _ => exact ⟨_, zc_t117⟩
  | 118, _ => exact ⟨_, zc_t118⟩
  | 119, _ => exact ⟨_, zc_t119⟩
  | 120, _ => exact ⟨_, zc_t120⟩
  | 121, _ => exact ⟨_, zc_t121⟩
  | 122, _ => exact ⟨_, zc_t122⟩
  | 123, _ => exact ⟨_, zc_t123⟩
  | 124, _ => exact ⟨_, zc_t124⟩
  | 125, _ => exact ⟨_, zc_t125⟩
  | 126, _ => exact ⟨_, zc_t126⟩
  | 127, _ => exact ⟨_, zc_t127⟩
  | 128, _ => exact ⟨_, zc_t128⟩
  | 129, _ => exact ⟨_, zc_t129⟩
  | 130, _ => exact ⟨_, zc_t130⟩
  | 131, _ => exact ⟨_, zc_t131⟩
  | 132, _ => exact ⟨_, zc_t132⟩
  | 133, _ => exact ⟨_, zc_t133⟩
  | 134, _ => exact ⟨_, zc_t134⟩
  | 135, _ => exact ⟨_, zc_t135⟩
  | 136, _ => exact ⟨_, zc_t136⟩
  | 137, _ => exact ⟨_, zc_t137⟩
  | 138, _ => exact ⟨_, zc_t138⟩
  | 139, _ => exact ⟨_, zc_t139⟩
  | 140, _ => exact ⟨_, zc_t140⟩
  | 141, _ => exact ⟨_, zc_t141⟩
  | 142, _ => exact ⟨_, zc_t142⟩
  | 143, _ => exact ⟨_, zc_t143⟩
  | 144, _ => exact ⟨_, zc_t144⟩
  | 145, _ => exact ⟨_, zc_t145⟩
  | 146, _ => exact ⟨_, zc_t146⟩
  | 147, _ => exact ⟨_, zc_t147⟩
  | 148, _ => exact ⟨_, zc_t148⟩
  | 149, _ => exact ⟨_, zc_t149⟩
  | 150, _ => exact ⟨_, zc_t150⟩
  | 151, _ => exact ⟨_, zc_t151⟩
  | 152, _ => exact ⟨_, zc_t152⟩
  | 153, _ => exact ⟨_, zc_t153⟩
  | 154, _ => exact ⟨_, zc_t154⟩
  | 155, _ => exact ⟨_, zc_t155⟩
  | 156, _ => exact ⟨_, zc_t156⟩
  | 157, _ => exact ⟨_, zc_t157⟩
  | 158, _ => exact ⟨_, zc_t158⟩
  | 159, _ => exact ⟨_, zc_t159⟩
  | 160, _ => exact ⟨_, zc_t160⟩
  | 161, _ => exact ⟨_, zc_t161⟩
  | 162, _ => exact ⟨_, zc_t162⟩
  | 163, _ => exact ⟨_, zc_t163⟩
  | 164, _ => exact ⟨_, zc_t164⟩
  | 165, _ => exact ⟨_, zc_t165⟩
  | 166, _ => exact ⟨_, zc_t166⟩
  | 167, _ => exact ⟨_, zc_t167⟩
  | 168, _ => exact ⟨_, zc_t168⟩
  | 169, _ => exact ⟨_, zc_t169⟩
  | 170, _ => exact ⟨_, zc_t170⟩
  | 171, _ => exact ⟨_, zc_t171⟩
  | 172, _ => exact ⟨_, zc_t172⟩
  | 173, _ => exact ⟨_, zc_t173⟩
  | 174, _ => exact ⟨_, zc_t174⟩
  | 175, _ => exact ⟨_, zc_t175⟩
  | 176, _ => exact ⟨_, zc_t176⟩
  | 177, _ => exact ⟨_, zc_t177⟩
  | 178, _ => exact ⟨_, zc_t178⟩
  | 179, _ => exact ⟨_, zc_t179⟩
  | 180, _ => exact ⟨_, zc_t180⟩
  | 181, _ => exact ⟨_, zc_t181⟩
  | 182, _ => exact ⟨_, zc_t182⟩
  | 183, _ => exact ⟨_, zc_t183⟩
  | 184, _ => exact ⟨_, zc_t184⟩
  | 185, _ => exact ⟨_, zc_t185⟩
  | 186, _ => exact ⟨_, zc_t186⟩
  | 187, _ => exact ⟨_, zc_t187⟩
  | 188, _ => exact ⟨_, zc_t188⟩
  | 189, _ => exact ⟨_, zc_t189⟩
  | 190, _ => exact ⟨_, zc_t190⟩
  | 191, _ => exact ⟨_, zc_t191⟩
  | 192, _ => exact ⟨_, zc_t192⟩
  | 193, _ => exact ⟨_, zc_t193⟩
  | 194, _ => exact ⟨_, zc_t194⟩
  | 195, _ => exact ⟨_, zc_t195⟩
  | 196, _ => exact ⟨_, zc_t196⟩
  | 197, _ => exact ⟨_, zc_t197⟩
  | 198, _ => exact ⟨_, zc_t198⟩
  | 199, _ => exact ⟨_, zc_t199⟩
  | 200, _ => exact ⟨_, zc_t200⟩
  | 201, _ => exact ⟨_, zc_t201⟩
  | 202, _ => exact ⟨_, zc_t202⟩
  | 203, _ => exact ⟨_, zc_t203⟩
  | 204, _ => exact ⟨_, zc_t204⟩
  | 205, _ => exact ⟨_, zc_t205⟩
  | 206, _ => exact ⟨_, zc_t206⟩
  | 207, _ => exact ⟨_, zc_t207⟩
  | 208, _ => exact ⟨_, zc_t208⟩
  | n + 209, h => omega
end
section
/-! THE LAW'S ENTRY: a run of the pure machine gives the law's own -/
def zm_h0 : zm_H := (0, fun _ => .inr (0, []), 0, 0)
theorem zk_nest : (zm_nest.all fun q => decide (Cond.methodLinkNest q.1 q.2.1 q.2.2.1 q.2.2.2 ∈ lw_tbl)) = true := by decide +kernel
theorem zk_txt : (zm_tx.all fun q => decide (Cond.stringRef RX7 q.1 q.2 ∈ lw_tbl) && decide (Cond.exactly (.string RX7 q.1) "java/lang/String" ∈ flatC (Cond.and given_1 narrow_1))) = true := by decide +kernel
theorem zk_cst : ((List.range 3).all fun x => decide (Cond.castable (zm_ex x) (zm_ex x) ∈ lw_tbl)) = true := by decide +kernel
theorem zk_ncs : ((List.range 3).all fun x => (List.range 3).all fun y => decide (x = y) || decide (Cond.not (Cond.castable (zm_ex x) (zm_ex y)) ∈ flatC (Cond.and given_1 narrow_1))) = true := by decide +kernel
theorem zk_dcl : (zm_dcl.all fun x => decide (Cond.declares x ∈ lw_tbl)) = true := by decide +kernel
theorem zk_ins : (vwCl.all fun q => decide (Cond.instantiable q.1 q.2.2 ∈ lw_tbl)) = true := by decide +kernel
theorem zk_N {s : State} {b : Nat} {A : Nat → Prop} (hts : ∀ w ∈ lw_tbl, w.before #[Value.ref b] s = true) (hg : (Cond.and given_1 narrow_1).before #[Value.ref b] s = true) (hA : ∀ a : Nat, a < s.heap.size → ¬ A a) : zs_N A s s.heap := by
  have hs := flat_of_before _ hg
  refine ⟨fun q hq => ?_, va_AO.of (hts _ (by decide +kernel)), fun q hq => ?_, fun x hx => ?_, fun x y hx hy hne => ?_, vx_Zqof (hts _ (by decide +kernel)) (hts _ (by decide +kernel)) (hs _ (by decide +kernel)) hA, vx_Zqof (hts _ (by decide +kernel)) (hts _ (by decide +kernel)) (hs _ (by decide +kernel)) hA, fun x hx => ?_⟩
  · exact va_Nw.of rfl (hts _ (of_decide_eq_true (List.all_eq_true.mp zk_nest q hq)))
  · have h1 := List.all_eq_true.mp zk_txt q hq
    rw [Bool.and_eq_true, decide_eq_true_eq, decide_eq_true_eq] at h1
    obtain ⟨a, -, -, -, h2, -⟩ := Cond.exactly_spec (hs _ h1.2)
    exact ⟨a, vk_R.of (hts _ h1.1) h2⟩
  · exact va_Nw.of rfl (hts _ (of_decide_eq_true (List.all_eq_true.mp zk_cst x (List.mem_range.mpr hx))))
  · have h1 := List.all_eq_true.mp (List.all_eq_true.mp zk_ncs x (List.mem_range.mpr hx)) y (List.mem_range.mpr hy)
    rw [Bool.or_eq_true, decide_eq_true_eq, decide_eq_true_eq] at h1
    exact va_Nc.of (hs _ (h1.resolve_left hne))
  · exact va_Nw.of rfl (hts _ (of_decide_eq_true (List.all_eq_true.mp zk_dcl x hx)))
theorem zk_K {s : State} {b : Nat} (hts : ∀ w ∈ lw_tbl, w.before #[Value.ref b] s = true) : ∃ (dC : Nat → ClassId) (dI : Nat → Nat → Nat), va_K (dC, dI) vwCl [] s := by
  have H : ∀ c : Nat, ∃ p : ClassId × (Nat → Nat), ∀ q, vwCl[c]? = some q → u_Kn s q.1 q.2.1 q.2.2 p.1 p.2 := by
    intro c
    cases hq : vwCl[c]? with
    | none => exact ⟨(0, fun _ => 0), fun q h => by cases h⟩
    | some q =>
      obtain ⟨cC, iS, h⟩ := u_known (n := q.2.2) hts (fun w hw => (List.mem_filter.mp (zc_clin hq w hw)).1) (hts _ (of_decide_eq_true (List.all_eq_true.mp zk_ins q (List.mem_of_getElem? hq))))
      exact ⟨(cC, iS), fun q' h' => by cases h'; exact h⟩
  exact ⟨fun c => (Classical.choose (H c)).1, fun c => (Classical.choose (H c)).2, fun c q hq => Classical.choose_spec (H c) q hq, fun k q hk => by simp at hk⟩
theorem zs_start {p : Program} {e : Env} {s : State} {m : MethodId} {below : List Frame} {meth : Method} {c : Code} (l : Launch) (hflags : l.flags = flags0) {b L : Nat} {xs : Nat → Int32}
    (hexec : p.tables.exec = Jvm.exec) (hcode : c.code = code) (hret0 : meth.sig.returnType = ret) (hml : c.maxLocals = 7) (hown : s.vm.findClass "TradeRingsLaw" = some m.cls) (hts : ∀ w ∈ lw_tbl, w.before #[Value.ref b] s = true) (hX : va_X b L xs s s.heap) (hbl : b < s.heap.size) (hlk : meth.locks = false) (hg : (Cond.and given_1 narrow_1).before #[Value.ref b] s = true)
    {n : Nat} {r : zm_R} (hrun : zm_run (L, xs) n (206, 0, zm_in (zm_ml 206) [.float 0], [], zm_h0) = some r) (hr1 : r.1 = .inl (some (.int 1))) (hc : r.2.2.2.1 ≤ 601024) (hsl : r.2.2.2.2 ≤ 7293034) :
    W p l e room_1 s m #[Value.ref b] below meth c s.heap [] 0 0 (fun t => ∃ o, t.status = .running ∧ Ended t below o ∧ (o = .returned (some (.int 1)) ∧ Framed s o t [] 601024 7293034)) (entryFrame m ([Value.ref b] : List Value).toArray 7) := by
  have hS := zs_all_run zc_every (l := l) (b := b) n _ _ _ _ _ _ hrun
  obtain ⟨dC, dI, hK⟩ := zk_K hts
  have hst : l.stackTraces = false := by
    unfold Launch.stackTraces
    rw [hflags]
    decide +kernel
  have hv : zs_vs b ([] : List Nat) [.float 0] [.ref b] := ⟨rfl, trivial⟩
  have hin : (zm_in (zm_ml 206) [.float 0]).length = zm_ml 206 := by decide +kernel
  have hpc : zm_pc 206 0 = some 0 := by decide +kernel
  have key : W p l e room_1 s m #[Value.ref b] below meth c s.heap [] 0 0 (vx_MQ below (zs_Q b dC dI [] (fun q => s.heap.size ≤ q) r) (zs_T b dC dI [] (fun q => s.heap.size ≤ q) r) #[Value.ref b] s r.2.2.2.1 r.2.2.2.2 (fun q => s.heap.size ≤ q)) (entryFrame m ([Value.ref b] : List Value).toArray 7) := by
    rw [lg_entry_eq]
    refine hS.2.2 p e room_1 s m _ below meth c dC dI (fun q => s.heap.size ≤ q) s.heap [] 0 0 [] [] _ [] [] 0 0 r.2.2.2.1 r.2.2.2.2 0 ?_ ?_ ?_ ⟨[], rfl⟩ (zs_entry hv hin) hin trivial hpc rfl rfl (Nat.zero_add _).symm (Nat.zero_add _).symm hc hsl
    · refine ⟨hexec, hcode, hret0, hlk, hml, hown, fun h => absurd h (by decide +kernel), fun w hw => hts w (List.mem_filter.mp hw).1, zk_N hts hg (fun a ha h => by omega), hX, hbl, fun h => by omega, fun q hq => hq, hst, by decide +kernel, by decide +kernel⟩
    · intro h
      rcases h with h | ⟨k, h⟩
      · exact absurd (by decide +kernel) h
      · rw [hr1] at h
        cases h
    · refine ⟨fun k q hq => by simp at hq, hK, ⟨fun i j p0 q hi => by simp at hi, fun k q hk => by simp at hk⟩, ⟨Nat.le_refl _, fun q _ _ => rfl, fun q hq => by simp at hq⟩, rfl, fun i q hq => by simp at hq⟩
  intro T hT X
  obtain ⟨t, a1, o, b1, b2, b3⟩ := key T hT X
  refine ⟨t, a1, o, b1, b2, ?_⟩
  rcases b3 with ⟨⟨⟨v, ov, ws, tys, ho, hv1, hv2, -⟩, -⟩, Lq, hF, hfree⟩ | ⟨q, -, E, ce, Lq, ⟨⟨k, ws, tys, hk, -⟩, -⟩, -⟩
  · rw [hr1] at hv1
    cases hv1
    cases ov with
    | none => exact hv2.elim
    | some w =>
      have hw : w = .int 1 := hv2
      subst hw
      subst ho
      refine ⟨rfl, ⟨_, rfl⟩, hF.2.1, ?_⟩
      have h5 := hF.2.2
      have h6 : s.sameButNew ({ t with vm := s.vm } : State) ([] ++ Lq) _ _ := h5
      exact (State.sameButNew.drop_fresh h6 hfree).mono hc hsl
  · rw [hr1] at hk
    cases hk
end
section
/-! THE TYPED MEMORY: after both constructors no cell is made any more; what the cells hold is a function of handle and place. -/
abbrev zv_S : Type := (Nat → Nat → Int32) × (Nat → Nat → Int64) × Nat
abbrev zl_K : Type := (Nat × List (Option Nat)) ⊕ (Nat × Nat × List Nat)
def zl_mk (a : Nat) : zl_K := .inl (1, [none, none, some (a + 1), some (a + 2)])
def zl_i (n : Nat) : zl_K := .inr (0, n, [])
def zl_mk3 (a : Nat) : List zl_K := [zl_mk a, zl_i 49, zl_i 7]
def zl_tr (a : Nat) : List zl_K := [.inl (6, [none, none, some (a + 1), some (a + 2), some (a + 3), some (a + 4), some (a + 5), some (a + 6), some (a + 7)]), zl_i 7, zl_i 7, zl_i 7, zl_i 7, zl_i 7, zl_i 7, zl_i 7]
def zl_t : List zl_K :=
  [.inl (7, [some 1, some 3, some 6, some 50, some 51, some 52, some 55, some 63, some 71, some 77, some 80]), .inl (5, [some 2, none]), zl_i 70] ++ zl_mk3 3 ++
  [.inl (0, [some 7, none, none]), .inr (3, 14, [8, 11, 14, 17, 20, 23, 26, 29, 32, 35, 38, 41, 44, 47])] ++
  zl_mk3 8 ++ zl_mk3 11 ++ zl_mk3 14 ++ zl_mk3 17 ++ zl_mk3 20 ++ zl_mk3 23 ++ zl_mk3 26 ++ zl_mk3 29 ++ zl_mk3 32 ++ zl_mk3 35 ++ zl_mk3 38 ++ zl_mk3 41 ++ zl_mk3 44 ++ zl_mk3 47 ++
  [.inr (3, 2, [82, 85]), .inr (2, 2, [])] ++ zl_mk3 52 ++ zl_tr 55 ++ zl_tr 63 ++
  [.inl (4, [some 72, some 73, some 74, some 75, none, some 76]), zl_i 7, zl_i 7, zl_i 7, zl_i 7, zl_i 128,
   .inl (3, [some 78, none, some 79]), zl_i 5040, .inr (1, 79, []), .inl (2, [some 81, none]), zl_i 4] ++ zl_mk3 82 ++ zl_mk3 85 ++
  [.inl (8, [some 89, some 90, some 91, none, some 92, some 93, some 94, none, none, some 95, some 96, some 97, some 98, some 99, some 100, some 101, none, none, none, none, some 102, some 103, some 104, some 105, some 106, some 107, some 108]),
   zl_i 58, zl_i 58, zl_i 812, zl_i 116, .inr (2, 2, []), zl_i 70, zl_i 7, zl_i 7, zl_i 7, zl_i 7, zl_i 7, zl_i 7, zl_i 7, zl_i 58, zl_i 128, zl_i 128, zl_i 7, zl_i 7, zl_i 5040, .inr (2, 5040, []), .inr (1, 1, [])]
def zl (a : Nat) : zl_K := match zl_t[a]? with
  | some k => k
  | none => .inl (99, [])
def zl_f (f : Nat → Int32) : Nat → List (Option Nat) → List Value
  | _, [] => []
  | i, none :: r => .int (f i) :: zl_f f (i + 1) r
  | i, some k :: r => .ref k :: zl_f f (i + 1) r
def zl_c (k : zl_K) (f : Nat → Int32) (g : Nat → Int64) (c : zm_C) : Prop := match k with
  | .inl (cj, rs) => c = .inr (cj, zl_f f 0 rs)
  | .inr (0, n, _) => c = .inl (.int, n, .inl f)
  | .inr (1, n, _) => c = .inl (.long, n, .inr (.inl g))
  | .inr (2, n, _) => c = .inl (.boolean, n, .inl f)
  | .inr (_, n, rs) => ∃ p, c = .inl (.object RX1, n, .inr (.inr p)) ∧ ∀ i, i < n → p i = rs[i]?
def zv_rep (s : zv_S) (h : zm_H) : Prop := h.1 = 110 ∧ h.2.2.1 = 110 + s.2.2 ∧ h.2.2.2 = 18191 + 6 * s.2.2 ∧ ∀ a, a < 110 → zl_c (zl a) (s.1 a) (s.2.1 a) (h.2.1 a)
/-- a run of the pure machine over the typed memory -/
def VV (sc : Nat × (Nat → Int32)) (m i : Nat) (ls : zm_L) (st : List Value) (s : zv_S) (Q : zm_O → zv_S → Prop) : Prop :=
  ∀ h, zv_rep s h → ∃ (N : Nat) (r : zm_R) (t : zv_S), (∀ n, N ≤ n → zm_run sc n (m, i, ls, st, h) = some r) ∧ zv_rep t r.2 ∧ Q r.1 t
/-- a method called -/
def CC (sc : Nat × (Nat → Int32)) (m : Nat) (as : List Value) (s : zv_S) (Q : zm_O → zv_S → Prop) : Prop :=
  Nat.beq (zm_in (zm_ml m) as).length (zm_ml m) = true ∧ VV sc m 0 (zm_in (zm_ml m) as) [] s Q
def QI (P : Int32 → zv_S → Prop) : zm_O → zv_S → Prop := fun o t => ∃ x, o = .inl (some (.int x)) ∧ P x t
def QV (P : zv_S → Prop) : zm_O → zv_S → Prop := fun o t => o = .inl none ∧ P t
def QR (P : Nat → zv_S → Prop) : zm_O → zv_S → Prop := fun o t => ∃ x, o = .inl (some (.ref x)) ∧ P x t
def RI (sc : Nat × (Nat → Int32)) (m : Nat) (as : List Value) (s : zv_S) (x : Int32) (t : zv_S) : Prop := CC sc m as s (QI fun y u => y = x ∧ u = t)
def RV (sc : Nat × (Nat → Int32)) (m : Nat) (as : List Value) (s : zv_S) (t : zv_S) : Prop := CC sc m as s (QV fun u => u = t)
theorem VV.mono {sc : Nat × (Nat → Int32)} {m i : Nat} {ls : zm_L} {st : List Value} {s : zv_S} {Q Q' : zm_O → zv_S → Prop} (h : VV sc m i ls st s Q) (hQ : ∀ o t, Q o t → Q' o t) : VV sc m i ls st s Q' := fun H hr => by
  obtain ⟨N, r, t, h1, h2, h3⟩ := h H hr
  exact ⟨N, r, t, h1, h2, hQ _ _ h3⟩
theorem CC.mono {sc : Nat × (Nat → Int32)} {m : Nat} {as : List Value} {s : zv_S} {Q Q' : zm_O → zv_S → Prop} (h : CC sc m as s Q) (hQ : ∀ o t, Q o t → Q' o t) : CC sc m as s Q' := ⟨h.1, h.2.mono hQ⟩
theorem cc_of {sc : Nat × (Nat → Int32)} {m k : Nat} {as : List Value} {ls : zm_L} {s : zv_S} {Q : zm_O → zv_S → Prop} (hm : zm_ml m = k) (hl : zm_in k as = ls) (hn : Nat.beq ls.length k = true) (hv : VV sc m 0 ls [] s Q) : CC sc m as s Q := by
  subst hm
  subst hl
  exact ⟨hn, hv⟩
/-- one step that keeps the heap -/
theorem vv_p {sc : Nat × (Nat → Int32)} {m i i' : Nat} {ls ls' : zm_L} {st st' : List Value} {s : zv_S} {Q : zm_O → zv_S → Prop} {bp len a b c : Nat} {ins : Instr} {v : Int32} {w : Int64} {ts : List Nat} (hc : (zm_cd m)[i]? = some (bp, ins, len, a, b, c, v, w, ts))
    (hG : ∀ (E : zm_K) (h : zm_H), zv_rep s h → zm_G sc E m i ls st h ins a b c v w ts = E (m, i', ls', st', h)) (k : VV sc m i' ls' st' s Q) : VV sc m i ls st s Q := by
  intro h hr
  obtain ⟨N, r, t, h1, h2, h3⟩ := k h hr
  refine ⟨N + 1, r, t, fun n hn => ?_, h2, h3⟩
  obtain ⟨n, rfl⟩ : ∃ j, n = j + 1 := ⟨n - 1, by omega⟩
  show zm_F sc (zm_run sc n) (m, i, ls, st, h) = some r
  unfold zm_F
  simp only [hc]
  rw [hG _ h hr]
  exact h1 n (by omega)
/-- one step that writes -/
theorem vv_w {sc : Nat × (Nat → Int32)} {m i i' : Nat} {ls ls' : zm_L} {st st' : List Value} {s s' : zv_S} {Q : zm_O → zv_S → Prop} {bp len a b c : Nat} {ins : Instr} {v : Int32} {w : Int64} {ts : List Nat} (hc : (zm_cd m)[i]? = some (bp, ins, len, a, b, c, v, w, ts))
    (hG : ∀ (h : zm_H), zv_rep s h → ∃ h', zv_rep s' h' ∧ ∀ (E : zm_K), zm_G sc E m i ls st h ins a b c v w ts = E (m, i', ls', st', h')) (k : VV sc m i' ls' st' s' Q) : VV sc m i ls st s Q := by
  intro h hr
  obtain ⟨h', hr', hE⟩ := hG h hr
  obtain ⟨N, r, t, h1, h2, h3⟩ := k h' hr'
  refine ⟨N + 1, r, t, fun n hn => ?_, h2, h3⟩
  obtain ⟨n, rfl⟩ : ∃ j, n = j + 1 := ⟨n - 1, by omega⟩
  show zm_F sc (zm_run sc n) (m, i, ls, st, h) = some r
  unfold zm_F
  simp only [hc]
  rw [hE]
  exact h1 n (by omega)
/-- an end -/
theorem vv_e {sc : Nat × (Nat → Int32)} {m i : Nat} {ls : zm_L} {st : List Value} {s : zv_S} {Q : zm_O → zv_S → Prop} {bp len a b c : Nat} {ins : Instr} {v : Int32} {w : Int64} {ts : List Nat} {o : zm_O} (hc : (zm_cd m)[i]? = some (bp, ins, len, a, b, c, v, w, ts))
    (hG : ∀ (E : zm_K) (h : zm_H), zm_G sc E m i ls st h ins a b c v w ts = some (o, h)) (k : Q o s) : VV sc m i ls st s Q := by
  intro h hr
  refine ⟨1, (o, h), s, fun n hn => ?_, hr, k⟩
  obtain ⟨n, rfl⟩ : ∃ j, n = j + 1 := ⟨n - 1, by omega⟩
  show zm_F sc (zm_run sc n) (m, i, ls, st, h) = _
  unfold zm_F
  simp only [hc]
  rw [hG]
/-- an exception made and thrown -/
theorem vv_x {sc : Nat × (Nat → Int32)} {m i : Nat} {ls : zm_L} {s : zv_S} {Q : zm_O → zv_S → Prop} {bp len a b k0 c : Nat} {v : Int32} {w : Int64} {ts : List Nat} (hc : (zm_cd m)[i]? = some (bp, .new k0, len, a, b, c + 1, v, w, ts))
    (k : Q (.inr a) (s.1, s.2.1, s.2.2 + 1)) : VV sc m i ls [] s Q := by
  intro h hr
  refine ⟨1, (.inr a, zm_th h), (s.1, s.2.1, s.2.2 + 1), fun n hn => ?_, ?_, k⟩
  · obtain ⟨n, rfl⟩ : ∃ j, n = j + 1 := ⟨n - 1, by omega⟩
    show zm_F sc (zm_run sc n) (m, i, ls, [], h) = _
    unfold zm_F
    simp only [hc]
    rfl
  · obtain ⟨h1, h2, h3, h4⟩ := hr
    refine ⟨h1, ?_, ?_, h4⟩
    · show h.2.2.1 + 1 = 110 + (s.2.2 + 1)
      omega
    · show h.2.2.2 + 6 = 18191 + 6 * (s.2.2 + 1)
      omega
/-- a call: what the step does with what comes back -/
def zv_cal (sc : Nat × (Nat → Int32)) (m i : Nat) (ls : zm_L) (st : List Value) (s : zv_S) (ins : Instr) (a b c : Nat) (v : Int32) (w : Int64) (ts : List Nat) (as rest : List Value) : Prop :=
  ∀ (E : zm_K) (h : zm_H), zv_rep s h → zm_G sc E m i ls st h ins a b c v w ts = zm_rt c E m i ls rest (zm_call E a as h)
theorem vv_c {sc : Nat × (Nat → Int32)} {m i : Nat} {ls : zm_L} {st rest as : List Value} {s : zv_S} {Q Qc : zm_O → zv_S → Prop} {bp len a b c : Nat} {ins : Instr} {v : Int32} {w : Int64} {ts : List Nat} (hc : (zm_cd m)[i]? = some (bp, ins, len, a, b, c, v, w, ts))
    (hG : zv_cal sc m i ls st s ins a b c v w ts as rest) (hcall : CC sc a as s Qc)
    (k : ∀ o t, Qc o t → ∀ h', zv_rep t h' → ∃ (N : Nat) (r : zm_R) (t' : zv_S), (∀ n, N ≤ n → zm_rt c (zm_run sc n) m i ls rest (some (o, h')) = some r) ∧ zv_rep t' r.2 ∧ Q r.1 t') : VV sc m i ls st s Q := by
  intro h hr
  obtain ⟨hl, hv⟩ := hcall
  obtain ⟨N1, ⟨o, h'⟩, t, e1, e2, e3⟩ := hv h hr
  obtain ⟨N2, r, t', f1, f2, f3⟩ := k o t e3 h' e2
  refine ⟨N1 + N2 + 1, r, t', fun n hn => ?_, f2, f3⟩
  obtain ⟨n, rfl⟩ : ∃ j, n = j + 1 := ⟨n - 1, by omega⟩
  show zm_F sc (zm_run sc n) (m, i, ls, st, h) = some r
  unfold zm_F
  simp only [hc]
  rw [hG _ h hr]
  have e4 : zm_call (zm_run sc n) a as h = some (o, h') := by
    unfold zm_call
    rw [hl]
    exact e1 n (by omega)
  rw [e4]
  exact f1 n (by omega)
theorem vv_cI {sc : Nat × (Nat → Int32)} {m i : Nat} {ls : zm_L} {st rest as : List Value} {s : zv_S} {Q : zm_O → zv_S → Prop} {P : Int32 → zv_S → Prop} {bp len a b : Nat} {ins : Instr} {v : Int32} {w : Int64} {ts : List Nat} (hc : (zm_cd m)[i]? = some (bp, ins, len, a, b, 1, v, w, ts))
    (hG : zv_cal sc m i ls st s ins a b 1 v w ts as rest) (hcall : CC sc a as s (QI P)) (k : ∀ x t, P x t → VV sc m (i + 1) ls (.int x :: rest) t Q) : VV sc m i ls st s Q := by
  refine vv_c hc hG hcall ?_
  rintro o t ⟨x, rfl, hP⟩ h' hr
  obtain ⟨N, r, t', h1, h2, h3⟩ := k x t hP h' hr
  exact ⟨N, r, t', fun n hn => h1 n hn, h2, h3⟩
theorem vv_cV {sc : Nat × (Nat → Int32)} {m i : Nat} {ls : zm_L} {st rest as : List Value} {s : zv_S} {Q : zm_O → zv_S → Prop} {P : zv_S → Prop} {bp len a b : Nat} {ins : Instr} {v : Int32} {w : Int64} {ts : List Nat} (hc : (zm_cd m)[i]? = some (bp, ins, len, a, b, 0, v, w, ts))
    (hG : zv_cal sc m i ls st s ins a b 0 v w ts as rest) (hcall : CC sc a as s (QV P)) (k : ∀ t, P t → VV sc m (i + 1) ls rest t Q) : VV sc m i ls st s Q := by
  refine vv_c hc hG hcall ?_
  rintro o t ⟨rfl, hP⟩ h' hr
  obtain ⟨N, r, t', h1, h2, h3⟩ := k t hP h' hr
  exact ⟨N, r, t', fun n hn => h1 n hn, h2, h3⟩
theorem vv_cR {sc : Nat × (Nat → Int32)} {m i : Nat} {ls : zm_L} {st rest as : List Value} {s : zv_S} {Q : zm_O → zv_S → Prop} {P : Nat → zv_S → Prop} {bp len a b : Nat} {ins : Instr} {v : Int32} {w : Int64} {ts : List Nat} (hc : (zm_cd m)[i]? = some (bp, ins, len, a, b, 2, v, w, ts))
    (hG : zv_cal sc m i ls st s ins a b 2 v w ts as rest) (hcall : CC sc a as s (QR P)) (k : ∀ x t, P x t → VV sc m (i + 1) ls (.ref x :: rest) t Q) : VV sc m i ls st s Q := by
  refine vv_c hc hG hcall ?_
  rintro o t ⟨x, rfl, hP⟩ h' hr
  obtain ⟨N, r, t', h1, h2, h3⟩ := k x t hP h' hr
  exact ⟨N, r, t', fun n hn => h1 n hn, h2, h3⟩
/-- a callee that throws, in a method without handlers -/
theorem vv_cX {sc : Nat × (Nat → Int32)} {m i : Nat} {ls : zm_L} {st rest as : List Value} {s t : zv_S} {Q : zm_O → zv_S → Prop} {x : Nat} {bp len a b c : Nat} {ins : Instr} {v : Int32} {w : Int64} {ts : List Nat} (hc : (zm_cd m)[i]? = some (bp, ins, len, a, b, c, v, w, ts))
    (hG : zv_cal sc m i ls st s ins a b c v w ts as rest) (hcall : CC sc a as s (fun o u => o = .inr x ∧ u = t)) (hh : zm_ht m = []) (k : Q (.inr x) t) : VV sc m i ls st s Q := by
  refine vv_c hc hG hcall ?_
  rintro o u ⟨rfl, rfl⟩ h' hr
  refine ⟨0, (.inr x, h'), u, fun n _ => ?_, hr, k⟩
  have e1 : zm_hx (zm_run sc n) m i ls x h' = some (.inr x, h') := by
    unfold zm_hx
    rw [hh]
  match c with
  | 0 => exact e1
  | 1 => exact e1
  | n + 2 => exact e1
/-- .. and in one that catches it -/
theorem vv_cH {sc : Nat × (Nat → Int32)} {m i g kk : Nat} {ls : zm_L} {st rest as : List Value} {s t : zv_S} {Q : zm_O → zv_S → Prop} {x : Nat} {bp len a b c : Nat} {ins : Instr} {v : Int32} {w : Int64} {ts : List Nat} {tb : List (Nat × Nat × Nat × Nat × Nat)} (hc : (zm_cd m)[i]? = some (bp, ins, len, a, b, c, v, w, ts))
    (hG : zv_cal sc m i ls st s ins a b c v w ts as rest) (hcall : CC sc a as s (fun o u => o = .inr x ∧ u = t)) (hh : zm_ht m = tb) (hne : tb ≠ []) (hf : zm_fd tb i x = some (g, kk)) (k : VV sc m g (zm_s0 ls kk) [] t Q) : VV sc m i ls st s Q := by
  refine vv_c hc hG hcall ?_
  rintro o u ⟨rfl, rfl⟩ h' hr
  obtain ⟨N, r, t', h1, h2, h3⟩ := k h' hr
  refine ⟨N, r, t', fun n hn => ?_, h2, h3⟩
  have e1 : zm_hx (zm_run sc n) m i ls x h' = some r := by
    unfold zm_hx
    rw [hh]
    match tb, hne with
    | q :: qs, _ =>
      dsimp only
      rw [hf]
      exact h1 n hn
  match c with
  | 0 => exact e1
  | 1 => exact e1
  | n + 2 => exact e1
end
section
/-! reading and writing the typed memory -/
def zl_fI (o c k : Nat) : Bool := match zl o with
  | .inl (cj, rs) => Nat.beq cj c && (match rs[k]? with
    | some none => true
    | _ => false)
  | _ => false
def zl_fR (o c k : Nat) : Option Nat := match zl o with
  | .inl (cj, rs) => if cj = c then (match rs[k]? with
    | some (some r) => some r
    | _ => none) else none
  | _ => none
def zl_is (o c : Nat) : Bool := match zl o with
  | .inl (cj, _) => Nat.beq cj c
  | _ => false
def zl_aI (o : Nat) : Option Nat := match zl o with
  | .inr (0, n, _) => some n
  | _ => none
def zl_aL (o : Nat) : Option Nat := match zl o with
  | .inr (1, n, _) => some n
  | _ => none
def zl_aZ (o : Nat) : Option Nat := match zl o with
  | .inr (2, n, _) => some n
  | _ => none
def zl_aR (o : Nat) : Option (Nat × List Nat) := match zl o with
  | .inr (3, n, rs) => some (n, rs)
  | _ => none
def zl_ln (o : Nat) : Option Nat := match zl o with
  | .inr (_, n, _) => some n
  | _ => none
theorem zl_len : zl_t.length = 110 := by decide +kernel
theorem zl_big {o : Nat} (h : 110 ≤ o) : zl o = .inl (99, []) := by
  unfold zl
  rw [List.getElem?_eq_none (by rw [zl_len]; exact h)]
theorem zl_ltI {o : Nat} {k : zl_K} (h : zl o = k) (hk : k ≠ .inl (99, [])) : o < 110 := by
  rcases Nat.lt_or_ge o 110 with h1 | h1
  · exact h1
  · exact absurd (h.symm.trans (zl_big h1)) hk
theorem zl_szs : (zl_t.all fun k => match k with
  | .inr (c, n, _) => Nat.ble n 5040 && Nat.ble c 3
  | _ => true) = true := by decide +kernel
theorem zl_sz {o c n : Nat} {rs : List Nat} (h : zl o = .inr (c, n, rs)) : n ≤ 5040 := by
  have ho := zl_ltI h (by intro z; cases z)
  unfold zl at h
  split at h
  · rename_i k hk
    have h1 := List.all_eq_true.mp zl_szs k (List.mem_of_getElem? hk)
    rw [h] at h1
    simp only [Bool.and_eq_true] at h1
    exact Nat.le_of_ble_eq_true h1.1
  · cases h
theorem zx_ix {k n : Nat} (h : k < n) (hn : n ≤ 5040) : zm_ix (nI k) n = some k := by
  unfold zm_ix
  have h1 : k < 2 ^ 31 := by omega
  rw [if_neg (nI_pos h1), nI_clamp h1, if_pos h]
theorem zl_f_get (f : Nat → Int32) : ∀ (rs : List (Option Nat)) (i k : Nat), (zl_f f i rs)[k]? = match rs[k]? with
    | some none => some (.int (f (i + k)))
    | some (some r) => some (.ref r)
    | none => none
  | [], i, k => by simp [zl_f]
  | none :: rs, i, 0 => by simp [zl_f]
  | some r :: rs, i, 0 => by simp [zl_f]
  | none :: rs, i, k + 1 => by
    simp only [zl_f, List.getElem?_cons_succ]
    rw [zl_f_get f rs (i + 1) k, show i + 1 + k = i + (k + 1) by omega]
  | some r :: rs, i, k + 1 => by
    simp only [zl_f, List.getElem?_cons_succ]
    rw [zl_f_get f rs (i + 1) k, show i + 1 + k = i + (k + 1) by omega]
theorem zl_f_len (f : Nat → Int32) : ∀ (rs : List (Option Nat)) (i : Nat), (zl_f f i rs).length = rs.length
  | [], i => rfl
  | none :: rs, i => by simp [zl_f, zl_f_len f rs]
  | some r :: rs, i => by simp [zl_f, zl_f_len f rs]
theorem zl_f_low {f g : Nat → Int32} : ∀ (rs : List (Option Nat)) (i : Nat), (∀ j, i ≤ j → f j = g j) → zl_f f i rs = zl_f g i rs
  | [], i, h => rfl
  | none :: rs, i, h => by simp only [zl_f]; rw [h i (Nat.le_refl _), zl_f_low rs (i + 1) (fun j hj => h j (by omega))]
  | some r :: rs, i, h => by simp only [zl_f]; rw [zl_f_low rs (i + 1) (fun j hj => h j (by omega))]
theorem zl_f_set (f : Nat → Int32) (v : Int32) : ∀ (rs : List (Option Nat)) (i k : Nat), rs[k]? = some none → (zl_f f i rs).set k (.int v) = zl_f (upd f (i + k) v) i rs
  | [], i, k, h => by simp at h
  | none :: rs, i, 0, h => by
    simp only [zl_f, List.set_cons_zero, Nat.add_zero]
    rw [pk_us, zl_f_low (f := f) (g := upd f i v) rs (i + 1) (fun j hj => (pk_un (by omega)).symm)]
  | some r :: rs, i, 0, h => by simp at h
  | none :: rs, i, k + 1, h => by
    simp only [zl_f, List.set_cons_succ]
    rw [zl_f_set f v rs (i + 1) k (by simpa using h), pk_un (by omega), show i + 1 + k = i + (k + 1) by omega]
  | some r :: rs, i, k + 1, h => by
    simp only [zl_f, List.set_cons_succ]
    rw [zl_f_set f v rs (i + 1) k (by simpa using h), show i + 1 + k = i + (k + 1) by omega]
section ZV
variable {s : zv_S} {h : zm_H} {o c k n : Nat}
theorem zr_gI (hr : zv_rep s h) (hk : zl_fI o c k = true) : zm_gI h o c k = some (s.1 o k) := by
  unfold zl_fI at hk
  split at hk
  · rename_i cj rs hz
    rw [Bool.and_eq_true] at hk
    have hc := Nat.eq_of_beq_eq_true hk.1
    subst hc
    have ho : o < 110 := zl_ltI hz (by
      intro z
      cases z
      have := hk.2
      simp at this)
    have h1 := hr.2.2.2 o ho
    rw [hz] at h1
    have h2 : h.2.1 o = .inr (cj, zl_f (s.1 o) 0 rs) := h1
    unfold zm_gI
    rw [h2]
    dsimp only
    rw [if_pos rfl, zl_f_get]
    split at hk
    · rename_i e
      rw [e]
      simp
    · cases hk.2
  · cases hk
theorem zr_gR {r : Nat} (hr : zv_rep s h) (hk : zl_fR o c k = some r) : zm_gR h o c k = some r := by
  unfold zl_fR at hk
  split at hk
  · rename_i cj rs hz
    split at hk
    · rename_i hc
      subst hc
      split at hk
      · rename_i r0 e
        cases hk
        have ho : o < 110 := zl_ltI hz (by
          intro z
          cases z
          simp at e)
        have h1 := hr.2.2.2 o ho
        rw [hz] at h1
        have h2 : h.2.1 o = .inr (cj, zl_f (s.1 o) 0 rs) := h1
        unfold zm_gR
        rw [h2]
        dsimp only
        rw [if_pos rfl, zl_f_get, e]
      · cases hk
    · cases hk
  · cases hk
theorem zr_is (hr : zv_rep s h) (ho : o < 110) (hk : zl_is o c = true) : zm_is h o c = true := by
  unfold zl_is at hk
  split at hk
  · rename_i cj rs hz
    have h1 := hr.2.2.2 o ho
    rw [hz] at h1
    have h2 : h.2.1 o = .inr (cj, zl_f (s.1 o) 0 rs) := h1
    unfold zm_is
    rw [h2]
    exact hk
  · cases hk
theorem zr_aI (hr : zv_rep s h) (ho : zl_aI o = some n) (hk : k < n) : zm_aI h o (nI k) = some (s.1 o k) := by
  unfold zl_aI at ho
  split at ho
  · rename_i n0 rs hz
    cases ho
    have h1 := hr.2.2.2 o (zl_ltI hz (by intro z; cases z))
    rw [hz] at h1
    have h2 : h.2.1 o = .inl (.int, n, .inl (s.1 o)) := h1
    unfold zm_aI
    rw [h2]
    dsimp only
    rw [zx_ix hk (zl_sz hz)]
    rfl
  · cases ho
theorem zr_aZ (hr : zv_rep s h) (ho : zl_aZ o = some n) (hk : k < n) : zm_aZ h o (nI k) = some (s.1 o k) := by
  unfold zl_aZ at ho
  split at ho
  · rename_i n0 rs hz
    cases ho
    have h1 := hr.2.2.2 o (zl_ltI hz (by intro z; cases z))
    rw [hz] at h1
    have h2 : h.2.1 o = .inl (.boolean, n, .inl (s.1 o)) := h1
    unfold zm_aZ
    rw [h2]
    dsimp only
    rw [zx_ix hk (zl_sz hz)]
    rfl
  · cases ho
theorem zr_aL (hr : zv_rep s h) (ho : zl_aL o = some n) (hk : k < n) : zm_aL h o (nI k) = some (s.2.1 o k) := by
  unfold zl_aL at ho
  split at ho
  · rename_i n0 rs hz
    cases ho
    have h1 := hr.2.2.2 o (zl_ltI hz (by intro z; cases z))
    rw [hz] at h1
    have h2 : h.2.1 o = .inl (.long, n, .inr (.inl (s.2.1 o))) := h1
    unfold zm_aL
    rw [h2]
    dsimp only
    rw [zx_ix hk (zl_sz hz)]
    rfl
  · cases ho
theorem zr_aR {rs : List Nat} {r : Nat} (hr : zv_rep s h) (ho : zl_aR o = some (n, rs)) (hk : k < n) (hx : rs[k]? = some r) : zm_aR h o (nI k) = some r := by
  unfold zl_aR at ho
  split at ho
  · rename_i n0 rs0 hz
    cases ho
    have h1 := hr.2.2.2 o (zl_ltI hz (by intro z; cases z))
    rw [hz] at h1
    obtain ⟨p, h2, h3⟩ : ∃ p, h.2.1 o = .inl (.object RX1, n, .inr (.inr p)) ∧ ∀ i, i < n → p i = rs[i]? := h1
    unfold zm_aR
    rw [h2]
    dsimp only
    rw [zx_ix hk (zl_sz hz)]
    show p k = some r
    rw [h3 k hk, hx]
  · cases ho
theorem zr_ln (hr : zv_rep s h) (ho : zl_ln o = some n) : zm_ln h o = some n := by
  unfold zl_ln at ho
  split at ho
  · rename_i c0 n0 rs hz
    cases ho
    have h1 := hr.2.2.2 o (zl_ltI hz (by intro z; cases z))
    rw [hz] at h1
    have hc : c0 ≤ 3 := by
      unfold zl at hz
      split at hz
      · rename_i k hk
        have h1 := List.all_eq_true.mp zl_szs k (List.mem_of_getElem? hk)
        rw [hz] at h1
        simp only [Bool.and_eq_true] at h1
        exact Nat.le_of_ble_eq_true h1.2
      · cases hz
    match c0, hc, h1 with
    | 0, _, h1 =>
      have h2 : h.2.1 o = .inl (.int, n, .inl (s.1 o)) := h1
      unfold zm_ln
      rw [h2]
    | 1, _, h1 =>
      have h2 : h.2.1 o = .inl (.long, n, .inr (.inl (s.2.1 o))) := h1
      unfold zm_ln
      rw [h2]
    | 2, _, h1 =>
      have h2 : h.2.1 o = .inl (.boolean, n, .inl (s.1 o)) := h1
      unfold zm_ln
      rw [h2]
    | 3, _, h1 =>
      obtain ⟨p, h2, h3⟩ : ∃ p, h.2.1 o = .inl (.object RX1, n, .inr (.inr p)) ∧ ∀ i, i < n → p i = rs[i]? := h1
      unfold zm_ln
      rw [h2]
    | n + 4, h9, _ => omega
  · cases ho
/-- cell o holds f -/
def sF (s : zv_S) (o : Nat) (f : Nat → Int32) : zv_S := (fun a => if a = o then f else s.1 a, s.2)
def sI (s : zv_S) (o k : Nat) (v : Int32) : zv_S := sF s o (upd (s.1 o) k v)
def sG (s : zv_S) (o : Nat) (g : Nat → Int64) : zv_S := (s.1, fun a => if a = o then g else s.2.1 a, s.2.2)
def sL (s : zv_S) (o k : Nat) (v : Int64) : zv_S := sG s o (vp_updL (s.2.1 o) k v)
theorem zw_F {f : Nat → Int32} {c1 : zm_C} (hr : zv_rep s h) (hc : zl_c (zl o) f (s.2.1 o) c1) : zv_rep (sF s o f) (zm_u h o c1) := by
  obtain ⟨h1, h2, h3, h4⟩ := hr
  refine ⟨h1, h2, h3, fun a ha => ?_⟩
  show zl_c (zl a) (if a = o then f else s.1 a) (s.2.1 a) (if a = o then c1 else h.2.1 a)
  by_cases e : a = o
  · subst e
    rw [if_pos rfl, if_pos rfl]
    exact hc
  · rw [if_neg e, if_neg e]
    exact h4 a ha
theorem zw_G {g : Nat → Int64} {c1 : zm_C} (hr : zv_rep s h) (hc : zl_c (zl o) (s.1 o) g c1) : zv_rep (sG s o g) (zm_u h o c1) := by
  obtain ⟨h1, h2, h3, h4⟩ := hr
  refine ⟨h1, h2, h3, fun a ha => ?_⟩
  show zl_c (zl a) (s.1 a) (if a = o then g else s.2.1 a) (if a = o then c1 else h.2.1 a)
  by_cases e : a = o
  · subst e
    rw [if_pos rfl, if_pos rfl]
    exact hc
  · rw [if_neg e, if_neg e]
    exact h4 a ha
theorem zw_pt {v : Int32} (hr : zv_rep s h) (hk : zl_fI o c k = true) : ∃ h', zm_pt h o c k (.int v) = some h' ∧ zv_rep (sI s o k v) h' := by
  unfold zl_fI at hk
  split at hk
  · rename_i cj rs hz
    rw [Bool.and_eq_true] at hk
    have hc := Nat.eq_of_beq_eq_true hk.1
    subst hc
    have ho : o < 110 := zl_ltI hz (by
      intro z
      cases z
      have := hk.2
      simp at this)
    have h1 := hr.2.2.2 o ho
    rw [hz] at h1
    have h2 : h.2.1 o = .inr (cj, zl_f (s.1 o) 0 rs) := h1
    have hk2 : rs[k]? = some none := by
      have := hk.2
      split at this
      · assumption
      · cases this
    have hlt := (List.getElem?_eq_some_iff.mp hk2).1
    unfold zm_pt
    rw [h2]
    dsimp only
    rw [if_pos rfl, zl_f_len, if_pos hlt, zl_f_set _ _ _ _ _ hk2, Nat.zero_add]
    refine ⟨_, rfl, zw_F hr ?_⟩
    rw [hz]
    rfl
  · cases hk
theorem zw_sI {v : Int32} (hr : zv_rep s h) (ho : zl_aI o = some n) (hk : k < n) : ∃ h', zm_sI h o (nI k) v = some h' ∧ zv_rep (sI s o k v) h' := by
  unfold zl_aI at ho
  split at ho
  · rename_i n0 rs hz
    cases ho
    have h1 := hr.2.2.2 o (zl_ltI hz (by intro z; cases z))
    rw [hz] at h1
    have h2 : h.2.1 o = .inl (.int, n, .inl (s.1 o)) := h1
    unfold zm_sI
    rw [h2]
    dsimp only
    rw [zx_ix hk (zl_sz hz)]
    refine ⟨_, rfl, zw_F hr ?_⟩
    rw [hz]
    rfl
  · cases ho
theorem zw_sZ {v : Int32} (hr : zv_rep s h) (ho : zl_aZ o = some n) (hk : k < n) : ∃ h', zm_sZ h o (nI k) v = some h' ∧ zv_rep (sI s o k (vp_nar .boolean v)) h' := by
  unfold zl_aZ at ho
  split at ho
  · rename_i n0 rs hz
    cases ho
    have h1 := hr.2.2.2 o (zl_ltI hz (by intro z; cases z))
    rw [hz] at h1
    have h2 : h.2.1 o = .inl (.boolean, n, .inl (s.1 o)) := h1
    unfold zm_sZ
    rw [h2]
    dsimp only
    rw [zx_ix hk (zl_sz hz)]
    refine ⟨_, rfl, zw_F hr ?_⟩
    rw [hz]
    rfl
  · cases ho
theorem zw_sL {v : Int64} (hr : zv_rep s h) (ho : zl_aL o = some n) (hk : k < n) : ∃ h', zm_sL h o (nI k) v = some h' ∧ zv_rep (sL s o k v) h' := by
  unfold zl_aL at ho
  split at ho
  · rename_i n0 rs hz
    cases ho
    have h1 := hr.2.2.2 o (zl_ltI hz (by intro z; cases z))
    rw [hz] at h1
    have h2 : h.2.1 o = .inl (.long, n, .inr (.inl (s.2.1 o))) := h1
    unfold zm_sL
    rw [h2]
    dsimp only
    rw [zx_ix hk (zl_sz hz)]
    refine ⟨_, rfl, zw_G hr ?_⟩
    rw [hz]
    rfl
  · cases ho
theorem zl_aIc {f : Nat → Int32} (ho : zl_aI o = some n) (hr : zv_rep s h) : h.2.1 o = .inl (.int, n, .inl (s.1 o)) ∧ zl_c (zl o) f (s.2.1 o) (.inl (.int, n, .inl f)) := by
  unfold zl_aI at ho
  split at ho
  · rename_i n0 rs hz
    cases ho
    have h1 := hr.2.2.2 o (zl_ltI hz (by intro z; cases z))
    rw [hz] at h1
    refine ⟨h1, ?_⟩
    rw [hz]
    rfl
  · cases ho
theorem zw_cp {o1 n1 a b e : Nat} (hr : zv_rep s h) (h1 : zl_aI o1 = some n1) (ho : zl_aI o = some n) (ha : a + e ≤ n1) (hb : b + e ≤ n) (hn1 : n1 ≤ 5040) (hn : n ≤ 5040) : ∃ h', zm_cp h o1 (nI a) o (nI b) (nI e) = some h' ∧ zv_rep (sF s o (va_cpy (s.1 o1) (s.1 o) a b e)) h' := by
  obtain ⟨e1, -⟩ := zl_aIc (f := s.1 o1) h1 hr
  obtain ⟨e2, e3⟩ := zl_aIc (f := va_cpy (s.1 o1) (s.1 o) a b e) ho hr
  unfold zm_cp
  rw [e1, e2]
  dsimp only
  have a1 : a < 2 ^ 31 := by omega
  have b1 : b < 2 ^ 31 := by omega
  have c1 : e < 2 ^ 31 := by omega
  rw [if_neg (by rintro (h | h | h); exact nI_pos a1 h; exact nI_pos b1 h; exact nI_pos c1 h), nI_clamp a1, nI_clamp b1, nI_clamp c1, if_pos ⟨ha, hb⟩]
  exact ⟨_, rfl, zw_F hr e3⟩
end ZV
end
