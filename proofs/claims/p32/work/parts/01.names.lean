-- ===== PART A: goes FIRST, ahead of the names: the tables' words, and 'selects' of the private methods out of them =====
/-- a private method of a class that the tables say can be made, by its rows of tables_1 -/
def lw_okq (q : MethodName × Nat) : Prop := (q.1.cls ≠ "java/lang/invoke/MethodHandle" ∧ q.1.cls ≠ "java/lang/invoke/VarHandle") ∧ Cond.instantiable q.1.cls q.2 ∈ tables_1 ∧ Cond.privateMethod q.1 ∈ tables_1 ∧ Cond.instanceMethod q.1 ∈ tables_1
theorem lw_p0 : lw_okq (⟨"TradeRings", "presentTrading", "()LTradeRings$Trading;"⟩, 11) := ⟨⟨by decide +kernel, by decide +kernel⟩, List.mem_of_getElem? (i := 21) (by decide +kernel), List.mem_of_getElem? (i := 278) (by decide +kernel), List.mem_of_getElem? (i := 279) (by decide +kernel)⟩
theorem lw_p1 : lw_okq (⟨"TradeRings$Trading", "forget", "()V"⟩, 9) := ⟨⟨by decide +kernel, by decide +kernel⟩, List.mem_of_getElem? (i := 103) (by decide +kernel), List.mem_of_getElem? (i := 287) (by decide +kernel), List.mem_of_getElem? (i := 288) (by decide +kernel)⟩
theorem lw_p2 : lw_okq (⟨"TradeRings$Trading", "point", "(LTradeRings$Market;I)V"⟩, 9) := ⟨⟨by decide +kernel, by decide +kernel⟩, List.mem_of_getElem? (i := 103) (by decide +kernel), List.mem_of_getElem? (i := 294) (by decide +kernel), List.mem_of_getElem? (i := 295) (by decide +kernel)⟩
theorem lw_p3 : lw_okq (⟨"TradeRings$Trading", "closeRings", "(LTradeRings$Market;I)I"⟩, 9) := ⟨⟨by decide +kernel, by decide +kernel⟩, List.mem_of_getElem? (i := 103) (by decide +kernel), List.mem_of_getElem? (i := 306) (by decide +kernel), List.mem_of_getElem? (i := 307) (by decide +kernel)⟩
theorem lw_p4 : lw_okq (⟨"TradeRings$Trading", "ringThrough", "(I)I"⟩, 9) := ⟨⟨by decide +kernel, by decide +kernel⟩, List.mem_of_getElem? (i := 103) (by decide +kernel), List.mem_of_getElem? (i := 310) (by decide +kernel), List.mem_of_getElem? (i := 311) (by decide +kernel)⟩
theorem lw_p5 : lw_okq (⟨"TradeRings$Trading", "addRing", "(LTradeRings$Market;I)V"⟩, 9) := ⟨⟨by decide +kernel, by decide +kernel⟩, List.mem_of_getElem? (i := 103) (by decide +kernel), List.mem_of_getElem? (i := 315) (by decide +kernel), List.mem_of_getElem? (i := 316) (by decide +kernel)⟩
theorem lw_p6 : lw_okq (⟨"java/lang/Throwable", "fillInStackTrace", "(I)Ljava/lang/Throwable;"⟩, 6) := ⟨⟨by decide +kernel, by decide +kernel⟩, List.mem_of_getElem? (i := 374) (by decide +kernel), List.mem_of_getElem? (i := 372) (by decide +kernel), List.mem_of_getElem? (i := 373) (by decide +kernel)⟩
theorem lw_p7 : lw_okq (⟨"TradeRings", "needTrader", "(I)V"⟩, 11) := ⟨⟨by decide +kernel, by decide +kernel⟩, List.mem_of_getElem? (i := 21) (by decide +kernel), List.mem_of_getElem? (i := 455) (by decide +kernel), List.mem_of_getElem? (i := 456) (by decide +kernel)⟩
theorem lw_p8 : lw_okq (⟨"TradeRings", "needThing", "(I)V"⟩, 11) := ⟨⟨by decide +kernel, by decide +kernel⟩, List.mem_of_getElem? (i := 21) (by decide +kernel), List.mem_of_getElem? (i := 479) (by decide +kernel), List.mem_of_getElem? (i := 480) (by decide +kernel)⟩
theorem lw_p9 : lw_okq (⟨"TradeRings$Sharing", "noteLikings", "(LTradeRings$Market;)V"⟩, 6) := ⟨⟨by decide +kernel, by decide +kernel⟩, List.mem_of_getElem? (i := 146) (by decide +kernel), List.mem_of_getElem? (i := 524) (by decide +kernel), List.mem_of_getElem? (i := 525) (by decide +kernel)⟩
theorem lw_p10 : lw_okq (⟨"TradeRings$Sharing", "couldDoBetter", "(LTradeRings$Market;IZ)Z"⟩, 6) := ⟨⟨by decide +kernel, by decide +kernel⟩, List.mem_of_getElem? (i := 146) (by decide +kernel), List.mem_of_getElem? (i := 533) (by decide +kernel), List.mem_of_getElem? (i := 534) (by decide +kernel)⟩
theorem lw_p11 : lw_okq (⟨"TradeRings$Sharing", "lineUp", "(LTradeRings$Market;I)V"⟩, 6) := ⟨⟨by decide +kernel, by decide +kernel⟩, List.mem_of_getElem? (i := 146) (by decide +kernel), List.mem_of_getElem? (i := 537) (by decide +kernel), List.mem_of_getElem? (i := 538) (by decide +kernel)⟩
theorem lw_p12 : lw_okq (⟨"TradeRings$Sharing", "countWays", "(I[I)I"⟩, 6) := ⟨⟨by decide +kernel, by decide +kernel⟩, List.mem_of_getElem? (i := 146) (by decide +kernel), List.mem_of_getElem? (i := 542) (by decide +kernel), List.mem_of_getElem? (i := 543) (by decide +kernel)⟩
theorem lw_p13 : lw_okq (⟨"TradeRings$Sharing", "spread", "(III)V"⟩, 6) := ⟨⟨by decide +kernel, by decide +kernel⟩, List.mem_of_getElem? (i := 146) (by decide +kernel), List.mem_of_getElem? (i := 547) (by decide +kernel), List.mem_of_getElem? (i := 548) (by decide +kernel)⟩
theorem lw_p14 : lw_okq (⟨"TradeRings$Sharing", "bestThing", "(LTradeRings$Market;III)I"⟩, 6) := ⟨⟨by decide +kernel, by decide +kernel⟩, List.mem_of_getElem? (i := 146) (by decide +kernel), List.mem_of_getElem? (i := 564) (by decide +kernel), List.mem_of_getElem? (i := 565) (by decide +kernel)⟩
theorem lw_p15 : lw_okq (⟨"TradeRings$Sharing", "sumWith", "(LTradeRings$Market;III)I"⟩, 6) := ⟨⟨by decide +kernel, by decide +kernel⟩, List.mem_of_getElem? (i := 146) (by decide +kernel), List.mem_of_getElem? (i := 568) (by decide +kernel), List.mem_of_getElem? (i := 569) (by decide +kernel)⟩
def lw_privs_1 : List (MethodName × Nat) := [(⟨"TradeRings", "presentTrading", "()LTradeRings$Trading;"⟩, 11), (⟨"TradeRings$Trading", "forget", "()V"⟩, 9), (⟨"TradeRings$Trading", "point", "(LTradeRings$Market;I)V"⟩, 9), (⟨"TradeRings$Trading", "closeRings", "(LTradeRings$Market;I)I"⟩, 9), (⟨"TradeRings$Trading", "ringThrough", "(I)I"⟩, 9), (⟨"TradeRings$Trading", "addRing", "(LTradeRings$Market;I)V"⟩, 9), (⟨"java/lang/Throwable", "fillInStackTrace", "(I)Ljava/lang/Throwable;"⟩, 6), (⟨"TradeRings", "needTrader", "(I)V"⟩, 11), (⟨"TradeRings", "needThing", "(I)V"⟩, 11), (⟨"TradeRings$Sharing", "noteLikings", "(LTradeRings$Market;)V"⟩, 6), (⟨"TradeRings$Sharing", "couldDoBetter", "(LTradeRings$Market;IZ)Z"⟩, 6), (⟨"TradeRings$Sharing", "lineUp", "(LTradeRings$Market;I)V"⟩, 6), (⟨"TradeRings$Sharing", "countWays", "(I[I)I"⟩, 6), (⟨"TradeRings$Sharing", "spread", "(III)V"⟩, 6), (⟨"TradeRings$Sharing", "bestThing", "(LTradeRings$Market;III)I"⟩, 6), (⟨"TradeRings$Sharing", "sumWith", "(LTradeRings$Market;III)I"⟩, 6)]
theorem lw_r1 : ∀ q ∈ lw_privs_1, lw_okq q := List.forall_mem_cons.mpr ⟨lw_p0, List.forall_mem_cons.mpr ⟨lw_p1, List.forall_mem_cons.mpr ⟨lw_p2, List.forall_mem_cons.mpr ⟨lw_p3, List.forall_mem_cons.mpr ⟨lw_p4, List.forall_mem_cons.mpr ⟨lw_p5, List.forall_mem_cons.mpr ⟨lw_p6, List.forall_mem_cons.mpr ⟨lw_p7, List.forall_mem_cons.mpr ⟨lw_p8, List.forall_mem_cons.mpr ⟨lw_p9, List.forall_mem_cons.mpr ⟨lw_p10, List.forall_mem_cons.mpr ⟨lw_p11, List.forall_mem_cons.mpr ⟨lw_p12, List.forall_mem_cons.mpr ⟨lw_p13, List.forall_mem_cons.mpr ⟨lw_p14, List.forall_mem_cons.mpr ⟨lw_p15, fun _ h => absurd h List.not_mem_nil⟩⟩⟩⟩⟩⟩⟩⟩⟩⟩⟩⟩⟩⟩⟩⟩
theorem lw_p16 : lw_okq (⟨"TradeRings", "neededSlot", "(I)LTradeRings$Slot;"⟩, 11) := ⟨⟨by decide +kernel, by decide +kernel⟩, List.mem_of_getElem? (i := 21) (by decide +kernel), List.mem_of_getElem? (i := 585) (by decide +kernel), List.mem_of_getElem? (i := 586) (by decide +kernel)⟩
theorem lw_p17 : lw_okq (⟨"TradeRings$Search", "meet", "(LTradeRings$Market;I)V"⟩, 3) := ⟨⟨by decide +kernel, by decide +kernel⟩, List.mem_of_getElem? (i := 171) (by decide +kernel), List.mem_of_getElem? (i := 704) (by decide +kernel), List.mem_of_getElem? (i := 705) (by decide +kernel)⟩
theorem lw_p18 : lw_okq (⟨"TradeRings$Search", "exchangeAll", "(LTradeRings$Market;III)Z"⟩, 3) := ⟨⟨by decide +kernel, by decide +kernel⟩, List.mem_of_getElem? (i := 171) (by decide +kernel), List.mem_of_getElem? (i := 721) (by decide +kernel), List.mem_of_getElem? (i := 722) (by decide +kernel)⟩
def lw_privs_2 : List (MethodName × Nat) := [(⟨"TradeRings", "neededSlot", "(I)LTradeRings$Slot;"⟩, 11), (⟨"TradeRings$Search", "meet", "(LTradeRings$Market;I)V"⟩, 3), (⟨"TradeRings$Search", "exchangeAll", "(LTradeRings$Market;III)Z"⟩, 3)]
theorem lw_r2 : ∀ q ∈ lw_privs_2, lw_okq q := List.forall_mem_cons.mpr ⟨lw_p16, List.forall_mem_cons.mpr ⟨lw_p17, List.forall_mem_cons.mpr ⟨lw_p18, fun _ h => absurd h List.not_mem_nil⟩⟩⟩
def lw_privs : List (MethodName × Nat) := lw_privs_1 ++ (lw_privs_2)
def lw_tbl : List Cond := k2_sels lw_privs ++ tables_1
theorem lw_privs_ok : ∀ q ∈ lw_privs, lw_okq q := by
  show ∀ q ∈ lw_privs_1 ++ (lw_privs_2), lw_okq q
  exact List.forall_mem_append.mpr ⟨lw_r1, lw_r2⟩
def RX0 : String := "TradeRings$History"
def TX0 : u_T := fun k => match k with
  | 0 => ("TradeRings$History", "states", "[LTradeRings$Market;", true)
  | 1 => ("TradeRings$History", "size", "I", false)
  | _ => ("TradeRings$History", "next", "I", false)
def tyX0 : Nat → FieldType := fun k => match k with
  | 0 => .array (.object "TradeRings$Market")
  | 1 => .int
  | _ => .int
abbrev wsX00 : List Cond := u_ws RX0 TX0 3
theorem nmX0 : ∀ a, a < 3 → ∀ b, b < 3 → a ≠ b → (TX0 a).2.1 ≠ (TX0 b).2.1 := by decide +kernel
theorem tyX0_ok : ∀ k, k < 3 → parseFieldDescriptor (TX0 k).2.2.1 = some (tyX0 k) := by decide +kernel
abbrev cX0_init : ByteArray := prog_2_method_1_code
def yX0_init : MethodName := ⟨RX0, "<init>", "()V"⟩
abbrev cX0_remembered : ByteArray := prog_2_method_2_code
def yX0_remembered : MethodName := ⟨RX0, "remembered", "()I"⟩
abbrev cX0_forgetAll : ByteArray := prog_2_method_3_code
def yX0_forgetAll : MethodName := ⟨RX0, "forgetAll", "()V"⟩
abbrev cX0_remember : ByteArray := prog_2_method_4_code
def yX0_remember : MethodName := ⟨RX0, "remember", "(LTradeRings$Market;)V"⟩
abbrev cX0_takeBack : ByteArray := prog_2_method_5_code
def yX0_takeBack : MethodName := ⟨RX0, "takeBack", "(LTradeRings$Market;)V"⟩
def RX1 : String := "TradeRings$Market"
def TX1 : u_T := fun k => match k with
  | 0 => ("TradeRings$Market", "count", "I", false)
  | 1 => ("TradeRings$Market", "left", "I", false)
  | 2 => ("TradeRings$Market", "ranks", "[I", true)
  | _ => ("TradeRings$Market", "holds", "[I", true)
def tyX1 : Nat → FieldType := fun k => match k with
  | 0 => .int
  | 1 => .int
  | 2 => .array .int
  | _ => .array .int
abbrev wsX10 : List Cond := u_ws RX1 TX1 4
theorem nmX1 : ∀ a, a < 4 → ∀ b, b < 4 → a ≠ b → (TX1 a).2.1 ≠ (TX1 b).2.1 := by decide +kernel
theorem tyX1_ok : ∀ k, k < 4 → parseFieldDescriptor (TX1 k).2.2.1 = some (tyX1 k) := by decide +kernel
abbrev cX1_init : ByteArray := prog_3_method_1_code
def yX1_init : MethodName := ⟨RX1, "<init>", "()V"⟩
abbrev cX1_become : ByteArray := prog_3_method_2_code
def yX1_become : MethodName := ⟨RX1, "become", "(LTradeRings$Market;)V"⟩
abbrev cX1_has : ByteArray := prog_3_method_3_code
def yX1_has : MethodName := ⟨RX1, "has", "(I)Z"⟩
abbrev cX1_everybody : ByteArray := prog_3_method_4_code
def yX1_everybody : MethodName := ⟨RX1, "everybody", "()I"⟩
abbrev cX1_present : ByteArray := prog_3_method_5_code
def yX1_present : MethodName := ⟨RX1, "present", "()I"⟩
abbrev cX1_isPresent : ByteArray := prog_3_method_6_code
def yX1_isPresent : MethodName := ⟨RX1, "isPresent", "(I)Z"⟩
abbrev cX1_presentCount : ByteArray := prog_3_method_7_code
def yX1_presentCount : MethodName := ⟨RX1, "presentCount", "()I"⟩
abbrev cX1_rankBy : ByteArray := prog_3_method_8_code
def yX1_rankBy : MethodName := ⟨RX1, "rankBy", "(II)I"⟩
abbrev cX1_rankOfHeld : ByteArray := prog_3_method_9_code
def yX1_rankOfHeld : MethodName := ⟨RX1, "rankOfHeld", "(I)I"⟩
abbrev cX1_putRank : ByteArray := prog_3_method_10_code
def yX1_putRank : MethodName := ⟨RX1, "putRank", "(III)V"⟩
abbrev cX1_lossBy : ByteArray := prog_3_method_11_code
def yX1_lossBy : MethodName := ⟨RX1, "lossBy", "(II)I"⟩
abbrev cX1_holderOf : ByteArray := prog_3_method_12_code
def yX1_holderOf : MethodName := ⟨RX1, "holderOf", "(I)I"⟩
abbrev cX1_thingsOf : ByteArray := prog_3_method_13_code
def yX1_thingsOf : MethodName := ⟨RX1, "thingsOf", "(I)I"⟩
abbrev cX1_ownersWithTheirThing : ByteArray := prog_3_method_14_code
def yX1_ownersWithTheirThing : MethodName := ⟨RX1, "ownersWithTheirThing", "()I"⟩
abbrev cX1_sumOfRanks : ByteArray := prog_3_method_15_code
def yX1_sumOfRanks : MethodName := ⟨RX1, "sumOfRanks", "()I"⟩
abbrev cX1_envies : ByteArray := prog_3_method_16_code
def yX1_envies : MethodName := ⟨RX1, "envies", "()I"⟩
abbrev cX1_reasonAgainst : ByteArray := prog_3_method_17_code
def yX1_reasonAgainst : MethodName := ⟨RX1, "reasonAgainst", "(II)I"⟩
abbrev cX1_swap : ByteArray := prog_3_method_18_code
def yX1_swap : MethodName := ⟨RX1, "swap", "(II)V"⟩
abbrev cX1_take : ByteArray := prog_3_method_19_code
def yX1_take : MethodName := ⟨RX1, "take", "(LTradeRings$Trading;I)I"⟩
abbrev cX1_sendAway : ByteArray := prog_3_method_20_code
def yX1_sendAway : MethodName := ⟨RX1, "sendAway", "(I)V"⟩
abbrev cX1_sendHome : ByteArray := prog_3_method_21_code
def yX1_sendHome : MethodName := ⟨RX1, "sendHome", "()I"⟩
abbrev cX1_addOne : ByteArray := prog_3_method_23_code
def yX1_addOne : MethodName := ⟨RX1, "addOne", "()I"⟩
def RX2 : String := "TradeRings$Script"
def TX2 : u_T := fun k => match k with
  | 0 => ("TradeRings$Script", "commands", "[I", true)
  | _ => ("TradeRings$Script", "length", "I", false)
def tyX2 : Nat → FieldType := fun k => match k with
  | 0 => .array .int
  | _ => .int
abbrev wsX20 : List Cond := u_ws RX2 TX2 2
theorem nmX2 : ∀ a, a < 2 → ∀ b, b < 2 → a ≠ b → (TX2 a).2.1 ≠ (TX2 b).2.1 := by decide +kernel
theorem tyX2_ok : ∀ k, k < 2 → parseFieldDescriptor (TX2 k).2.2.1 = some (tyX2 k) := by decide +kernel
abbrev cX2_init : ByteArray := prog_4_method_1_code
def yX2_init : MethodName := ⟨RX2, "<init>", "()V"⟩
def RX3 : String := "TradeRings$Search"
def TX3 : u_T := fun k => match k with
  | 0 => ("TradeRings$Search", "queue", "[I", true)
  | 1 => ("TradeRings$Search", "tail", "I", false)
  | _ => ("TradeRings$Search", "met", "[J", true)
def tyX3 : Nat → FieldType := fun k => match k with
  | 0 => .array .int
  | 1 => .int
  | _ => .array .long
abbrev wsX30 : List Cond := u_ws RX3 TX3 3
theorem nmX3 : ∀ a, a < 3 → ∀ b, b < 3 → a ≠ b → (TX3 a).2.1 ≠ (TX3 b).2.1 := by decide +kernel
theorem tyX3_ok : ∀ k, k < 3 → parseFieldDescriptor (TX3 k).2.2.1 = some (tyX3 k) := by decide +kernel
abbrev cX3_init : ByteArray := prog_5_method_1_code
def yX3_init : MethodName := ⟨RX3, "<init>", "()V"⟩
abbrev cX3_fewestExchanges : ByteArray := prog_5_method_2_code
def yX3_fewestExchanges : MethodName := ⟨RX3, "fewestExchanges", "(LTradeRings$Market;II)I"⟩
abbrev cX3_exchangeAll : ByteArray := prog_5_method_3_code
def yX3_exchangeAll : MethodName := ⟨RX3, "exchangeAll", "(LTradeRings$Market;III)Z"⟩
abbrev cX3_meet : ByteArray := prog_5_method_4_code
def yX3_meet : MethodName := ⟨RX3, "meet", "(LTradeRings$Market;I)V"⟩
abbrev cX3_numberOf : ByteArray := prog_5_method_5_code
def yX3_numberOf : MethodName := ⟨RX3, "numberOf", "(LTradeRings$Market;)I"⟩
abbrev cX3_pack : ByteArray := prog_5_method_6_code
def yX3_pack : MethodName := ⟨RX3, "pack", "(LTradeRings$Market;)I"⟩
abbrev cX3_unpack : ByteArray := prog_5_method_7_code
def yX3_unpack : MethodName := ⟨RX3, "unpack", "(ILTradeRings$Market;)V"⟩
def RX4 : String := "TradeRings$Sharing"
def TX4 : u_T := fun k => match k with
  | 0 => ("TradeRings$Sharing", "better", "[I", true)
  | 1 => ("TradeRings$Sharing", "alike", "[I", true)
  | 2 => ("TradeRings$Sharing", "notLess", "[I", true)
  | 3 => ("TradeRings$Sharing", "line", "[I", true)
  | 4 => ("TradeRings$Sharing", "inLine", "I", false)
  | _ => ("TradeRings$Sharing", "table", "[I", true)
def tyX4 : Nat → FieldType := fun k => match k with
  | 0 => .array .int
  | 1 => .array .int
  | 2 => .array .int
  | 3 => .array .int
  | 4 => .int
  | _ => .array .int
abbrev wsX40 : List Cond := u_ws RX4 TX4 6
theorem nmX4 : ∀ a, a < 6 → ∀ b, b < 6 → a ≠ b → (TX4 a).2.1 ≠ (TX4 b).2.1 := by decide +kernel
theorem tyX4_ok : ∀ k, k < 6 → parseFieldDescriptor (TX4 k).2.2.1 = some (tyX4 k) := by decide +kernel
abbrev cX4_init : ByteArray := prog_6_method_1_code
def yX4_init : MethodName := ⟨RX4, "<init>", "()V"⟩
abbrev cX4_smallestGroup : ByteArray := prog_6_method_2_code
def yX4_smallestGroup : MethodName := ⟨RX4, "smallestGroup", "(LTradeRings$Market;Z)I"⟩
abbrev cX4_countGroups : ByteArray := prog_6_method_3_code
def yX4_countGroups : MethodName := ⟨RX4, "countGroups", "(LTradeRings$Market;Z)I"⟩
abbrev cX4_couldDoBetter : ByteArray := prog_6_method_4_code
def yX4_couldDoBetter : MethodName := ⟨RX4, "couldDoBetter", "(LTradeRings$Market;IZ)Z"⟩
abbrev cX4_countBetterWays : ByteArray := prog_6_method_5_code
def yX4_countBetterWays : MethodName := ⟨RX4, "countBetterWays", "(LTradeRings$Market;)I"⟩
abbrev cX4_noteLikings : ByteArray := prog_6_method_6_code
def yX4_noteLikings : MethodName := ⟨RX4, "noteLikings", "(LTradeRings$Market;)V"⟩
abbrev cX4_lineUp : ByteArray := prog_6_method_7_code
def yX4_lineUp : MethodName := ⟨RX4, "lineUp", "(LTradeRings$Market;I)V"⟩
abbrev cX4_countWays : ByteArray := prog_6_method_8_code
def yX4_countWays : MethodName := ⟨RX4, "countWays", "(I[I)I"⟩
abbrev cX4_spread : ByteArray := prog_6_method_9_code
def yX4_spread : MethodName := ⟨RX4, "spread", "(III)V"⟩
abbrev cX4_leastSum : ByteArray := prog_6_method_10_code
def yX4_leastSum : MethodName := ⟨RX4, "leastSum", "(LTradeRings$Market;)I"⟩
abbrev cX4_thingAtLeast : ByteArray := prog_6_method_11_code
def yX4_thingAtLeast : MethodName := ⟨RX4, "thingAtLeast", "(LTradeRings$Market;I)I"⟩
abbrev cX4_bestThing : ByteArray := prog_6_method_12_code
def yX4_bestThing : MethodName := ⟨RX4, "bestThing", "(LTradeRings$Market;III)I"⟩
abbrev cX4_sumWith : ByteArray := prog_6_method_13_code
def yX4_sumWith : MethodName := ⟨RX4, "sumWith", "(LTradeRings$Market;III)I"⟩
def RX8 : String := "TradeRings$Slot"
def TX8 : u_T := fun k => match k with
  | 0 => ("TradeRings$Slot", "saved", "LTradeRings$Market;", true)
  | _ => ("TradeRings$Slot", "isFull", "Z", false)
def tyX8 : Nat → FieldType := fun k => match k with
  | 0 => .object "TradeRings$Market"
  | _ => .boolean
abbrev wsX50 : List Cond := u_ws RX8 TX8 2
theorem nmX8 : ∀ a, a < 2 → ∀ b, b < 2 → a ≠ b → (TX8 a).2.1 ≠ (TX8 b).2.1 := by decide +kernel
theorem tyX8_ok : ∀ k, k < 2 → parseFieldDescriptor (TX8 k).2.2.1 = some (tyX8 k) := by decide +kernel
abbrev cX8_init : ByteArray := prog_7_method_1_code
def yX8_init : MethodName := ⟨RX8, "<init>", "()V"⟩
def RX5 : String := "TradeRings$Text"
def TX5 : u_T := fun k => match k with
  | 0 => ("TradeRings$Text", "characters", "[I", true)
  | _ => ("TradeRings$Text", "length", "I", false)
def tyX5 : Nat → FieldType := fun k => match k with
  | 0 => .array .int
  | _ => .int
abbrev wsX60 : List Cond := u_ws RX5 TX5 2
theorem nmX5 : ∀ a, a < 2 → ∀ b, b < 2 → a ≠ b → (TX5 a).2.1 ≠ (TX5 b).2.1 := by decide +kernel
theorem tyX5_ok : ∀ k, k < 2 → parseFieldDescriptor (TX5 k).2.2.1 = some (tyX5 k) := by decide +kernel
abbrev cX5_init : ByteArray := prog_8_method_1_code
def yX5_init : MethodName := ⟨RX5, "<init>", "()V"⟩
def RX6 : String := "TradeRings$Trading"
def TX6 : u_T := fun k => match k with
  | 0 => ("TradeRings$Trading", "rings", "I", false)
  | 1 => ("TradeRings$Trading", "rounds", "I", false)
  | 2 => ("TradeRings$Trading", "gets", "[I", true)
  | 3 => ("TradeRings$Trading", "roundOf", "[I", true)
  | 4 => ("TradeRings$Trading", "ringOf", "[I", true)
  | 5 => ("TradeRings$Trading", "firstChoice", "[I", true)
  | 6 => ("TradeRings$Trading", "tradersOf", "[I", true)
  | 7 => ("TradeRings$Trading", "roundOfRing", "[I", true)
  | _ => ("TradeRings$Trading", "pointsAt", "[I", true)
def tyX6 : Nat → FieldType := fun k => match k with
  | 0 => .int
  | 1 => .int
  | 2 => .array .int
  | 3 => .array .int
  | 4 => .array .int
  | 5 => .array .int
  | 6 => .array .int
  | 7 => .array .int
  | _ => .array .int
abbrev wsX70 : List Cond := u_ws RX6 TX6 9
theorem nmX6 : ∀ a, a < 9 → ∀ b, b < 9 → a ≠ b → (TX6 a).2.1 ≠ (TX6 b).2.1 := by decide +kernel
theorem tyX6_ok : ∀ k, k < 9 → parseFieldDescriptor (TX6 k).2.2.1 = some (tyX6 k) := by decide +kernel
abbrev cX6_init : ByteArray := prog_9_method_1_code
def yX6_init : MethodName := ⟨RX6, "<init>", "()V"⟩
abbrev cX6_find : ByteArray := prog_9_method_2_code
def yX6_find : MethodName := ⟨RX6, "find", "(LTradeRings$Market;I)V"⟩
abbrev cX6_hasRing : ByteArray := prog_9_method_3_code
def yX6_hasRing : MethodName := ⟨RX6, "hasRing", "(I)Z"⟩
abbrev cX6_movers : ByteArray := prog_9_method_4_code
def yX6_movers : MethodName := ⟨RX6, "movers", "(LTradeRings$Market;)I"⟩
abbrev cX6_gainOf : ByteArray := prog_9_method_5_code
def yX6_gainOf : MethodName := ⟨RX6, "gainOf", "(LTradeRings$Market;I)I"⟩
abbrev cX6_forget : ByteArray := prog_9_method_6_code
def yX6_forget : MethodName := ⟨RX6, "forget", "()V"⟩
abbrev cX6_point : ByteArray := prog_9_method_7_code
def yX6_point : MethodName := ⟨RX6, "point", "(LTradeRings$Market;I)V"⟩
abbrev cX6_choice : ByteArray := prog_9_method_8_code
def yX6_choice : MethodName := ⟨RX6, "choice", "(LTradeRings$Market;II)I"⟩
abbrev cX6_closeRings : ByteArray := prog_9_method_9_code
def yX6_closeRings : MethodName := ⟨RX6, "closeRings", "(LTradeRings$Market;I)I"⟩
abbrev cX6_ringThrough : ByteArray := prog_9_method_10_code
def yX6_ringThrough : MethodName := ⟨RX6, "ringThrough", "(I)I"⟩
abbrev cX6_addRing : ByteArray := prog_9_method_11_code
def yX6_addRing : MethodName := ⟨RX6, "addRing", "(LTradeRings$Market;I)V"⟩
def RX7 : String := "TradeRings"
def TX7 : u_T := fun k => match k with
  | 0 => ("TradeRings", "text", "LTradeRings$Text;", true)
  | 1 => ("TradeRings", "market", "LTradeRings$Market;", true)
  | 2 => ("TradeRings", "history", "LTradeRings$History;", true)
  | 3 => ("TradeRings", "slotZero", "LTradeRings$Slot;", true)
  | 4 => ("TradeRings", "slotOne", "LTradeRings$Slot;", true)
  | 5 => ("TradeRings", "copy", "LTradeRings$Market;", true)
  | 6 => ("TradeRings", "trading", "LTradeRings$Trading;", true)
  | 7 => ("TradeRings", "tradingWithout", "LTradeRings$Trading;", true)
  | 8 => ("TradeRings", "sharing", "LTradeRings$Sharing;", true)
  | 9 => ("TradeRings", "search", "LTradeRings$Search;", true)
  | _ => ("TradeRings", "commands", "LTradeRings$Script;", true)
def tyX7 : Nat → FieldType := fun k => match k with
  | 0 => .object "TradeRings$Text"
  | 1 => .object "TradeRings$Market"
  | 2 => .object "TradeRings$History"
  | 3 => .object "TradeRings$Slot"
  | 4 => .object "TradeRings$Slot"
  | 5 => .object "TradeRings$Market"
  | 6 => .object "TradeRings$Trading"
  | 7 => .object "TradeRings$Trading"
  | 8 => .object "TradeRings$Sharing"
  | 9 => .object "TradeRings$Search"
  | _ => .object "TradeRings$Script"
abbrev wsX80 : List Cond := u_ws RX7 TX7 11
theorem nmX7 : ∀ a, a < 11 → ∀ b, b < 11 → a ≠ b → (TX7 a).2.1 ≠ (TX7 b).2.1 := by decide +kernel
theorem tyX7_ok : ∀ k, k < 11 → parseFieldDescriptor (TX7 k).2.2.1 = some (tyX7 k) := by decide +kernel
abbrev cX7_init : ByteArray := prog_1_method_1_code
def yX7_init : MethodName := ⟨RX7, "<init>", "()V"⟩
abbrev cX7_about : ByteArray := prog_1_method_6_code
def yX7_about : MethodName := ⟨RX7, "about", "(I)I"⟩
abbrev cX7_trader : ByteArray := prog_1_method_7_code
def yX7_trader : MethodName := ⟨RX7, "trader", "(II)I"⟩
abbrev cX7_rank : ByteArray := prog_1_method_8_code
def yX7_rank : MethodName := ⟨RX7, "rank", "(II)I"⟩
abbrev cX7_holder : ByteArray := prog_1_method_9_code
def yX7_holder : MethodName := ⟨RX7, "holder", "(I)I"⟩
abbrev cX7_ring : ByteArray := prog_1_method_10_code
def yX7_ring : MethodName := ⟨RX7, "ring", "(II)I"⟩
abbrev cX7_whyNot : ByteArray := prog_1_method_11_code
def yX7_whyNot : MethodName := ⟨RX7, "whyNot", "(II)I"⟩
abbrev cX7_addTrader : ByteArray := prog_1_method_12_code
def yX7_addTrader : MethodName := ⟨RX7, "addTrader", "()I"⟩
abbrev cX7_setRank : ByteArray := prog_1_method_13_code
def yX7_setRank : MethodName := ⟨RX7, "setRank", "(III)I"⟩
abbrev cX7_exchange : ByteArray := prog_1_method_14_code
def yX7_exchange : MethodName := ⟨RX7, "exchange", "(II)I"⟩
abbrev cX7_doRing : ByteArray := prog_1_method_15_code
def yX7_doRing : MethodName := ⟨RX7, "doRing", "(I)I"⟩
abbrev cX7_trade : ByteArray := prog_1_method_16_code
def yX7_trade : MethodName := ⟨RX7, "trade", "()I"⟩
abbrev cX7_leave : ByteArray := prog_1_method_17_code
def yX7_leave : MethodName := ⟨RX7, "leave", "(I)I"⟩
abbrev cX7_goHome : ByteArray := prog_1_method_18_code
def yX7_goHome : MethodName := ⟨RX7, "goHome", "()I"⟩
abbrev cX7_undo : ByteArray := prog_1_method_19_code
def yX7_undo : MethodName := ⟨RX7, "undo", "()I"⟩
abbrev cX7_group : ByteArray := prog_1_method_20_code
def yX7_group : MethodName := ⟨RX7, "group", "(Z)I"⟩
abbrev cX7_groups : ByteArray := prog_1_method_21_code
def yX7_groups : MethodName := ⟨RX7, "groups", "(Z)I"⟩
abbrev cX7_least : ByteArray := prog_1_method_22_code
def yX7_least : MethodName := ⟨RX7, "least", "()I"⟩
abbrev cX7_leastOf : ByteArray := prog_1_method_23_code
def yX7_leastOf : MethodName := ⟨RX7, "leastOf", "(I)I"⟩
abbrev cX7_betterWays : ByteArray := prog_1_method_24_code
def yX7_betterWays : MethodName := ⟨RX7, "betterWays", "()I"⟩
abbrev cX7_harms : ByteArray := prog_1_method_25_code
def yX7_harms : MethodName := ⟨RX7, "harms", "(I)I"⟩
abbrev cX7_fewest : ByteArray := prog_1_method_26_code
def yX7_fewest : MethodName := ⟨RX7, "fewest", "(II)I"⟩
abbrev cX7_save : ByteArray := prog_1_method_29_code
def yX7_save : MethodName := ⟨RX7, "save", "(I)I"⟩
abbrev cX7_restore : ByteArray := prog_1_method_30_code
def yX7_restore : MethodName := ⟨RX7, "restore", "(I)I"⟩
abbrev cX7_presentTrading : ByteArray := prog_1_method_31_code
def yX7_presentTrading : MethodName := ⟨RX7, "presentTrading", "()LTradeRings$Trading;"⟩
abbrev cX7_needTrader : ByteArray := prog_1_method_32_code
def yX7_needTrader : MethodName := ⟨RX7, "needTrader", "(I)V"⟩
abbrev cX7_needThing : ByteArray := prog_1_method_33_code
def yX7_needThing : MethodName := ⟨RX7, "needThing", "(I)V"⟩
abbrev cX7_neededSlot : ByteArray := prog_1_method_34_code
def yX7_neededSlot : MethodName := ⟨RX7, "neededSlot", "(I)LTradeRings$Slot;"⟩
abbrev cX7_needRing : ByteArray := prog_1_method_35_code
def yX7_needRing : MethodName := ⟨RX7, "needRing", "(LTradeRings$Trading;I)V"⟩
abbrev cX7_bit : ByteArray := prog_1_method_37_code
def yX7_bit : MethodName := ⟨RX7, "bit", "(I)I"⟩
abbrev cX7_contains : ByteArray := prog_1_method_38_code
def yX7_contains : MethodName := ⟨RX7, "contains", "(II)Z"⟩
abbrev cX7_at : ByteArray := prog_1_method_39_code
def yX7_at : MethodName := ⟨RX7, "at", "([II)I"⟩
abbrev cX7_put : ByteArray := prog_1_method_40_code
def yX7_put : MethodName := ⟨RX7, "put", "([III)V"⟩
abbrev cX7_copyRow : ByteArray := prog_1_method_41_code
def yX7_copyRow : MethodName := ⟨RX7, "copyRow", "([I[I)V"⟩
def RX9 : String := "TradeRingsModel"
def TX9 : u_T := fun k => match k with
  | _ => ("", "", "", false)
def tyX9 : Nat → FieldType := fun k => match k with
  | _ => .int
abbrev wsX90 : List Cond := u_ws RX9 TX9 0
theorem nmX9 : ∀ a, a < 0 → ∀ b, b < 0 → a ≠ b → (TX9 a).2.1 ≠ (TX9 b).2.1 := by decide +kernel
theorem tyX9_ok : ∀ k, k < 0 → parseFieldDescriptor (TX9 k).2.2.1 = some (tyX9 k) := by decide +kernel
def RJx145de : String := "java/io/Serializable"
def TJx145de : u_T := fun k => match k with
  | _ => ("", "", "", false)
def tyJx145de : Nat → FieldType := fun k => match k with
  | _ => .int
abbrev wsJx145de0 : List Cond := u_ws RJx145de TJx145de 0
theorem nmJx145de : ∀ a, a < 0 → ∀ b, b < 0 → a ≠ b → (TJx145de a).2.1 ≠ (TJx145de b).2.1 := by decide +kernel
theorem tyJx145de_ok : ∀ k, k < 0 → parseFieldDescriptor (TJx145de k).2.2.1 = some (tyJx145de k) := by decide +kernel
def RJ6 : String := "java/lang/Integer"
def TJ6 : u_T := fun k => match k with
  | _ => ("", "", "", false)
def tyJ6 : Nat → FieldType := fun k => match k with
  | _ => .int
abbrev wsJ60 : List Cond := u_ws RJ6 TJ6 0
theorem nmJ6 : ∀ a, a < 0 → ∀ b, b < 0 → a ≠ b → (TJ6 a).2.1 ≠ (TJ6 b).2.1 := by decide +kernel
theorem tyJ6_ok : ∀ k, k < 0 → parseFieldDescriptor (TJ6 k).2.2.1 = some (tyJ6 k) := by decide +kernel
abbrev cJ6_bitCount_0f7a4 : ByteArray := prog_16_method_49_code
def yJ6_bitCount_0f7a4 : MethodName := ⟨RJ6, "bitCount", "(I)I"⟩
def RJ9 : String := "java/lang/Math"
def TJ9 : u_T := fun k => match k with
  | _ => ("", "", "", false)
def tyJ9 : Nat → FieldType := fun k => match k with
  | _ => .int
abbrev wsJ90 : List Cond := u_ws RJ9 TJ9 0
theorem nmJ9 : ∀ a, a < 0 → ∀ b, b < 0 → a ≠ b → (TJ9 a).2.1 ≠ (TJ9 b).2.1 := by decide +kernel
theorem tyJ9_ok : ∀ k, k < 0 → parseFieldDescriptor (TJ9 k).2.2.1 = some (tyJ9 k) := by decide +kernel
abbrev cJ9_min_7cf53 : ByteArray := prog_17_method_69_code
def yJ9_min_7cf53 : MethodName := ⟨RJ9, "min", "(II)I"⟩
def RJ0 : String := "java/lang/String"
def TJ0 : u_T := fun k => match k with
  | _ => ("", "", "", false)
def tyJ0 : Nat → FieldType := fun k => match k with
  | _ => .int
abbrev wsJ00 : List Cond := u_ws RJ0 TJ0 0
theorem nmJ0 : ∀ a, a < 0 → ∀ b, b < 0 → a ≠ b → (TJ0 a).2.1 ≠ (TJ0 b).2.1 := by decide +kernel
theorem tyJ0_ok : ∀ k, k < 0 → parseFieldDescriptor (TJ0 k).2.2.1 = some (tyJ0 k) := by decide +kernel
def RJ10 : String := "java/lang/System"
def TJ10 : u_T := fun k => match k with
  | _ => ("", "", "", false)
def tyJ10 : Nat → FieldType := fun k => match k with
  | _ => .int
abbrev wsJ100 : List Cond := u_ws RJ10 TJ10 0
theorem nmJ10 : ∀ a, a < 0 → ∀ b, b < 0 → a ≠ b → (TJ10 a).2.1 ≠ (TJ10 b).2.1 := by decide +kernel
theorem tyJ10_ok : ∀ k, k < 0 → parseFieldDescriptor (TJ10 k).2.2.1 = some (tyJ10 k) := by decide +kernel
def RJ7 : String := "java/util/Arrays"
def TJ7 : u_T := fun k => match k with
  | _ => ("", "", "", false)
def tyJ7 : Nat → FieldType := fun k => match k with
  | _ => .int
abbrev wsJ70 : List Cond := u_ws RJ7 TJ7 0
theorem nmJ7 : ∀ a, a < 0 → ∀ b, b < 0 → a ≠ b → (TJ7 a).2.1 ≠ (TJ7 b).2.1 := by decide +kernel
theorem tyJ7_ok : ∀ k, k < 0 → parseFieldDescriptor (TJ7 k).2.2.1 = some (tyJ7 k) := by decide +kernel
abbrev cJ7_fill_d0a16 : ByteArray := prog_22_method_101_code
def yJ7_fill_d0a16 : MethodName := ⟨RJ7, "fill", "([JJ)V"⟩
def RL : String := "TradeRingsLaw"
abbrev cL_cell : ByteArray := method_2_code
def yL_cell : MethodName := ⟨RL, "cell", "([II)I"⟩
abbrev cL_ones : ByteArray := method_3_code
def yL_ones : MethodName := ⟨RL, "ones", "(I)I"⟩
abbrev cL_traders : ByteArray := method_4_code
def yL_traders : MethodName := ⟨RL, "traders", "(LTradeRings;)Z"⟩
abbrev cL_rings : ByteArray := method_5_code
def yL_rings : MethodName := ⟨RL, "rings", "(LTradeRings;)Z"⟩
abbrev cL_least : ByteArray := method_6_code
def yL_least : MethodName := ⟨RL, "least", "(LTradeRings;)Z"⟩
abbrev cL_acts : ByteArray := method_7_code
def yL_acts : MethodName := ⟨RL, "acts", "(LTradeRings;I)Z"⟩
abbrev cL_law : ByteArray := code
def yL_law : MethodName := ⟨RL, "law", "([I)Z"⟩
abbrev vwCl : List vw_C := [(RX0, TX0, 3), (RX1, TX1, 4), (RX2, TX2, 2), (RX3, TX3, 3), (RX4, TX4, 6), (RX5, TX5, 2), (RX6, TX6, 9), (RX7, TX7, 11), (RX8, TX8, 2)]
