section
-- ===== PART A: goes FIRST, ahead of the names: the tables' words, and 'selects' of the private methods out of them =====
/-- a private method of a class that the tables say can be made, by its rows of tables_1 -/
def lw_okq (q : MethodName × Nat) : Prop := (q.1.cls ≠ "java/lang/invoke/MethodHandle" ∧ q.1.cls ≠ "java/lang/invoke/VarHandle") ∧ Cond.instantiable q.1.cls q.2 ∈ tables_1 ∧ Cond.privateMethod q.1 ∈ tables_1 ∧ Cond.instanceMethod q.1 ∈ tables_1
theorem lw_p0 : lw_okq (⟨"SkeinMarket", "fillFloor", "()V"⟩, 10) := ⟨⟨by decide +kernel, by decide +kernel⟩, List.mem_of_getElem? (i := 31) (by decide +kernel), List.mem_of_getElem? (i := 206) (by decide +kernel), List.mem_of_getElem? (i := 207) (by decide +kernel)⟩
theorem lw_p1 : lw_okq (⟨"SkeinMarket$Floor", "clearAll", "()V"⟩, 14) := ⟨⟨by decide +kernel, by decide +kernel⟩, List.mem_of_getElem? (i := 65) (by decide +kernel), List.mem_of_getElem? (i := 210) (by decide +kernel), List.mem_of_getElem? (i := 211) (by decide +kernel)⟩
theorem lw_p2 : lw_okq (⟨"SkeinMarket$Floor", "addLot", "(II)V"⟩, 14) := ⟨⟨by decide +kernel, by decide +kernel⟩, List.mem_of_getElem? (i := 65) (by decide +kernel), List.mem_of_getElem? (i := 229) (by decide +kernel), List.mem_of_getElem? (i := 230) (by decide +kernel)⟩
theorem lw_p3 : lw_okq (⟨"SkeinMarket$Floor", "addBid", "(III)V"⟩, 14) := ⟨⟨by decide +kernel, by decide +kernel⟩, List.mem_of_getElem? (i := 65) (by decide +kernel), List.mem_of_getElem? (i := 234) (by decide +kernel), List.mem_of_getElem? (i := 235) (by decide +kernel)⟩
theorem lw_p4 : lw_okq (⟨"SkeinMarket", "addItemsToFloor", "(LSkeinMarket$Bid;)V"⟩, 10) := ⟨⟨by decide +kernel, by decide +kernel⟩, List.mem_of_getElem? (i := 31) (by decide +kernel), List.mem_of_getElem? (i := 238) (by decide +kernel), List.mem_of_getElem? (i := 239) (by decide +kernel)⟩
theorem lw_p5 : lw_okq (⟨"SkeinMarket", "fittingOnFloor", "(LSkeinMarket$Item;)I"⟩, 10) := ⟨⟨by decide +kernel, by decide +kernel⟩, List.mem_of_getElem? (i := 31) (by decide +kernel), List.mem_of_getElem? (i := 243) (by decide +kernel), List.mem_of_getElem? (i := 244) (by decide +kernel)⟩
theorem lw_p6 : lw_okq (⟨"SkeinMarket", "isLot", "(I)Z"⟩, 10) := ⟨⟨by decide +kernel, by decide +kernel⟩, List.mem_of_getElem? (i := 31) (by decide +kernel), List.mem_of_getElem? (i := 247) (by decide +kernel), List.mem_of_getElem? (i := 248) (by decide +kernel)⟩
theorem lw_p7 : lw_okq (⟨"SkeinMarket", "isFit", "(LSkeinMarket$Lot;LSkeinMarket$Item;)Z"⟩, 10) := ⟨⟨by decide +kernel, by decide +kernel⟩, List.mem_of_getElem? (i := 31) (by decide +kernel), List.mem_of_getElem? (i := 251) (by decide +kernel), List.mem_of_getElem? (i := 252) (by decide +kernel)⟩
theorem lw_p8 : lw_okq (⟨"SkeinMarket$Floor", "addItem", "(I)V"⟩, 14) := ⟨⟨by decide +kernel, by decide +kernel⟩, List.mem_of_getElem? (i := 65) (by decide +kernel), List.mem_of_getElem? (i := 256) (by decide +kernel), List.mem_of_getElem? (i := 257) (by decide +kernel)⟩
theorem lw_p9 : lw_okq (⟨"SkeinMarket$Search", "findBest", "(LSkeinMarket$Floor;I)V"⟩, 5) := ⟨⟨by decide +kernel, by decide +kernel⟩, List.mem_of_getElem? (i := 126) (by decide +kernel), List.mem_of_getElem? (i := 260) (by decide +kernel), List.mem_of_getElem? (i := 261) (by decide +kernel)⟩
theorem lw_p10 : lw_okq (⟨"SkeinMarket$Search", "forgetBest", "()V"⟩, 5) := ⟨⟨by decide +kernel, by decide +kernel⟩, List.mem_of_getElem? (i := 126) (by decide +kernel), List.mem_of_getElem? (i := 264) (by decide +kernel), List.mem_of_getElem? (i := 265) (by decide +kernel)⟩
theorem lw_p11 : lw_okq (⟨"SkeinMarket$Search", "estimate", "(LSkeinMarket$Floor;I)V"⟩, 5) := ⟨⟨by decide +kernel, by decide +kernel⟩, List.mem_of_getElem? (i := 126) (by decide +kernel), List.mem_of_getElem? (i := 268) (by decide +kernel), List.mem_of_getElem? (i := 269) (by decide +kernel)⟩
theorem lw_p12 : lw_okq (⟨"SkeinMarket$Floor", "leastCost", "(I)I"⟩, 14) := ⟨⟨by decide +kernel, by decide +kernel⟩, List.mem_of_getElem? (i := 65) (by decide +kernel), List.mem_of_getElem? (i := 272) (by decide +kernel), List.mem_of_getElem? (i := 273) (by decide +kernel)⟩
theorem lw_p13 : lw_okq (⟨"SkeinMarket$Floor", "hasOneBidPerBidder", "(I)Z"⟩, 14) := ⟨⟨by decide +kernel, by decide +kernel⟩, List.mem_of_getElem? (i := 65) (by decide +kernel), List.mem_of_getElem? (i := 276) (by decide +kernel), List.mem_of_getElem? (i := 277) (by decide +kernel)⟩
theorem lw_p14 : lw_okq (⟨"SkeinMarket$Floor", "queueItems", "(I)Z"⟩, 14) := ⟨⟨by decide +kernel, by decide +kernel⟩, List.mem_of_getElem? (i := 65) (by decide +kernel), List.mem_of_getElem? (i := 280) (by decide +kernel), List.mem_of_getElem? (i := 281) (by decide +kernel)⟩
theorem lw_p15 : lw_okq (⟨"SkeinMarket$Floor", "restCost", "(I)I"⟩, 14) := ⟨⟨by decide +kernel, by decide +kernel⟩, List.mem_of_getElem? (i := 65) (by decide +kernel), List.mem_of_getElem? (i := 284) (by decide +kernel), List.mem_of_getElem? (i := 285) (by decide +kernel)⟩
def lw_privs_1 : List (MethodName × Nat) := [(⟨"SkeinMarket", "fillFloor", "()V"⟩, 10), (⟨"SkeinMarket$Floor", "clearAll", "()V"⟩, 14), (⟨"SkeinMarket$Floor", "addLot", "(II)V"⟩, 14), (⟨"SkeinMarket$Floor", "addBid", "(III)V"⟩, 14), (⟨"SkeinMarket", "addItemsToFloor", "(LSkeinMarket$Bid;)V"⟩, 10), (⟨"SkeinMarket", "fittingOnFloor", "(LSkeinMarket$Item;)I"⟩, 10), (⟨"SkeinMarket", "isLot", "(I)Z"⟩, 10), (⟨"SkeinMarket", "isFit", "(LSkeinMarket$Lot;LSkeinMarket$Item;)Z"⟩, 10), (⟨"SkeinMarket$Floor", "addItem", "(I)V"⟩, 14), (⟨"SkeinMarket$Search", "findBest", "(LSkeinMarket$Floor;I)V"⟩, 5), (⟨"SkeinMarket$Search", "forgetBest", "()V"⟩, 5), (⟨"SkeinMarket$Search", "estimate", "(LSkeinMarket$Floor;I)V"⟩, 5), (⟨"SkeinMarket$Floor", "leastCost", "(I)I"⟩, 14), (⟨"SkeinMarket$Floor", "hasOneBidPerBidder", "(I)Z"⟩, 14), (⟨"SkeinMarket$Floor", "queueItems", "(I)Z"⟩, 14), (⟨"SkeinMarket$Floor", "restCost", "(I)I"⟩, 14)]
theorem lw_r1 : ∀ q ∈ lw_privs_1, lw_okq q := List.forall_mem_cons.mpr ⟨lw_p0, List.forall_mem_cons.mpr ⟨lw_p1, List.forall_mem_cons.mpr ⟨lw_p2, List.forall_mem_cons.mpr ⟨lw_p3, List.forall_mem_cons.mpr ⟨lw_p4, List.forall_mem_cons.mpr ⟨lw_p5, List.forall_mem_cons.mpr ⟨lw_p6, List.forall_mem_cons.mpr ⟨lw_p7, List.forall_mem_cons.mpr ⟨lw_p8, List.forall_mem_cons.mpr ⟨lw_p9, List.forall_mem_cons.mpr ⟨lw_p10, List.forall_mem_cons.mpr ⟨lw_p11, List.forall_mem_cons.mpr ⟨lw_p12, List.forall_mem_cons.mpr ⟨lw_p13, List.forall_mem_cons.mpr ⟨lw_p14, List.forall_mem_cons.mpr ⟨lw_p15, fun _ h => absurd h List.not_mem_nil⟩⟩⟩⟩⟩⟩⟩⟩⟩⟩⟩⟩⟩⟩⟩⟩
theorem lw_p16 : lw_okq (⟨"SkeinMarket$Floor", "bidOfBidderIn", "(II)I"⟩, 14) := ⟨⟨by decide +kernel, by decide +kernel⟩, List.mem_of_getElem? (i := 65) (by decide +kernel), List.mem_of_getElem? (i := 301) (by decide +kernel), List.mem_of_getElem? (i := 302) (by decide +kernel)⟩
theorem lw_p17 : lw_okq (⟨"SkeinMarket$Search", "costWith", "(LSkeinMarket$Floor;II)I"⟩, 5) := ⟨⟨by decide +kernel, by decide +kernel⟩, List.mem_of_getElem? (i := 126) (by decide +kernel), List.mem_of_getElem? (i := 305) (by decide +kernel), List.mem_of_getElem? (i := 306) (by decide +kernel)⟩
theorem lw_p18 : lw_okq (⟨"SkeinMarket$Search", "fillWithItem", "(LSkeinMarket$Floor;II)V"⟩, 5) := ⟨⟨by decide +kernel, by decide +kernel⟩, List.mem_of_getElem? (i := 126) (by decide +kernel), List.mem_of_getElem? (i := 309) (by decide +kernel), List.mem_of_getElem? (i := 310) (by decide +kernel)⟩
theorem lw_p19 : lw_okq (⟨"SkeinMarket$Search", "canFillWithLast", "(LSkeinMarket$Floor;II)Z"⟩, 5) := ⟨⟨by decide +kernel, by decide +kernel⟩, List.mem_of_getElem? (i := 126) (by decide +kernel), List.mem_of_getElem? (i := 314) (by decide +kernel), List.mem_of_getElem? (i := 315) (by decide +kernel)⟩
theorem lw_p20 : lw_okq (⟨"SkeinMarket$Search", "leastFilled", "(LSkeinMarket$Floor;I)I"⟩, 5) := ⟨⟨by decide +kernel, by decide +kernel⟩, List.mem_of_getElem? (i := 126) (by decide +kernel), List.mem_of_getElem? (i := 318) (by decide +kernel), List.mem_of_getElem? (i := 319) (by decide +kernel)⟩
theorem lw_p21 : lw_okq (⟨"SkeinMarket$Search", "goThroughSets", "(LSkeinMarket$Floor;)V"⟩, 5) := ⟨⟨by decide +kernel, by decide +kernel⟩, List.mem_of_getElem? (i := 126) (by decide +kernel), List.mem_of_getElem? (i := 328) (by decide +kernel), List.mem_of_getElem? (i := 329) (by decide +kernel)⟩
theorem lw_p22 : lw_okq (⟨"SkeinMarket$Floor", "priceSum", "(I)I"⟩, 14) := ⟨⟨by decide +kernel, by decide +kernel⟩, List.mem_of_getElem? (i := 65) (by decide +kernel), List.mem_of_getElem? (i := 332) (by decide +kernel), List.mem_of_getElem? (i := 333) (by decide +kernel)⟩
theorem lw_p23 : lw_okq (⟨"SkeinMarket$Search", "compareWithBest", "(II)V"⟩, 5) := ⟨⟨by decide +kernel, by decide +kernel⟩, List.mem_of_getElem? (i := 126) (by decide +kernel), List.mem_of_getElem? (i := 336) (by decide +kernel), List.mem_of_getElem? (i := 337) (by decide +kernel)⟩
theorem lw_p24 : lw_okq (⟨"java/lang/Throwable", "fillInStackTrace", "(I)Ljava/lang/Throwable;"⟩, 6) := ⟨⟨by decide +kernel, by decide +kernel⟩, List.mem_of_getElem? (i := 404) (by decide +kernel), List.mem_of_getElem? (i := 402) (by decide +kernel), List.mem_of_getElem? (i := 403) (by decide +kernel)⟩
theorem lw_p25 : lw_okq (⟨"java/util/ArrayList", "add", "(Ljava/lang/Object;[Ljava/lang/Object;I)V"⟩, 3) := ⟨⟨by decide +kernel, by decide +kernel⟩, List.mem_of_getElem? (i := 39) (by decide +kernel), List.mem_of_getElem? (i := 480) (by decide +kernel), List.mem_of_getElem? (i := 481) (by decide +kernel)⟩
theorem lw_p26 : lw_okq (⟨"java/util/ArrayList", "grow", "()[Ljava/lang/Object;"⟩, 3) := ⟨⟨by decide +kernel, by decide +kernel⟩, List.mem_of_getElem? (i := 39) (by decide +kernel), List.mem_of_getElem? (i := 484) (by decide +kernel), List.mem_of_getElem? (i := 485) (by decide +kernel)⟩
theorem lw_p27 : lw_okq (⟨"java/util/ArrayList", "grow", "(I)[Ljava/lang/Object;"⟩, 3) := ⟨⟨by decide +kernel, by decide +kernel⟩, List.mem_of_getElem? (i := 39) (by decide +kernel), List.mem_of_getElem? (i := 488) (by decide +kernel), List.mem_of_getElem? (i := 489) (by decide +kernel)⟩
theorem lw_p28 : lw_okq (⟨"SkeinMarket", "knownLot", "(I)LSkeinMarket$Lot;"⟩, 10) := ⟨⟨by decide +kernel, by decide +kernel⟩, List.mem_of_getElem? (i := 31) (by decide +kernel), List.mem_of_getElem? (i := 545) (by decide +kernel), List.mem_of_getElem? (i := 546) (by decide +kernel)⟩
theorem lw_p29 : lw_okq (⟨"java/util/ArrayList", "fastRemove", "([Ljava/lang/Object;I)V"⟩, 3) := ⟨⟨by decide +kernel, by decide +kernel⟩, List.mem_of_getElem? (i := 39) (by decide +kernel), List.mem_of_getElem? (i := 609) (by decide +kernel), List.mem_of_getElem? (i := 610) (by decide +kernel)⟩
theorem lw_p30 : lw_okq (⟨"SkeinMarket", "knownBid", "(I)LSkeinMarket$Bid;"⟩, 10) := ⟨⟨by decide +kernel, by decide +kernel⟩, List.mem_of_getElem? (i := 31) (by decide +kernel), List.mem_of_getElem? (i := 668) (by decide +kernel), List.mem_of_getElem? (i := 669) (by decide +kernel)⟩
theorem lw_p31 : lw_okq (⟨"SkeinMarket", "isBid", "(I)Z"⟩, 10) := ⟨⟨by decide +kernel, by decide +kernel⟩, List.mem_of_getElem? (i := 31) (by decide +kernel), List.mem_of_getElem? (i := 672) (by decide +kernel), List.mem_of_getElem? (i := 673) (by decide +kernel)⟩
def lw_privs_2 : List (MethodName × Nat) := [(⟨"SkeinMarket$Floor", "bidOfBidderIn", "(II)I"⟩, 14), (⟨"SkeinMarket$Search", "costWith", "(LSkeinMarket$Floor;II)I"⟩, 5), (⟨"SkeinMarket$Search", "fillWithItem", "(LSkeinMarket$Floor;II)V"⟩, 5), (⟨"SkeinMarket$Search", "canFillWithLast", "(LSkeinMarket$Floor;II)Z"⟩, 5), (⟨"SkeinMarket$Search", "leastFilled", "(LSkeinMarket$Floor;I)I"⟩, 5), (⟨"SkeinMarket$Search", "goThroughSets", "(LSkeinMarket$Floor;)V"⟩, 5), (⟨"SkeinMarket$Floor", "priceSum", "(I)I"⟩, 14), (⟨"SkeinMarket$Search", "compareWithBest", "(II)V"⟩, 5), (⟨"java/lang/Throwable", "fillInStackTrace", "(I)Ljava/lang/Throwable;"⟩, 6), (⟨"java/util/ArrayList", "add", "(Ljava/lang/Object;[Ljava/lang/Object;I)V"⟩, 3), (⟨"java/util/ArrayList", "grow", "()[Ljava/lang/Object;"⟩, 3), (⟨"java/util/ArrayList", "grow", "(I)[Ljava/lang/Object;"⟩, 3), (⟨"SkeinMarket", "knownLot", "(I)LSkeinMarket$Lot;"⟩, 10), (⟨"java/util/ArrayList", "fastRemove", "([Ljava/lang/Object;I)V"⟩, 3), (⟨"SkeinMarket", "knownBid", "(I)LSkeinMarket$Bid;"⟩, 10), (⟨"SkeinMarket", "isBid", "(I)Z"⟩, 10)]
theorem lw_r2 : ∀ q ∈ lw_privs_2, lw_okq q := List.forall_mem_cons.mpr ⟨lw_p16, List.forall_mem_cons.mpr ⟨lw_p17, List.forall_mem_cons.mpr ⟨lw_p18, List.forall_mem_cons.mpr ⟨lw_p19, List.forall_mem_cons.mpr ⟨lw_p20, List.forall_mem_cons.mpr ⟨lw_p21, List.forall_mem_cons.mpr ⟨lw_p22, List.forall_mem_cons.mpr ⟨lw_p23, List.forall_mem_cons.mpr ⟨lw_p24, List.forall_mem_cons.mpr ⟨lw_p25, List.forall_mem_cons.mpr ⟨lw_p26, List.forall_mem_cons.mpr ⟨lw_p27, List.forall_mem_cons.mpr ⟨lw_p28, List.forall_mem_cons.mpr ⟨lw_p29, List.forall_mem_cons.mpr ⟨lw_p30, List.forall_mem_cons.mpr ⟨lw_p31, fun _ h => absurd h List.not_mem_nil⟩⟩⟩⟩⟩⟩⟩⟩⟩⟩⟩⟩⟩⟩⟩⟩
theorem lw_p32 : lw_okq (⟨"SkeinMarket", "knownOpenBid", "(I)LSkeinMarket$Bid;"⟩, 10) := ⟨⟨by decide +kernel, by decide +kernel⟩, List.mem_of_getElem? (i := 31) (by decide +kernel), List.mem_of_getElem? (i := 704) (by decide +kernel), List.mem_of_getElem? (i := 705) (by decide +kernel)⟩
theorem lw_p33 : lw_okq (⟨"SkeinMarket", "settlePayments", "(II)V"⟩, 10) := ⟨⟨by decide +kernel, by decide +kernel⟩, List.mem_of_getElem? (i := 31) (by decide +kernel), List.mem_of_getElem? (i := 725) (by decide +kernel), List.mem_of_getElem? (i := 726) (by decide +kernel)⟩
theorem lw_p34 : lw_okq (⟨"SkeinMarket", "handOutLots", "(I)I"⟩, 10) := ⟨⟨by decide +kernel, by decide +kernel⟩, List.mem_of_getElem? (i := 31) (by decide +kernel), List.mem_of_getElem? (i := 729) (by decide +kernel), List.mem_of_getElem? (i := 730) (by decide +kernel)⟩
theorem lw_p35 : lw_okq (⟨"SkeinMarket$Floor", "giveLots", "(I)V"⟩, 14) := ⟨⟨by decide +kernel, by decide +kernel⟩, List.mem_of_getElem? (i := 65) (by decide +kernel), List.mem_of_getElem? (i := 733) (by decide +kernel), List.mem_of_getElem? (i := 734) (by decide +kernel)⟩
theorem lw_p36 : lw_okq (⟨"SkeinMarket$Floor", "firstCheapest", "(II)I"⟩, 14) := ⟨⟨by decide +kernel, by decide +kernel⟩, List.mem_of_getElem? (i := 65) (by decide +kernel), List.mem_of_getElem? (i := 738) (by decide +kernel), List.mem_of_getElem? (i := 739) (by decide +kernel)⟩
theorem lw_p37 : lw_okq (⟨"SkeinMarket", "handOutLotsTo", "(II)I"⟩, 10) := ⟨⟨by decide +kernel, by decide +kernel⟩, List.mem_of_getElem? (i := 31) (by decide +kernel), List.mem_of_getElem? (i := 742) (by decide +kernel), List.mem_of_getElem? (i := 743) (by decide +kernel)⟩
theorem lw_p38 : lw_okq (⟨"SkeinMarket$Floor", "lotGiven", "(III)I"⟩, 14) := ⟨⟨by decide +kernel, by decide +kernel⟩, List.mem_of_getElem? (i := 65) (by decide +kernel), List.mem_of_getElem? (i := 746) (by decide +kernel), List.mem_of_getElem? (i := 747) (by decide +kernel)⟩
theorem lw_p39 : lw_okq (⟨"SkeinMarket", "settleLosers", "(I)V"⟩, 10) := ⟨⟨by decide +kernel, by decide +kernel⟩, List.mem_of_getElem? (i := 31) (by decide +kernel), List.mem_of_getElem? (i := 750) (by decide +kernel), List.mem_of_getElem? (i := 751) (by decide +kernel)⟩
theorem lw_p40 : lw_okq (⟨"SkeinMarket", "reasonToLose", "(LSkeinMarket$Bid;I)C"⟩, 10) := ⟨⟨by decide +kernel, by decide +kernel⟩, List.mem_of_getElem? (i := 31) (by decide +kernel), List.mem_of_getElem? (i := 755) (by decide +kernel), List.mem_of_getElem? (i := 756) (by decide +kernel)⟩
theorem lw_p41 : lw_okq (⟨"SkeinMarket$Floor", "setOf", "(I)I"⟩, 14) := ⟨⟨by decide +kernel, by decide +kernel⟩, List.mem_of_getElem? (i := 65) (by decide +kernel), List.mem_of_getElem? (i := 917) (by decide +kernel), List.mem_of_getElem? (i := 918) (by decide +kernel)⟩
theorem lw_p42 : lw_okq (⟨"SkeinMarket$Floor", "placeOf", "(I)I"⟩, 14) := ⟨⟨by decide +kernel, by decide +kernel⟩, List.mem_of_getElem? (i := 65) (by decide +kernel), List.mem_of_getElem? (i := 921) (by decide +kernel), List.mem_of_getElem? (i := 922) (by decide +kernel)⟩
theorem lw_p43 : lw_okq (⟨"SkeinMarket", "isInBestSet", "(I)Z"⟩, 10) := ⟨⟨by decide +kernel, by decide +kernel⟩, List.mem_of_getElem? (i := 31) (by decide +kernel), List.mem_of_getElem? (i := 956) (by decide +kernel), List.mem_of_getElem? (i := 957) (by decide +kernel)⟩
theorem lw_p44 : lw_okq (⟨"SkeinMarketModel", "fail", "(I)I"⟩, 33) := ⟨⟨by decide +kernel, by decide +kernel⟩, List.mem_of_getElem? (i := 1015) (by decide +kernel), List.mem_of_getElem? (i := 1136) (by decide +kernel), List.mem_of_getElem? (i := 1137) (by decide +kernel)⟩
theorem lw_p45 : lw_okq (⟨"SkeinMarketModel", "isLot", "(I)Z"⟩, 33) := ⟨⟨by decide +kernel, by decide +kernel⟩, List.mem_of_getElem? (i := 1015) (by decide +kernel), List.mem_of_getElem? (i := 1144) (by decide +kernel), List.mem_of_getElem? (i := 1145) (by decide +kernel)⟩
theorem lw_p46 : lw_okq (⟨"SkeinMarketModel", "isBid", "(I)Z"⟩, 33) := ⟨⟨by decide +kernel, by decide +kernel⟩, List.mem_of_getElem? (i := 1015) (by decide +kernel), List.mem_of_getElem? (i := 1164) (by decide +kernel), List.mem_of_getElem? (i := 1165) (by decide +kernel)⟩
theorem lw_p47 : lw_okq (⟨"SkeinMarketModel", "all", "()V"⟩, 33) := ⟨⟨by decide +kernel, by decide +kernel⟩, List.mem_of_getElem? (i := 1015) (by decide +kernel), List.mem_of_getElem? (i := 1180) (by decide +kernel), List.mem_of_getElem? (i := 1181) (by decide +kernel)⟩
def lw_privs_3 : List (MethodName × Nat) := [(⟨"SkeinMarket", "knownOpenBid", "(I)LSkeinMarket$Bid;"⟩, 10), (⟨"SkeinMarket", "settlePayments", "(II)V"⟩, 10), (⟨"SkeinMarket", "handOutLots", "(I)I"⟩, 10), (⟨"SkeinMarket$Floor", "giveLots", "(I)V"⟩, 14), (⟨"SkeinMarket$Floor", "firstCheapest", "(II)I"⟩, 14), (⟨"SkeinMarket", "handOutLotsTo", "(II)I"⟩, 10), (⟨"SkeinMarket$Floor", "lotGiven", "(III)I"⟩, 14), (⟨"SkeinMarket", "settleLosers", "(I)V"⟩, 10), (⟨"SkeinMarket", "reasonToLose", "(LSkeinMarket$Bid;I)C"⟩, 10), (⟨"SkeinMarket$Floor", "setOf", "(I)I"⟩, 14), (⟨"SkeinMarket$Floor", "placeOf", "(I)I"⟩, 14), (⟨"SkeinMarket", "isInBestSet", "(I)Z"⟩, 10), (⟨"SkeinMarketModel", "fail", "(I)I"⟩, 33), (⟨"SkeinMarketModel", "isLot", "(I)Z"⟩, 33), (⟨"SkeinMarketModel", "isBid", "(I)Z"⟩, 33), (⟨"SkeinMarketModel", "all", "()V"⟩, 33)]
theorem lw_r3 : ∀ q ∈ lw_privs_3, lw_okq q := List.forall_mem_cons.mpr ⟨lw_p32, List.forall_mem_cons.mpr ⟨lw_p33, List.forall_mem_cons.mpr ⟨lw_p34, List.forall_mem_cons.mpr ⟨lw_p35, List.forall_mem_cons.mpr ⟨lw_p36, List.forall_mem_cons.mpr ⟨lw_p37, List.forall_mem_cons.mpr ⟨lw_p38, List.forall_mem_cons.mpr ⟨lw_p39, List.forall_mem_cons.mpr ⟨lw_p40, List.forall_mem_cons.mpr ⟨lw_p41, List.forall_mem_cons.mpr ⟨lw_p42, List.forall_mem_cons.mpr ⟨lw_p43, List.forall_mem_cons.mpr ⟨lw_p44, List.forall_mem_cons.mpr ⟨lw_p45, List.forall_mem_cons.mpr ⟨lw_p46, List.forall_mem_cons.mpr ⟨lw_p47, fun _ h => absurd h List.not_mem_nil⟩⟩⟩⟩⟩⟩⟩⟩⟩⟩⟩⟩⟩⟩⟩⟩
theorem lw_p48 : lw_okq (⟨"SkeinMarketModel", "gather", "()V"⟩, 33) := ⟨⟨by decide +kernel, by decide +kernel⟩, List.mem_of_getElem? (i := 1015) (by decide +kernel), List.mem_of_getElem? (i := 1184) (by decide +kernel), List.mem_of_getElem? (i := 1185) (by decide +kernel)⟩
theorem lw_p49 : lw_okq (⟨"SkeinMarketModel", "walk", "(IIIII)V"⟩, 33) := ⟨⟨by decide +kernel, by decide +kernel⟩, List.mem_of_getElem? (i := 1015) (by decide +kernel), List.mem_of_getElem? (i := 1190) (by decide +kernel), List.mem_of_getElem? (i := 1191) (by decide +kernel)⟩
theorem lw_p50 : lw_okq (⟨"SkeinMarketModel", "adds", "(II)Z"⟩, 33) := ⟨⟨by decide +kernel, by decide +kernel⟩, List.mem_of_getElem? (i := 1015) (by decide +kernel), List.mem_of_getElem? (i := 1194) (by decide +kernel), List.mem_of_getElem? (i := 1195) (by decide +kernel)⟩
theorem lw_p51 : lw_okq (⟨"SkeinMarketModel", "suits", "(II)Z"⟩, 33) := ⟨⟨by decide +kernel, by decide +kernel⟩, List.mem_of_getElem? (i := 1015) (by decide +kernel), List.mem_of_getElem? (i := 1198) (by decide +kernel), List.mem_of_getElem? (i := 1199) (by decide +kernel)⟩
theorem lw_p52 : lw_okq (⟨"SkeinMarketModel", "least", "(I)I"⟩, 33) := ⟨⟨by decide +kernel, by decide +kernel⟩, List.mem_of_getElem? (i := 1015) (by decide +kernel), List.mem_of_getElem? (i := 1202) (by decide +kernel), List.mem_of_getElem? (i := 1203) (by decide +kernel)⟩
theorem lw_p53 : lw_okq (⟨"SkeinMarketModel", "best", "(I)I"⟩, 33) := ⟨⟨by decide +kernel, by decide +kernel⟩, List.mem_of_getElem? (i := 1015) (by decide +kernel), List.mem_of_getElem? (i := 1206) (by decide +kernel), List.mem_of_getElem? (i := 1207) (by decide +kernel)⟩
theorem lw_p54 : lw_okq (⟨"SkeinMarketModel", "gives", "(I)I"⟩, 33) := ⟨⟨by decide +kernel, by decide +kernel⟩, List.mem_of_getElem? (i := 1015) (by decide +kernel), List.mem_of_getElem? (i := 1213) (by decide +kernel), List.mem_of_getElem? (i := 1214) (by decide +kernel)⟩
theorem lw_p55 : lw_okq (⟨"SkeinMarketModel", "pays", "(II)I"⟩, 33) := ⟨⟨by decide +kernel, by decide +kernel⟩, List.mem_of_getElem? (i := 1015) (by decide +kernel), List.mem_of_getElem? (i := 1217) (by decide +kernel), List.mem_of_getElem? (i := 1218) (by decide +kernel)⟩
theorem lw_p56 : lw_okq (⟨"SkeinMarketModel", "why", "(II)C"⟩, 33) := ⟨⟨by decide +kernel, by decide +kernel⟩, List.mem_of_getElem? (i := 1015) (by decide +kernel), List.mem_of_getElem? (i := 1221) (by decide +kernel), List.mem_of_getElem? (i := 1222) (by decide +kernel)⟩
theorem lw_p57 : lw_okq (⟨"SkeinMarketModel", "noLot", "(I)Z"⟩, 33) := ⟨⟨by decide +kernel, by decide +kernel⟩, List.mem_of_getElem? (i := 1015) (by decide +kernel), List.mem_of_getElem? (i := 1245) (by decide +kernel), List.mem_of_getElem? (i := 1246) (by decide +kernel)⟩
theorem lw_p58 : lw_okq (⟨"SkeinMarketModel", "noBid", "(I)Z"⟩, 33) := ⟨⟨by decide +kernel, by decide +kernel⟩, List.mem_of_getElem? (i := 1015) (by decide +kernel), List.mem_of_getElem? (i := 1273) (by decide +kernel), List.mem_of_getElem? (i := 1274) (by decide +kernel)⟩
theorem lw_p59 : lw_okq (⟨"SkeinMarketModel", "isInSet", "(II)Z"⟩, 33) := ⟨⟨by decide +kernel, by decide +kernel⟩, List.mem_of_getElem? (i := 1015) (by decide +kernel), List.mem_of_getElem? (i := 1330) (by decide +kernel), List.mem_of_getElem? (i := 1331) (by decide +kernel)⟩
def lw_privs_4 : List (MethodName × Nat) := [(⟨"SkeinMarketModel", "gather", "()V"⟩, 33), (⟨"SkeinMarketModel", "walk", "(IIIII)V"⟩, 33), (⟨"SkeinMarketModel", "adds", "(II)Z"⟩, 33), (⟨"SkeinMarketModel", "suits", "(II)Z"⟩, 33), (⟨"SkeinMarketModel", "least", "(I)I"⟩, 33), (⟨"SkeinMarketModel", "best", "(I)I"⟩, 33), (⟨"SkeinMarketModel", "gives", "(I)I"⟩, 33), (⟨"SkeinMarketModel", "pays", "(II)I"⟩, 33), (⟨"SkeinMarketModel", "why", "(II)C"⟩, 33), (⟨"SkeinMarketModel", "noLot", "(I)Z"⟩, 33), (⟨"SkeinMarketModel", "noBid", "(I)Z"⟩, 33), (⟨"SkeinMarketModel", "isInSet", "(II)Z"⟩, 33)]
theorem lw_r4 : ∀ q ∈ lw_privs_4, lw_okq q := List.forall_mem_cons.mpr ⟨lw_p48, List.forall_mem_cons.mpr ⟨lw_p49, List.forall_mem_cons.mpr ⟨lw_p50, List.forall_mem_cons.mpr ⟨lw_p51, List.forall_mem_cons.mpr ⟨lw_p52, List.forall_mem_cons.mpr ⟨lw_p53, List.forall_mem_cons.mpr ⟨lw_p54, List.forall_mem_cons.mpr ⟨lw_p55, List.forall_mem_cons.mpr ⟨lw_p56, List.forall_mem_cons.mpr ⟨lw_p57, List.forall_mem_cons.mpr ⟨lw_p58, List.forall_mem_cons.mpr ⟨lw_p59, fun _ h => absurd h List.not_mem_nil⟩⟩⟩⟩⟩⟩⟩⟩⟩⟩⟩⟩
def lw_privs : List (MethodName × Nat) := lw_privs_1 ++ (lw_privs_2 ++ (lw_privs_3 ++ (lw_privs_4)))
def lw_tbl : List Cond := k2_sels lw_privs ++ tables_1
theorem lw_privs_ok : ∀ q ∈ lw_privs, lw_okq q := by
  show ∀ q ∈ lw_privs_1 ++ (lw_privs_2 ++ (lw_privs_3 ++ (lw_privs_4))), lw_okq q
  exact List.forall_mem_append.mpr ⟨lw_r1, List.forall_mem_append.mpr ⟨lw_r2, List.forall_mem_append.mpr ⟨lw_r3, lw_r4⟩⟩⟩
/-- the streams that the claim lets the run draw from -/
abbrev lw_cs : List Choice := [Jvm.Choice.named "NaN.bits"]
theorem lw_bits : nanBits ∈ lw_cs := by first | decide | exact List.mem_cons_self | simp [lw_cs, nanBits]
end
section
/-! ===== BEGIN words of one list among another's, by their places ===== -/
theorem goodIn_r {big : List Cond} (ws : List Cond) (ps : List Nat) (hp : ws = ps.filterMap (fun i => big[i]?)) (h : ws.all goodWord = true) : GoodIn big ws := by
  intro w hw
  have h1 := List.all_eq_true.mp h w hw
  rw [hp] at hw
  obtain ⟨i, -, hi⟩ := List.mem_filterMap.mp hw
  have hm : w ∈ big := by first | exact List.mem_of_getElem? hi | exact List.getElem?_mem hi
  exact ⟨hm, good_of_word h1⟩
theorem goodIn_app {big a b : List Cond} (ha : GoodIn big a) (hb : GoodIn big b) : GoodIn big (a ++ b) := fun w h => (List.mem_append.mp h).elim (ha w) (hb w)
theorem goodIn_ca {big a b : List Cond} {c : Cond} (ha : GoodIn big (c :: a)) (hb : GoodIn big b) : GoodIn big (c :: (a ++ b)) := fun w h => (List.mem_cons.mp h).elim (fun e => ha w (List.mem_cons.mpr (Or.inl e))) (fun h => (List.mem_append.mp h).elim (fun h => ha w (List.mem_cons.mpr (Or.inr h))) (hb w))
theorem goodIn_sub {big ws : List Cond} (hm : ∀ w ∈ ws, w ∈ big) (h : ws.all goodWord = true) : GoodIn big ws := fun w hw => ⟨hm w hw, good_of_word (List.all_eq_true.mp h w hw)⟩
/-! ===== END ===== -/

/-! ===== BEGIN exceptions that leave a method, and their catching by the caller (launches without stack traces) ===== -/
section VXA
/-! The laws vx_back, vx_callV, vx_callS, vx_callSW, vx_throw0, vx_throwS follow proofs of the library, with one case more: JvmDerived/Free/Laws.lean (Back.of_free), Shelf42/LK1.lean (callV, callS), Shelf/KitTraced.lean (throwNew0V, throwNewS). -/
/-- where a method has thrown q: the class by its name, the cell, what was written, the world -/
def vx_T (XC : String → State → State → Prop) (st : State) (q : Addr) (t : State) (mc ms : Nat) (free : Addr → Prop) : Prop :=
  ∃ (E : String) (ce : Cell) (L : List Loc), XC E st t ∧ t.heap[q]? = some ce ∧ ce.vm = .none ∧ st.vm.findClass E = some ce.cls ∧ st.WarmedH t.vm ∧ st.sameButNew ({ t with vm := st.vm } : State) L mc ms ∧ ∀ z ∈ L, free z.base
def vx_Q (Qc : Array Value → State → Outcome → State → Prop) (XC : String → State → State → Prop) (mc ms : Nat) (free : Addr → Prop) : Array Value → State → Outcome → State → Prop := fun a st o t =>
  (Qc a st o t ∧ ∃ L, FrameEnd st o t L mc ms ∧ ∀ q ∈ L, free q.base) ∨ ∃ q, o = .threw q ∧ vx_T XC st q t mc ms free
/-- a callee that returns or throws -/
def vx_Met (l : Launch) (y : MethodName) (ws : List Cond) (rm : Room) (Pc : Array Value → State → Prop) (Qc : Array Value → State → Outcome → State → Prop) (XC : String → State → State → Prop) (mc ms : Nat) (free : Addr → Prop) : Prop :=
  MetFree l y (headSpec ws rm) Pc (fun _ _ _ _ _ => True) (vx_Q Qc XC mc ms free)
def vx_Post (XC : String → State → State → Prop) (mc ms : Nat) (free : Addr → Prop) : Pt → Array Value → Addr → Pt → Prop := fun A a q B =>
  ∃ (g : JFrame) (mk : MethodId) (t : State) (L : List Loc) (E : String) (ce : Cell), B.U.heap = t.heap ∧ B.U.vm = t.vm ∧ XC E (A.U.calling g mk a) t ∧ t.heap[q]? = some ce ∧ ce.vm = .none ∧ A.U.vm.findClass E = some ce.cls ∧ B.locs = A.locs ++ L ∧ (∀ z ∈ L, free z.base) ∧ B.cells = A.cells + mc ∧ B.slots = A.slots + ms
def vx_Back (l : Launch) (R : Room) (p : Program) (e : Env) (below : List Frame) (s : State) (sargs : Array Value) (y : MethodName) (len W9 : Nat)
    (Pre : Pt → Array Value → Prop) (Post : Pt → Array Value → Option Value → Pt → Prop) (PostX : Pt → Array Value → Addr → Pt → Prop) : Prop :=
  ∀ (m : MethodId) (meth : Method) (c : Code) (A : Pt) (g : JFrame) (ig : Instr) (mk : MethodId) (a : Array Value),
    Stand p l e R s m sargs below meth c A.U A.locs A.cells A.slots → g.method = m → g.locals.size = c.maxLocals → decode c.code g.pc = .ok (ig, len) →
    2 * g.monitorRoom + (g.stack.map fun v => v.category).sum ≤ W9 → A.U.methodNamed? y = some mk → Pre A a →
    (∃ (v : Option Value) (B : Pt), Stand p l e R s m sargs below meth c B.U B.locs B.cells B.slots ∧ Post A a v B ∧
      Steps p.tables e below (doInvoke e (A.U.setTop g) [] mk a).1 (B.U.setTop { g with pc := g.pc + len, stack := v.toList ++ g.stack })) ∨
    (∃ (q : Addr) (B : Pt), Stand p l e R s m sargs below meth c B.U B.locs B.cells B.slots ∧ PostX A a q B ∧
      Steps p.tables e below (doInvoke e (A.U.setTop g) [] mk a).1 ((B.U.setTop g).pushFrame (.throwing q)))
section Payer
variable {l : Launch} {R : Room} {p : Program} {e : Env} {below : List Frame} {s : State} {sargs : Array Value} {y : MethodName} {len W9 : Nat}
theorem vx_back {ws : List Cond} {rm : Room} {Pc : Array Value → State → Prop} {Qc : Array Value → State → Outcome → State → Prop} {XC : String → State → State → Prop} {mc ms : Nat} {free : Addr → Prop} {bytes : ByteArray} {maxL : Nat} {ret : Option FieldType}
    (hM : vx_Met l y ws rm Pc Qc XC mc ms free) (hblind : FrameBlind Pc) (hrc : rm.cells = mc) (hrs : rm.slots = ms)
    (hframes : rm.frames + 1 ≤ R.frames) (hlocals : W9 + (maxL + 11) + rm.locals ≤ R.locals)
    (hws : ∀ w ∈ ws, ∀ a' U, s.WarmedH U.vm → w.before a' U = true) (hcode : Cond.code y bytes maxL ret ∈ ws) (hinit : ∀ a' U, s.WarmedH U.vm → (Cond.initialized y.cls).before a' U = true) :
    vx_Back l R p e below s sargs y len W9 (PreOf R mc ms Pc) (PostOf Qc mc ms free) (vx_Post XC mc ms free) := by
  intro m meth c A g ig mk a X hg hsize hdg hW hn hp
  have h1 : (headSpec ws rm).pre.before a A.U = true := atoms_intro fun w hw => hws w hw _ _ X.warmed
  have h2 : (Cond.code y bytes maxL ret).before a A.U = true := hws _ hcode _ _ X.warmed
  have h3 : (Cond.initialized y.cls).before a A.U = true := hinit _ _ X.warmed
  have h4 : A.cells + (headSpec ws rm).room.cells ≤ R.cells := by rw [show (headSpec ws rm).room.cells = mc from hrc]; exact hp.1
  have h5 : A.slots + (headSpec ws rm).room.slots ≤ R.slots := by rw [show (headSpec ws rm).room.slots = ms from hrs]; exact hp.2.1
  have hPc : Pc a (A.U.calling g mk a) := hblind _ _ _ _ hp.2.2
  obtain ⟨U, Ls, c0, s0⟩ := A
  dsimp only [Pt.U, Pt.locs, Pt.cells, Pt.slots] at h1 h2 h3 h4 h5 X hn hPc ⊢
  obtain ⟨methY, cY, hmY, hcY, -, hlY, -, -, -, -⟩ := Cond.code_spec hn h2
  obtain ⟨kY, hkY, -⟩ := className_of_methodNamed hn
  have hinitY : kY.init = .initialized := Cond.initialized_spec (findClass_of_methodNamed hn) hkY h3
  have h : At U g.method c below := by rw [hg]; exact X.here
  have hlocals9 : W9 + (maxL + 11) + (headSpec ws rm).room.locals ≤ R.locals := hlocals
  have happ : (headSpec ws rm).appliesLoose y e.platform (U.calling g mk a) = true :=
    Spec.appliesLoose_calling (g := g) h hdg hn hkY hinitY
      (X.room_calling (g := g) (R' := (headSpec ws rm).room) hsize hmY hcY hframes (by rw [hlY]; omega) h4 h5) h1
  obtain ⟨mid, hmid⟩ := h.above
  have hfr : (U.setTop g).frames = (.java g :: mid) ++ below := by rw [State.frames_setTop' g h.top, hmid]; rfl
  obtain ⟨o, s₂, hsteps, -, hend, hq⟩ := Steps.callFree hM p X.admits X.cas X.clock (acts := []) hfr happ hPc trivial
  have hq' : vx_Q Qc XC mc ms free a (U.calling g mk a) o s₂ := hq
  rw [State.frames_setTop' g h.top] at hend
  obtain ⟨g₀, hg0⟩ := Option.isSome_iff_exists.mp h.top
  obtain ⟨r, hr⟩ := State.topJava?_eq_some.mp hg0
  have hr' : (({ U with heap := s₂.heap, slotsUsed := s₂.slotsUsed } : State).setVm s₂.vm).frames = .java g₀ :: r := hr
  rcases hq' with ⟨hqc, L, hfe, hL⟩ | ⟨q, rfl, E, ce, L, hx, hce, hcv, hcl, hW₂, hsm, hL⟩
  · obtain ⟨⟨v, rfl⟩, hW₂, e2, q2, q3, q4, q5, q6⟩ := id hfe
    have e3 : s₂ = ({ (U.calling g mk a).setFrames s₂.frames with heap := s₂.heap, slotsUsed := s₂.slotsUsed } : State).setVm s₂.vm := by
      have : s₂ = ({ s₂ with vm := (U.calling g mk a).vm } : State).setVm s₂.vm := rfl
      rw [e2] at this
      exact this
    obtain ⟨c₂, i₂, len₂, hc₂, hd₂, hf₂⟩ := hend
    have hW' : U.WarmedH s₂.vm := hW₂
    have hcc : c₂ = c := by
      have h1 : s₂.code? g.method = U.code? g.method := by
        rw [State.code?_eq, State.code?_eq, hW'.alike.method?]
      exact Option.some.inj (hc₂.symm.trans (h1.trans h.code))
    subst hcc
    have hlen : len₂ = len := by rw [hdg] at hd₂; cases hd₂; rfl
    subst hlen
    have hs₂ : s₂ = (({ U with heap := s₂.heap, slotsUsed := s₂.slotsUsed } : State).setVm s₂.vm).setTop { g with pc := g.pc + len₂, stack := v.toList ++ g.stack } := by
      refine e3.trans ?_
      rw [hf₂, State.calling_eq h.top, State.setFrames_setFrames, State.setTop_of_frames _ hr', hr]
      rfl
    have hsame : U.sameButNew ({ U with heap := s₂.heap, slotsUsed := s₂.slotsUsed } : State) L mc ms := by
      refine ⟨?_, q2, q3, q4, q5, q6⟩
      obtain ⟨t, ht, -⟩ := State.frames_cons hr
      show ({ U with heap := s₂.heap, slotsUsed := s₂.slotsUsed } : State) = { U.setFrames U.frames with heap := s₂.heap, slotsUsed := s₂.slotsUsed }
      rw [State.setFrames_self ht]
    subst hg
    refine Or.inl ⟨v, ⟨(({ U with heap := s₂.heap, slotsUsed := s₂.slotsUsed } : State).setVm s₂.vm), Ls ++ L, c0 + mc, s0 + ms⟩,
      ⟨X.admits, X.cas, X.clock, X.frames, X.room, X.hears, X.method, X.code, (X.here.setHeapUsed s₂.heap s₂.slotsUsed).setVm hW'.alike, X.tail, State.WarmedH.trans X.warmed hW', X.limits, X.bytes, X.same.trans (hsame.setVm s.vm)⟩,
      ⟨g, mk, s₂, L, rfl, rfl, hqc, rfl, hL, rfl, rfl⟩, ?_⟩
    show Steps p.tables e below _ ((({ U with heap := s₂.heap, slotsUsed := s₂.slotsUsed } : State).setVm s₂.vm).setTop { g with pc := g.pc + len₂, stack := v.toList ++ g.stack })
    rw [← hs₂]
    exact hsteps
  · obtain ⟨e2, q2, q3, q4, q5, q6⟩ := id hsm
    have e3 : s₂ = ({ (U.calling g mk a).setFrames s₂.frames with heap := s₂.heap, slotsUsed := s₂.slotsUsed } : State).setVm s₂.vm := by
      have : s₂ = ({ s₂ with vm := (U.calling g mk a).vm } : State).setVm s₂.vm := rfl
      rw [e2] at this
      exact this
    have hf₂ : s₂.frames = .throwing q :: .java g :: U.frames.tail := hend
    have hW' : U.WarmedH s₂.vm := hW₂
    have hs₂ : s₂ = ((({ U with heap := s₂.heap, slotsUsed := s₂.slotsUsed } : State).setVm s₂.vm).setTop g).pushFrame (.throwing q) := by
      refine e3.trans ?_
      rw [hf₂, State.calling_eq h.top, State.setFrames_setFrames, State.pushFrame, State.frames_setTop _ hr', State.setTop_of_frames _ hr', State.setFrames_setFrames, hr]
      rfl
    have hsame : U.sameButNew ({ U with heap := s₂.heap, slotsUsed := s₂.slotsUsed } : State) L mc ms := by
      refine ⟨?_, q2, q3, q4, q5, q6⟩
      obtain ⟨t, ht, -⟩ := State.frames_cons hr
      show ({ U with heap := s₂.heap, slotsUsed := s₂.slotsUsed } : State) = { U.setFrames U.frames with heap := s₂.heap, slotsUsed := s₂.slotsUsed }
      rw [State.setFrames_self ht]
    subst hg
    refine Or.inr ⟨q, ⟨(({ U with heap := s₂.heap, slotsUsed := s₂.slotsUsed } : State).setVm s₂.vm), Ls ++ L, c0 + mc, s0 + ms⟩,
      ⟨X.admits, X.cas, X.clock, X.frames, X.room, X.hears, X.method, X.code, (X.here.setHeapUsed s₂.heap s₂.slotsUsed).setVm hW'.alike, X.tail, State.WarmedH.trans X.warmed hW', X.limits, X.bytes, X.same.trans (hsame.setVm s.vm)⟩,
      ⟨g, mk, s₂, L, E, ce, rfl, rfl, hx, hce, hcv, hcl, rfl, hL, rfl, rfl⟩, ?_⟩
    show Steps p.tables e below _ (((({ U with heap := s₂.heap, slotsUsed := s₂.slotsUsed } : State).setVm s₂.vm).setTop g).pushFrame (.throwing q))
    rw [← hs₂]
    exact hsteps
end Payer
section Calls
variable {p : Program} {l : Launch} {e : Env} {R : Room} {s : State} {m : MethodId} {args : Array Value} {below : List Frame} {meth : Method} {c : Code} {T : State} {locs : List Loc} {cells slots : Nat}
theorem vx_callV (X : Stand p l e R s m args below meth c T locs cells slots) (hexec : p.tables.exec = Jvm.exec) {own C : String} {index : Nat} {y : MethodName} {bytes : ByteArray} {maxL : Nat} {ret : Option FieldType}
    (hown : s.vm.findClass own = some m.cls) (hlink : (Cond.methodLink own index y).before args s = true) (hinst : (Cond.instanceMethod y).before args s = true) (hsel : (Cond.selects C y y).before args s = true)
    (hcode : (Cond.code y bytes maxL ret).before args s = true) (hy : y.cls ≠ "java/lang/invoke/MethodHandle" ∧ y.cls ≠ "java/lang/invoke/VarHandle")
    {W9 : Nat} {Pre : Pt → Array Value → Prop} {Post : Pt → Array Value → Option Value → Pt → Prop} {PostX : Pt → Array Value → Addr → Pt → Prop} (hK : vx_Back l R p e below s args y 3 W9 Pre Post PostX)
    {b : Addr} {cellB : Cell} (hcell : T.heap[b]? = some cellB) (hobj : cellB.vm.isStatics = false) (hcls : s.vm.findClass C = some cellB.cls)
    {g : JFrame} (hg : g.method = m) (hsize : g.locals.size = c.maxLocals) {argsL rest : List Value} (hlen : ∀ sig, parseMethodDescriptor y.desc = some sig → argsL.length = sig.parameters.length)
    (hstack : g.stack = argsL.reverse ++ .ref b :: rest) (hW : 2 * g.monitorRoom + (rest.map fun v => v.category).sum ≤ W9) (hdg : decode c.code g.pc = .ok (.invokevirtual index, 3))
    (hpre : ∀ vm₁, s.WarmedH vm₁ → Pre ⟨T.setVm vm₁, locs, cells, slots⟩ (Value.ref b :: argsL).toArray) :
    (∃ (v : Option Value) (vm₁ : Vm) (B : Pt), s.WarmedH vm₁ ∧ Stand p l e R s m args below meth c B.U B.locs B.cells B.slots ∧ Post ⟨T.setVm vm₁, locs, cells, slots⟩ (Value.ref b :: argsL).toArray v B ∧
      ∀ target, Steps p.tables e below (B.U.setTop { g with pc := g.pc + 3, stack := v.toList ++ rest }) target → Steps p.tables e below (T.setTop g) target) ∨
    (∃ (q : Addr) (vm₁ : Vm) (B : Pt), s.WarmedH vm₁ ∧ Stand p l e R s m args below meth c B.U B.locs B.cells B.slots ∧ PostX ⟨T.setVm vm₁, locs, cells, slots⟩ (Value.ref b :: argsL).toArray q B ∧
      Steps p.tables e below (T.setTop g) ((B.U.setTop { g with stack := rest }).pushFrame (.throwing q))) := by
  obtain ⟨mk, methM, hnamed, hmethM, hstM, habM⟩ := Cond.instanceMethod_spec hinst
  obtain ⟨methM', cM, hmethM', -, -, -, -, -, -, hsigM⟩ := Cond.code_spec hnamed hcode
  cases hmethM.symm.trans hmethM'
  obtain ⟨c2, r2, m2, q1, q2, q3, q4, kP, hkP, hkPi⟩ := Cond.selects_spec hsel
  cases hcls.symm.trans q1
  cases (State.methodFound?_of_named hnamed hy).symm.trans q2
  cases hnamed.symm.trans q3
  have hselP : selectMethod e.platform s.vm cellB.cls mk = .method mk := by rw [Launch.admits_selectMethod X.admits]; exact q4
  obtain ⟨vm₁, X₁, hstep₁⟩ := X.invokevirtual hexec hown hlink hnamed hmethM hstM hkP hkPi hy (a := b) (cell := cellB) hcell
    (fun z h => by rw [h] at hobj; cases hobj) hselP hmethM habM hkP hkPi (g := g) hg (argsL := argsL) (rest := rest) (hlen _ hsigM) hstack hdg
  rcases hK m meth c ⟨T.setVm vm₁, locs, cells, slots⟩ { g with stack := rest } (.invokevirtual index) mk (Value.ref b :: argsL).toArray X₁ hg hsize hdg hW (X₁.named hnamed) (hpre vm₁ X₁.warmed) with ⟨v, B, X', hpost, hsteps⟩ | ⟨q, B, X', hpost, hsteps⟩
  · exact Or.inl ⟨v, vm₁, B, X₁.warmed, X', hpost, fun target h => hstep₁ _ fun acts => by rw [doInvoke_state]; exact hsteps.trans h⟩
  · exact Or.inr ⟨q, vm₁, B, X₁.warmed, X', hpost, hstep₁ _ fun acts => by rw [doInvoke_state]; exact hsteps⟩
theorem vx_callS (X : Stand p l e R s m args below meth c T locs cells slots) (hexec : p.tables.exec = Jvm.exec) {own : String} {index : Nat} {y : MethodName} {bytes : ByteArray} {maxL : Nat} {ret : Option FieldType}
    (hown : s.vm.findClass own = some m.cls) (hlink : (Cond.methodLink own index y).before args s = true) (hstat : (Cond.static y).before args s = true) (hinit : (Cond.initialized y.cls).before args s = true)
    (hcode : (Cond.code y bytes maxL ret).before args s = true) (hy : y.cls ≠ "java/lang/invoke/MethodHandle" ∧ y.cls ≠ "java/lang/invoke/VarHandle")
    {W9 : Nat} {Pre : Pt → Array Value → Prop} {Post : Pt → Array Value → Option Value → Pt → Prop} {PostX : Pt → Array Value → Addr → Pt → Prop} (hK : vx_Back l R p e below s args y 3 W9 Pre Post PostX)
    {g : JFrame} (hg : g.method = m) (hsize : g.locals.size = c.maxLocals) {argsL rest : List Value} (hlen : ∀ sig, parseMethodDescriptor y.desc = some sig → argsL.length = sig.parameters.length)
    (hstack : g.stack = argsL.reverse ++ rest) (hW : 2 * g.monitorRoom + (rest.map fun v => v.category).sum ≤ W9) (hdg : decode c.code g.pc = .ok (.invokestatic index, 3))
    (hpre : ∀ vm₁, s.WarmedH vm₁ → Pre ⟨T.setVm vm₁, locs, cells, slots⟩ argsL.toArray) :
    (∃ (v : Option Value) (vm₁ : Vm) (B : Pt), s.WarmedH vm₁ ∧ Stand p l e R s m args below meth c B.U B.locs B.cells B.slots ∧ Post ⟨T.setVm vm₁, locs, cells, slots⟩ argsL.toArray v B ∧
      ∀ target, Steps p.tables e below (B.U.setTop { g with pc := g.pc + 3, stack := v.toList ++ rest }) target → Steps p.tables e below (T.setTop g) target) ∨
    (∃ (q : Addr) (vm₁ : Vm) (B : Pt), s.WarmedH vm₁ ∧ Stand p l e R s m args below meth c B.U B.locs B.cells B.slots ∧ PostX ⟨T.setVm vm₁, locs, cells, slots⟩ argsL.toArray q B ∧
      Steps p.tables e below (T.setTop g) ((B.U.setTop { g with stack := rest }).pushFrame (.throwing q))) := by
  obtain ⟨mk, hnamed⟩ := Cond.code_named hcode
  obtain ⟨methM, cM, hmethM, -, -, -, -, -, -, hsigM⟩ := Cond.code_spec hnamed hcode
  have hstatic : methM.isStatic = true := Cond.static_spec hnamed hmethM hstat
  obtain ⟨kP, hkP, -⟩ := className_of_methodNamed hnamed
  have hinitP : kP.init = .initialized := Cond.initialized_spec (findClass_of_methodNamed hnamed) hkP hinit
  obtain ⟨vm₁, X₁, hstep₁⟩ := X.invokestatic hexec hown hlink hnamed hmethM hstatic hkP hinitP hy (g := g) hg (argsL := argsL) (rest := rest) (hlen _ hsigM) hstack hdg
  rcases hK m meth c ⟨T.setVm vm₁, locs, cells, slots⟩ { g with stack := rest } (.invokestatic index) mk argsL.toArray X₁ hg hsize hdg hW (X₁.named hnamed) (hpre vm₁ X₁.warmed) with ⟨v, B, X', hpost, hsteps⟩ | ⟨q, B, X', hpost, hsteps⟩
  · exact Or.inl ⟨v, vm₁, B, X₁.warmed, X', hpost, fun target h => hstep₁ _ fun acts => by rw [doInvoke_state]; exact hsteps.trans h⟩
  · exact Or.inr ⟨q, vm₁, B, X₁.warmed, X', hpost, hstep₁ _ fun acts => by rw [doInvoke_state]; exact hsteps⟩
end Calls
theorem vx_cls {s : State} {T : State} {vm₁ : Vm} {E : String} {k : ClassId} (hW : s.WarmedH vm₁) (h : (T.setVm vm₁).vm.findClass E = some k) : s.vm.findClass E = some k := by
  have h1 : vm₁.findClass E = some k := h
  rw [hW.alike.findClass] at h1
  exact h1
/-- the method's frame g, with q thrown over it -/
def vx_W (p : Program) (l : Launch) (e : Env) (R : Room) (s : State) (m : MethodId) (args : Array Value) (below : List Frame) (meth : Method) (c : Code) (H : Heap) (locs : List Loc) (cells slots : Nat) (Q : State → Prop) (g : JFrame) (q : Addr) : Prop :=
  ∀ T : State, T.heap = H → Stand p l e R s m args below meth c T locs cells slots → ∃ t, Steps p.tables e below ((T.setTop g).pushFrame (.throwing q)) t ∧ Q t
def vx_Run (p : Program) (l : Launch) (e : Env) (R : Room) (s : State) (m : MethodId) (args : Array Value) (below : List Frame) (meth : Method) (c : Code) (H : Heap) (locs : List Loc) (cells slots mc ms : Nat) (g : JFrame) (rest : List Value) (Qa : State → Outcome → State → Prop) (XC : String → State → State → Prop) (free : Addr → Prop) : Prop :=
  ∀ T : State, T.heap = H → Stand p l e R s m args below meth c T locs cells slots →
    (∃ (v : Option Value) (st₀ t T' : State) (L : List Loc), st₀.heap = H ∧ Stand p l e R s m args below meth c T' (locs ++ L) (cells + mc) (slots + ms) ∧ (∀ q ∈ L, free q.base) ∧ T'.heap = t.heap ∧ T'.vm = t.vm ∧ Qa st₀ (.returned v) t ∧
      Goes p e below T g T' { g with pc := g.pc + 3, stack := v.toList ++ rest }) ∨
    (∃ (q : Addr) (st₀ t T' : State) (L : List Loc) (E : String) (ce : Cell), st₀.heap = H ∧ Stand p l e R s m args below meth c T' (locs ++ L) (cells + mc) (slots + ms) ∧ (∀ z ∈ L, free z.base) ∧ T'.heap = t.heap ∧ T'.vm = t.vm ∧ XC E st₀ t ∧ t.heap[q]? = some ce ∧ ce.vm = .none ∧ s.vm.findClass E = some ce.cls ∧
      Steps p.tables e below (T.setTop g) ((T'.setTop { g with stack := rest }).pushFrame (.throwing q)))
def vx_X {S : Type} (px : S → Prop) (B : String → S → State → Prop) (A : Nat → Prop) : String → State → State → Prop := fun E st t => ∃ u : S, px u ∧ B E u t ∧ va_F A st t
section Runs
variable {p : Program} {l : Launch} {e : Env} {R : Room} {s : State} {m : MethodId} {args : Array Value} {below : List Frame} {meth : Method} {c : Code} {H : Heap} {locs : List Loc} {cells slots : Nat}
variable {y : MethodName} {bytes cc : ByteArray} {maxL nL mc ms n index : Nat} {ret : Option FieldType} {ws : List Cond} {rm : Room} {Pc : Array Value → State → Prop} {Qc : Array Value → State → Outcome → State → Prop} {XC : String → State → State → Prop} {free : Addr → Prop} {Ts : List Cond} {own C : String} {b : Addr} {As rest : List Value} {g : JFrame}
theorem vx_callBack (cb : CallB R s args own index y bytes maxL ret ws rm mc ms n) (hM : vx_Met l y ws rm Pc Qc XC mc ms free) (hbl : FrameBlind Pc) : vx_Back l R p e below s args y 3 8 (PreOf R mc ms Pc) (PostOf Qc mc ms free) (vx_Post XC mc ms free) := by
  obtain ⟨hrc, hrs, hfr, hlo, hws, hcw, -, hini, -⟩ := cb
  exact vx_back (bytes := bytes) (maxL := maxL) (ret := ret) hM hbl hrc hrs hfr hlo hws hcw (fun a' U hW => word_at hW (Or.inl (by first | rfl | simp [Cond.onTables, Cond.keeps, Cond.steady])) hini)
theorem vx_runV (S : CallFix p m c cc nL s args Ts own) (hM : vx_Met l y ws rm Pc Qc XC mc ms free) (cw : CallW R s args own C index y bytes maxL ret ws rm mc ms n) (hp : PreV s H C b Pc As)
    (hg : g.method = m) (hn : As.length = n) (hsize : g.locals.size = nL) (hstack : g.stack = As.reverse ++ .ref b :: rest) (hW : 2 * g.monitorRoom + (rest.map fun v => v.category).sum ≤ 8) (hdg : decode cc g.pc = .ok (.invokevirtual index, 3)) (hf : cells + mc ≤ R.cells ∧ slots + ms ≤ R.slots) :
    vx_Run p l e R s m args below meth c H locs cells slots mc ms g rest (Qc (Value.ref b :: As).toArray) XC free := by
  have hK : vx_Back l R p e below s args y 3 8 (PreOf R mc ms Pc) (PostOf Qc mc ms free) (vx_Post XC mc ms free) := vx_callBack cw.1 hM hp.1
  obtain ⟨⟨-, -, -, -, -, -, hcode, -, hy, hlen, hl⟩, hin, hse⟩ := cw
  obtain ⟨hx, hb, hml, ho, -⟩ := S
  obtain ⟨-, ⟨cellB, hcB, hoB, hclB⟩, hPc⟩ := hp
  intro T hT X
  rcases vx_callV X hx (C := C) (bytes := bytes) (maxL := maxL) (ret := ret) ho hl hin hse hcode hy hK (by rw [hT]; exact hcB) hoB hclB hg (hsize.trans hml.symm) (argsL := As) (rest := rest) (fun sig h => hn.trans (hlen sig h)) hstack hW (by rw [hb]; exact hdg)
    (fun vm₁ hW₁ => ⟨hf.1, hf.2, hPc (T.setVm vm₁) hT hW₁⟩) with ⟨v, vm₁, ⟨U', l2, c2, s2⟩, hW₁, X', ⟨g', mk, t, L, e1, e2, hq, h1, hL, h2, h3⟩, st⟩ | ⟨q, vm₁, ⟨U', l2, c2, s2⟩, hW₁, X', ⟨g', mk, t, L, E, ce, e1, e2, hq, hce, hcv, hcl, h1, hL, h2, h3⟩, st⟩
  · dsimp only [Pt.U, Pt.locs, Pt.cells, Pt.slots] at X' e1 e2 h1 h2 h3 st
    subst h1; subst h2; subst h3
    exact Or.inl ⟨v, (T.setVm vm₁).calling g' mk (Value.ref b :: As).toArray, t, U', L, hT, X', hL, e1, e2, hq, st⟩
  · dsimp only [Pt.U, Pt.locs, Pt.cells, Pt.slots] at X' e1 e2 h1 h2 h3 st hcl
    subst h1; subst h2; subst h3
    exact Or.inr ⟨q, (T.setVm vm₁).calling g' mk (Value.ref b :: As).toArray, t, U', L, E, ce, hT, X', hL, e1, e2, hq, hce, hcv, vx_cls hW₁ hcl, st⟩
theorem vx_runS (S : CallFix p m c cc nL s args Ts own) (hM : vx_Met l y ws rm Pc Qc XC mc ms free) (cw : CallB R s args own index y bytes maxL ret ws rm mc ms n ∧ (Cond.static y).before args s = true) (hp : PreS s H Pc As)
    (hg : g.method = m) (hn : As.length = n) (hsize : g.locals.size = nL) (hstack : g.stack = As.reverse ++ rest) (hW : 2 * g.monitorRoom + (rest.map fun v => v.category).sum ≤ 8) (hdg : decode cc g.pc = .ok (.invokestatic index, 3)) (hf : cells + mc ≤ R.cells ∧ slots + ms ≤ R.slots) :
    vx_Run p l e R s m args below meth c H locs cells slots mc ms g rest (Qc As.toArray) XC free := by
  have hK : vx_Back l R p e below s args y 3 8 (PreOf R mc ms Pc) (PostOf Qc mc ms free) (vx_Post XC mc ms free) := vx_callBack cw.1 hM hp.1
  obtain ⟨⟨-, -, -, -, -, -, hcode, hini, hy, hlen, hl⟩, hstt⟩ := cw
  obtain ⟨hx, hb, hml, ho, -⟩ := S
  intro T hT X
  rcases vx_callS X hx (bytes := bytes) (maxL := maxL) (ret := ret) ho hl hstt hini hcode hy hK hg (hsize.trans hml.symm) (argsL := As) (rest := rest) (fun sig h => hn.trans (hlen sig h)) hstack hW (by rw [hb]; exact hdg)
    (fun vm₁ hW₁ => ⟨hf.1, hf.2, hp.2 (T.setVm vm₁) hT hW₁⟩) with ⟨v, vm₁, ⟨U', l2, c2, s2⟩, hW₁, X', ⟨g', mk, t, L, e1, e2, hq, h1, hL, h2, h3⟩, st⟩ | ⟨q, vm₁, ⟨U', l2, c2, s2⟩, hW₁, X', ⟨g', mk, t, L, E, ce, e1, e2, hq, hce, hcv, hcl, h1, hL, h2, h3⟩, st⟩
  · dsimp only [Pt.U, Pt.locs, Pt.cells, Pt.slots] at X' e1 e2 h1 h2 h3 st
    subst h1; subst h2; subst h3
    exact Or.inl ⟨v, (T.setVm vm₁).calling g' mk As.toArray, t, U', L, hT, X', hL, e1, e2, hq, st⟩
  · dsimp only [Pt.U, Pt.locs, Pt.cells, Pt.slots] at X' e1 e2 h1 h2 h3 st hcl
    subst h1; subst h2; subst h3
    exact Or.inr ⟨q, (T.setVm vm₁).calling g' mk As.toArray, t, U', L, E, ce, hT, X', hL, e1, e2, hq, hce, hcv, vx_cls hW₁ hcl, st⟩
end Runs
section Rows
variable {p : Program} {l : Launch} {e : Env} {R : Room} {s : State} {m : MethodId} {args : Array Value} {below : List Frame} {meth : Method} {c : Code} {H : Heap} {locs : List Loc} {cells slots : Nat} {Q : State → Prop}
variable {mc ms : Nat} {free : Addr → Prop} {A0 A1 : Nat → Prop} {H0 : Heap} {a : Array Value} {pc : Nat} {ls : Array Slot} {st0 rest : List Value}
theorem vx_keep {st₀ t T' : State} {L : List Loc} (h0 : st₀.heap = H) (e1 : T'.heap = t.heap) (hS : va_S A0 H0 H locs) (hA : ∀ q, q < H.size → A1 q → A0 q) (hf : ∀ q, free q → A0 q) (hL : ∀ q ∈ L, free q.base) (hF : va_F A1 st₀ t) :
    H.size ≤ T'.heap.size ∧ (∀ q : Nat, q < H.size → ¬ A1 q → T'.heap[q]? = H[q]?) ∧ va_S A0 H0 T'.heap (locs ++ L) := by
  obtain ⟨hz, hk⟩ := hF
  rw [h0] at hz hk
  exact ⟨by rw [e1]; exact hz, fun q h1 h2 => by rw [e1]; exact hk q h1 h2,
    ⟨Nat.le_trans hS.1 (by rw [e1]; exact hz), fun q h1 h2 => by rw [e1, hk q (Nat.lt_of_lt_of_le h1 hS.1) (fun z => h2 (hA q (Nat.lt_of_lt_of_le h1 hS.1) z))]; exact hS.2.1 q h1 h2, fun q hq => by
      rcases List.mem_append.mp hq with h | h
      · exact hS.2.2 q h
      · exact hf _ (hL q h)⟩⟩
theorem vx_calli {S SX : Type} {post : Int32 → S → Prop} {px : SX → Prop} {B : S → State → Prop} {BX : String → SX → State → Prop} {AX : Nat → Prop} (hr : vx_Run p l e R s m args below meth c H locs cells slots mc ms (F0 m pc ls st0) rest (va_Qi post B A1 a) (vx_X px BX AX) free) (hS : va_S A0 H0 H locs) (hA : ∀ q, q < H.size → A1 q → A0 q) (hf : ∀ q, free q → A0 q) (hAX : ∀ q, q < H.size → AX q → A0 q)
    (kx : ∀ (E : String) (ce : Cell) (q9 : Addr) (u : SX) (t : State) (H1 : Heap) (locs1 : List Loc), t.heap = H1 → s.vm.Alike t.vm → px u → BX E u t → H.size ≤ H1.size → (∀ q : Nat, q < H.size → ¬ AX q → H1[q]? = H[q]?) → va_S A0 H0 H1 locs1 → H1[q9]? = some ce → ce.vm = .none → s.vm.findClass E = some ce.cls → vx_W p l e R s m args below meth c H1 locs1 (cells + mc) (slots + ms) Q (F0 m pc ls rest) q9)
    (kk : ∀ (r : Int32) (u : S) (t : State) (H1 : Heap) (locs1 : List Loc), t.heap = H1 → s.vm.Alike t.vm → post r u → B u t → H.size ≤ H1.size → (∀ q : Nat, q < H.size → ¬ A1 q → H1[q]? = H[q]?) → va_S A0 H0 H1 locs1 → W p l e R s m args below meth c H1 locs1 (cells + mc) (slots + ms) Q (F0 m (pc + 3) ls (.int r :: rest))) : W p l e R s m args below meth c H locs cells slots Q (F0 m pc ls st0) := by
  intro T hT X
  rcases hr T hT X with ⟨v, st₀, t, T', L, h0, X', hL, e1, e2, ⟨⟨r, u, hv, hp, hb⟩, hF⟩, st⟩ | ⟨q, st₀, t, T', L, E, ce, h0, X', hL, e1, e2, ⟨u, hp, hb, hF⟩, hce, hcv, hcl, st⟩
  · cases hv
    obtain ⟨k1, k2, k3⟩ := vx_keep h0 e1 hS hA hf hL hF
    obtain ⟨t2, a1, b1⟩ := kk r u t T'.heap (locs ++ L) e1.symm (by rw [← e2]; exact X'.warmed.alike) hp hb k1 k2 k3 T' rfl X'
    exact ⟨t2, st t2 a1, b1⟩
  · obtain ⟨k1, k2, k3⟩ := vx_keep h0 e1 hS hAX hf hL hF
    obtain ⟨t2, a1, b1⟩ := kx E ce q u t T'.heap (locs ++ L) e1.symm (by rw [← e2]; exact X'.warmed.alike) hp hb k1 k2 k3 (by rw [e1]; exact hce) hcv hcl T' rfl X'
    exact ⟨t2, st.trans a1, b1⟩
theorem vx_calll {S SX : Type} {post : Int64 → S → Prop} {px : SX → Prop} {B : S → State → Prop} {BX : String → SX → State → Prop} {AX : Nat → Prop} (hr : vx_Run p l e R s m args below meth c H locs cells slots mc ms (F0 m pc ls st0) rest (va_Ql post B A1 a) (vx_X px BX AX) free) (hS : va_S A0 H0 H locs) (hA : ∀ q, q < H.size → A1 q → A0 q) (hf : ∀ q, free q → A0 q) (hAX : ∀ q, q < H.size → AX q → A0 q)
    (kx : ∀ (E : String) (ce : Cell) (q9 : Addr) (u : SX) (t : State) (H1 : Heap) (locs1 : List Loc), t.heap = H1 → s.vm.Alike t.vm → px u → BX E u t → H.size ≤ H1.size → (∀ q : Nat, q < H.size → ¬ AX q → H1[q]? = H[q]?) → va_S A0 H0 H1 locs1 → H1[q9]? = some ce → ce.vm = .none → s.vm.findClass E = some ce.cls → vx_W p l e R s m args below meth c H1 locs1 (cells + mc) (slots + ms) Q (F0 m pc ls rest) q9)
    (kk : ∀ (r : Int64) (u : S) (t : State) (H1 : Heap) (locs1 : List Loc), t.heap = H1 → s.vm.Alike t.vm → post r u → B u t → H.size ≤ H1.size → (∀ q : Nat, q < H.size → ¬ A1 q → H1[q]? = H[q]?) → va_S A0 H0 H1 locs1 → W p l e R s m args below meth c H1 locs1 (cells + mc) (slots + ms) Q (F0 m (pc + 3) ls (.long r :: rest))) : W p l e R s m args below meth c H locs cells slots Q (F0 m pc ls st0) := by
  intro T hT X
  rcases hr T hT X with ⟨v, st₀, t, T', L, h0, X', hL, e1, e2, ⟨⟨r, u, hv, hp, hb⟩, hF⟩, st⟩ | ⟨q, st₀, t, T', L, E, ce, h0, X', hL, e1, e2, ⟨u, hp, hb, hF⟩, hce, hcv, hcl, st⟩
  · cases hv
    obtain ⟨k1, k2, k3⟩ := vx_keep h0 e1 hS hA hf hL hF
    obtain ⟨t2, a1, b1⟩ := kk r u t T'.heap (locs ++ L) e1.symm (by rw [← e2]; exact X'.warmed.alike) hp hb k1 k2 k3 T' rfl X'
    exact ⟨t2, st t2 a1, b1⟩
  · obtain ⟨k1, k2, k3⟩ := vx_keep h0 e1 hS hAX hf hL hF
    obtain ⟨t2, a1, b1⟩ := kx E ce q u t T'.heap (locs ++ L) e1.symm (by rw [← e2]; exact X'.warmed.alike) hp hb k1 k2 k3 (by rw [e1]; exact hce) hcv hcl T' rfl X'
    exact ⟨t2, st.trans a1, b1⟩
theorem vx_callf {S SX : Type} {post : UInt32 → S → Prop} {px : SX → Prop} {B : S → State → Prop} {BX : String → SX → State → Prop} {AX : Nat → Prop} (hr : vx_Run p l e R s m args below meth c H locs cells slots mc ms (F0 m pc ls st0) rest (va_Qf post B A1 a) (vx_X px BX AX) free) (hS : va_S A0 H0 H locs) (hA : ∀ q, q < H.size → A1 q → A0 q) (hf : ∀ q, free q → A0 q) (hAX : ∀ q, q < H.size → AX q → A0 q)
    (kx : ∀ (E : String) (ce : Cell) (q9 : Addr) (u : SX) (t : State) (H1 : Heap) (locs1 : List Loc), t.heap = H1 → s.vm.Alike t.vm → px u → BX E u t → H.size ≤ H1.size → (∀ q : Nat, q < H.size → ¬ AX q → H1[q]? = H[q]?) → va_S A0 H0 H1 locs1 → H1[q9]? = some ce → ce.vm = .none → s.vm.findClass E = some ce.cls → vx_W p l e R s m args below meth c H1 locs1 (cells + mc) (slots + ms) Q (F0 m pc ls rest) q9)
    (kk : ∀ (r : UInt32) (u : S) (t : State) (H1 : Heap) (locs1 : List Loc), t.heap = H1 → s.vm.Alike t.vm → post r u → B u t → H.size ≤ H1.size → (∀ q : Nat, q < H.size → ¬ A1 q → H1[q]? = H[q]?) → va_S A0 H0 H1 locs1 → W p l e R s m args below meth c H1 locs1 (cells + mc) (slots + ms) Q (F0 m (pc + 3) ls (.float r :: rest))) : W p l e R s m args below meth c H locs cells slots Q (F0 m pc ls st0) := by
  intro T hT X
  rcases hr T hT X with ⟨v, st₀, t, T', L, h0, X', hL, e1, e2, ⟨⟨r, u, hv, hp, hb⟩, hF⟩, st⟩ | ⟨q, st₀, t, T', L, E, ce, h0, X', hL, e1, e2, ⟨u, hp, hb, hF⟩, hce, hcv, hcl, st⟩
  · cases hv
    obtain ⟨k1, k2, k3⟩ := vx_keep h0 e1 hS hA hf hL hF
    obtain ⟨t2, a1, b1⟩ := kk r u t T'.heap (locs ++ L) e1.symm (by rw [← e2]; exact X'.warmed.alike) hp hb k1 k2 k3 T' rfl X'
    exact ⟨t2, st t2 a1, b1⟩
  · obtain ⟨k1, k2, k3⟩ := vx_keep h0 e1 hS hAX hf hL hF
    obtain ⟨t2, a1, b1⟩ := kx E ce q u t T'.heap (locs ++ L) e1.symm (by rw [← e2]; exact X'.warmed.alike) hp hb k1 k2 k3 (by rw [e1]; exact hce) hcv hcl T' rfl X'
    exact ⟨t2, st.trans a1, b1⟩
theorem vx_calld {S SX : Type} {post : UInt64 → S → Prop} {px : SX → Prop} {B : S → State → Prop} {BX : String → SX → State → Prop} {AX : Nat → Prop} (hr : vx_Run p l e R s m args below meth c H locs cells slots mc ms (F0 m pc ls st0) rest (va_Qd post B A1 a) (vx_X px BX AX) free) (hS : va_S A0 H0 H locs) (hA : ∀ q, q < H.size → A1 q → A0 q) (hf : ∀ q, free q → A0 q) (hAX : ∀ q, q < H.size → AX q → A0 q)
    (kx : ∀ (E : String) (ce : Cell) (q9 : Addr) (u : SX) (t : State) (H1 : Heap) (locs1 : List Loc), t.heap = H1 → s.vm.Alike t.vm → px u → BX E u t → H.size ≤ H1.size → (∀ q : Nat, q < H.size → ¬ AX q → H1[q]? = H[q]?) → va_S A0 H0 H1 locs1 → H1[q9]? = some ce → ce.vm = .none → s.vm.findClass E = some ce.cls → vx_W p l e R s m args below meth c H1 locs1 (cells + mc) (slots + ms) Q (F0 m pc ls rest) q9)
    (kk : ∀ (r : UInt64) (u : S) (t : State) (H1 : Heap) (locs1 : List Loc), t.heap = H1 → s.vm.Alike t.vm → post r u → B u t → H.size ≤ H1.size → (∀ q : Nat, q < H.size → ¬ A1 q → H1[q]? = H[q]?) → va_S A0 H0 H1 locs1 → W p l e R s m args below meth c H1 locs1 (cells + mc) (slots + ms) Q (F0 m (pc + 3) ls (.double r :: rest))) : W p l e R s m args below meth c H locs cells slots Q (F0 m pc ls st0) := by
  intro T hT X
  rcases hr T hT X with ⟨v, st₀, t, T', L, h0, X', hL, e1, e2, ⟨⟨r, u, hv, hp, hb⟩, hF⟩, st⟩ | ⟨q, st₀, t, T', L, E, ce, h0, X', hL, e1, e2, ⟨u, hp, hb, hF⟩, hce, hcv, hcl, st⟩
  · cases hv
    obtain ⟨k1, k2, k3⟩ := vx_keep h0 e1 hS hA hf hL hF
    obtain ⟨t2, a1, b1⟩ := kk r u t T'.heap (locs ++ L) e1.symm (by rw [← e2]; exact X'.warmed.alike) hp hb k1 k2 k3 T' rfl X'
    exact ⟨t2, st t2 a1, b1⟩
  · obtain ⟨k1, k2, k3⟩ := vx_keep h0 e1 hS hAX hf hL hF
    obtain ⟨t2, a1, b1⟩ := kx E ce q u t T'.heap (locs ++ L) e1.symm (by rw [← e2]; exact X'.warmed.alike) hp hb k1 k2 k3 (by rw [e1]; exact hce) hcv hcl T' rfl X'
    exact ⟨t2, st.trans a1, b1⟩
theorem vx_callv {S SX : Type} {post : S → Prop} {px : SX → Prop} {B : S → State → Prop} {BX : String → SX → State → Prop} {AX : Nat → Prop} (hr : vx_Run p l e R s m args below meth c H locs cells slots mc ms (F0 m pc ls st0) rest (va_Qv post B A1 a) (vx_X px BX AX) free) (hS : va_S A0 H0 H locs) (hA : ∀ q, q < H.size → A1 q → A0 q) (hf : ∀ q, free q → A0 q) (hAX : ∀ q, q < H.size → AX q → A0 q)
    (kx : ∀ (E : String) (ce : Cell) (q9 : Addr) (u : SX) (t : State) (H1 : Heap) (locs1 : List Loc), t.heap = H1 → s.vm.Alike t.vm → px u → BX E u t → H.size ≤ H1.size → (∀ q : Nat, q < H.size → ¬ AX q → H1[q]? = H[q]?) → va_S A0 H0 H1 locs1 → H1[q9]? = some ce → ce.vm = .none → s.vm.findClass E = some ce.cls → vx_W p l e R s m args below meth c H1 locs1 (cells + mc) (slots + ms) Q (F0 m pc ls rest) q9)
    (kk : ∀ (u : S) (t : State) (H1 : Heap) (locs1 : List Loc), t.heap = H1 → s.vm.Alike t.vm → post u → B u t → H.size ≤ H1.size → (∀ q : Nat, q < H.size → ¬ A1 q → H1[q]? = H[q]?) → va_S A0 H0 H1 locs1 → W p l e R s m args below meth c H1 locs1 (cells + mc) (slots + ms) Q (F0 m (pc + 3) ls (rest))) : W p l e R s m args below meth c H locs cells slots Q (F0 m pc ls st0) := by
  intro T hT X
  rcases hr T hT X with ⟨v, st₀, t, T', L, h0, X', hL, e1, e2, ⟨⟨u, hv, hp, hb⟩, hF⟩, st⟩ | ⟨q, st₀, t, T', L, E, ce, h0, X', hL, e1, e2, ⟨u, hp, hb, hF⟩, hce, hcv, hcl, st⟩
  · cases hv
    obtain ⟨k1, k2, k3⟩ := vx_keep h0 e1 hS hA hf hL hF
    obtain ⟨t2, a1, b1⟩ := kk u t T'.heap (locs ++ L) e1.symm (by rw [← e2]; exact X'.warmed.alike) hp hb k1 k2 k3 T' rfl X'
    exact ⟨t2, st t2 a1, b1⟩
  · obtain ⟨k1, k2, k3⟩ := vx_keep h0 e1 hS hAX hf hL hF
    obtain ⟨t2, a1, b1⟩ := kx E ce q u t T'.heap (locs ++ L) e1.symm (by rw [← e2]; exact X'.warmed.alike) hp hb k1 k2 k3 (by rw [e1]; exact hce) hcv hcl T' rfl X'
    exact ⟨t2, st.trans a1, b1⟩
/-- caught by the row x of this method's table; the rows ahead don't take it -/
theorem vx_catch {own name : String} {E : String} {ce : Cell} {q : Addr} (hown : s.vm.findClass own = some m.cls) (pre : List ExceptionTableEntry) (x : ExceptionTableEntry) (suf : List ExceptionTableEntry) (hsplit : c.exceptionTable.toList = pre ++ x :: suf)
    (hpass : ∀ z ∈ pre, covers z pc = false ∨ (z.catchType ≠ 0 ∧ ∃ nm : String, (Cond.classLink own z.catchType nm).before args s = true ∧ va_Nc E nm s)) (hx : covers x pc = true) (h0 : x.catchType ≠ 0)
    (hlink : (Cond.classLink own x.catchType name).before args s = true) (hcast : (Cond.castable E name).before args s = true) (hcell : H[q]? = some ce) (hv : ce.vm = .none) (hcl : s.vm.findClass E = some ce.cls)
    (kk : W p l e R s m args below meth c H locs cells slots Q (F0 m x.handlerPc ls [.ref q])) : vx_W p l e R s m args below meth c H locs cells slots Q (F0 m pc ls rest) q := by
  intro T hT X
  have hpl : e.platform.magicAccessors = ({} : Platform).magicAccessors := by rw [X.admits.platform]
  obtain ⟨c3, c4, hc3, hc4, hasg⟩ := Cond.castable_spec hcast
  cases Option.some.inj (hc3.symm.trans hcl)
  obtain ⟨c5, hc5, hcl5⟩ := Cond.classLink_spec hown hlink e.platform hpl
  cases Option.some.inj (hc4.symm.trans hc5)
  obtain ⟨vm', X', st⟩ := X.thenCaughtThrough q (g := F0 m pc ls rest) rfl (Steps.refl _) (by rw [hT]; exact hcell) (by rw [hv]; rfl) (by obtain ⟨k9, h9, -⟩ := Vm.findClass_spec hcl; exact ⟨k9, h9⟩) pre x suf hsplit
    (fun z hz => by
      rcases hpass z hz with h | ⟨hz0, nm, hl1, hn1⟩
      · exact Or.inl h
      · obtain ⟨c6, hc6, hcl6⟩ := Cond.classLink_spec hown hl1 e.platform hpl
        obtain ⟨a8, b8, h1, h2, h3⟩ := hn1
        cases Option.some.inj (h1.symm.trans hcl)
        cases Option.some.inj (h2.symm.trans hc6)
        exact Or.inr ⟨hz0, _, hcl6, h3⟩) hx (Or.inr ⟨h0, c4, hcl5, hasg⟩)
  obtain ⟨t, a1, b1⟩ := kk (T.setVm vm') hT X'
  exact ⟨t, st.trans a1, b1⟩
end Rows
section Ends
variable {p : Program} {l : Launch} {e : Env} {R : Room} {s : State} {m : MethodId} {args : Array Value} {below : List Frame} {meth : Method} {c : Code} {H : Heap} {locs : List Loc} {cells slots : Nat} {Q : State → Prop}
variable {mc ms : Nat} {free : Addr → Prop} {A0 A1 : Nat → Prop} {H0 : Heap} {a : Array Value} {ls : Array Slot} {st0 rest : List Value}
variable {Qc : Array Value → State → Outcome → State → Prop} {XC : String → State → State → Prop}
/-- what a body that may throw owes at its end -/
def vx_MQ (below : List Frame) (Qc : Array Value → State → Outcome → State → Prop) (XC : String → State → State → Prop) (a : Array Value) (s : State) (mc ms : Nat) (free : Addr → Prop) : State → Prop := fun t =>
  ∃ o, t.status = .running ∧ Ended t below o ∧ vx_Q Qc XC mc ms free a s o t
theorem vx_ret {g : JFrame} {mc ms : Nat} (k : W p l e R s m args below meth c H locs cells slots (MQ below Qc args s mc ms free) g) : W p l e R s m args below meth c H locs cells slots (vx_MQ below Qc XC args s mc ms free) g := by
  intro T hT X
  obtain ⟨t, a1, o, b1, b2, b3, b4⟩ := k T hT X
  exact ⟨t, a1, o, b1, b2, Or.inl ⟨b3, b4⟩⟩
/-- not caught here: it goes on to the caller -/
theorem vx_widen {g : JFrame} {q : Addr} {k n : Nat} (h1 : cells ≤ k) (h2 : slots ≤ n) (kk : vx_W p l e R s m args below meth c H locs k n Q g q) : vx_W p l e R s m args below meth c H locs cells slots Q g q := fun T hT X => kk T hT (stand_widen X h1 h2)
theorem vx_out {pc : Nat} {E : String} {ce : Cell} {q : Addr} {mc ms : Nat} (hout : ∀ x ∈ c.exceptionTable.toList, covers x pc = false) (hlocks : meth.locks = false) (hcell : H[q]? = some ce) (hv : ce.vm = .none) (hcl : s.vm.findClass E = some ce.cls)
    (hx : ∀ t : State, t.heap = H → s.vm.Alike t.vm → XC E s t) (hf : ∀ z ∈ locs, free z.base) (hc : cells ≤ mc) (hs : slots ≤ ms) :
    vx_W p l e R s m args below meth c H locs cells slots (vx_MQ below Qc XC args s mc ms free) (F0 m pc ls rest) q := by
  intro T hT X
  obtain ⟨st1, hrun, hend, hW, hsm⟩ := X.leaveThrown q (g := F0 m pc ls rest) rfl rfl rfl hout hlocks
  have hcell9 : (T.setFrames (.throwing q :: below)).heap[q]? = some ce := by
    show T.heap[q]? = some ce
    rw [hT]; exact hcell
  exact ⟨_, st1, .threw q, hrun, hend, Or.inr ⟨q, rfl, E, ce, locs, hx _ hT hW.alike, hcell9, hv, hcl, hW, hsm.mono hc hs, hf⟩⟩
theorem vx_frame {U : State} {k n : Nat} (h : s.sameButNew ({ U with vm := s.vm } : State) locs k n) : s.heap.size ≤ U.heap.size ∧ ∀ q : Nat, q < s.heap.size → (∀ z ∈ locs, z.base ≠ q) → U.heap[q]? = s.heap[q]? := by
  obtain ⟨-, h2, -, -, -, h6⟩ := h
  refine ⟨h2, fun q hq hz => ?_⟩
  obtain ⟨c9, e1, e2, e3, e4⟩ := h6 q _ (Array.getElem?_eq_getElem hq)
  have hs : c9.slots = (s.heap[q]).slots := Array.ext_getElem? fun i => e4 i fun hm => hz _ hm rfl
  have h9 : c9 = s.heap[q] := by
    rw [hs] at e2
    exact e2
  have e5 : U.heap[q]? = some c9 := e1
  rw [e5, h9, Array.getElem?_eq_getElem hq]
/-- the words of a throw but the four that speak of the heap -/
def vx_no (w : Cond) : Bool := decide (w ≠ .isRef (.static Bundle.tN "UNASSIGNED_STACK" Bundle.steD)) && decide (w ≠ .isRef (.static Bundle.tN "SUPPRESSED_SENTINEL" Bundle.listD)) && decide (w ≠ .laysStatic Bundle.tN "UNASSIGNED_STACK" Bundle.steD) && decide (w ≠ .laysStatic Bundle.tN "SUPPRESSED_SENTINEL" Bundle.listD)
def vx_at0 (own : String) (ic : Nat) (X : String) (names : List String) : List Cond := (Bundle.ownAtoms0 own ic X names).filter vx_no
def vx_atS (own : String) (ic : Nat) (X : String) (names : List String) : List Cond := (Bundle.ownAtoms own ic X names).filter vx_no
/-- a word that the tables alone decide, or a good one -/
def vx_ot (w : Cond) : Bool := w.onTables || goodWord w
theorem vx_ot_at {args a' : Array Value} {s U : State} {w : Cond} (hW : s.WarmedH U.vm) (hvm : s.vm = U.vm) (hg : vx_ot w = true) (h : w.before args s = true) : w.before a' U = true := by
  simp only [vx_ot, Bool.or_eq_true] at hg
  rcases hg with hg | hg
  · exact va_tabs hg hvm h
  · exact word_at hW (good_of_word hg) h
/-- a list's words: the good ones out of the method's own list, the others by premises of their own -/
theorem vx_hat {args : Array Value} {s : State} {L B : List Cond} (h1 : ∀ w ∈ L.filter goodWord, w.before args s = true) (h2 : ∀ w ∈ L.filter (fun w => !goodWord w), w ∈ B) (h3 : ∀ w ∈ B, w.before args s = true) : ∀ w ∈ L, w.before args s = true := by
  intro w hw
  by_cases g : goodWord w = true
  · exact h1 w (List.mem_filter.mpr ⟨hw, g⟩)
  · refine h3 w (h2 w (List.mem_filter.mpr ⟨hw, ?_⟩))
    show (!goodWord w) = true
    cases hgw : goodWord w
    · rfl
    · exact absurd hgw g
theorem vx_c {args : Array Value} {s : State} {w : Cond} {B : List Cond} (h : w.before args s = true) (t : ∀ w ∈ B, w.before args s = true) : ∀ w' ∈ w :: B, w'.before args s = true := fun w' h' => (List.mem_cons.mp h').elim (fun e => by rw [e]; exact h) (t w')
theorem vx_n {args : Array Value} {s : State} : ∀ w ∈ ([] : List Cond), w.before args s = true := fun _ h => nomatch h
theorem vx_own {args : Array Value} {s : State} {L : List Cond} (h1 : ∀ w ∈ L.filter vx_no, w.before args s = true)
    (hU : (Cond.isRef (.static Bundle.tN "UNASSIGNED_STACK" Bundle.steD)).before args s = true) (hN : (Cond.isRef (.static Bundle.tN "SUPPRESSED_SENTINEL" Bundle.listD)).before args s = true)
    (lU : (Cond.laysStatic Bundle.tN "UNASSIGNED_STACK" Bundle.steD).before args s = true) (lN : (Cond.laysStatic Bundle.tN "SUPPRESSED_SENTINEL" Bundle.listD).before args s = true) : ∀ w ∈ L, w.before args s = true := by
  intro w hw
  by_cases e1 : w = .isRef (.static Bundle.tN "UNASSIGNED_STACK" Bundle.steD)
  · rw [e1]; exact hU
  · by_cases e2 : w = .isRef (.static Bundle.tN "SUPPRESSED_SENTINEL" Bundle.listD)
    · rw [e2]; exact hN
    · by_cases e3 : w = .laysStatic Bundle.tN "UNASSIGNED_STACK" Bundle.steD
      · rw [e3]; exact lU
      · by_cases e4 : w = .laysStatic Bundle.tN "SUPPRESSED_SENTINEL" Bundle.listD
        · rw [e4]; exact lN
        · exact h1 w (List.mem_filter.mpr ⟨hw, by unfold vx_no; rw [decide_eq_true e1, decide_eq_true e2, decide_eq_true e3, decide_eq_true e4]; rfl⟩)
/-- where a static field lies, its class's statics cell in H -/
def vx_L (C n d : String) (A : Nat → Prop) (U : State) (H : Heap) : Prop := ∃ (c : ClassId) (k : Class) (i : Nat) (f : Field) (a : Nat) (cell : Cell), U.vm.findClass C = some c ∧ U.fieldFound? C n d = some (c, k, i, f) ∧ f.isStatic = true ∧ k.statics = some a ∧ H[a]? = some cell ∧ cell.vm.isStatics = true ∧ cell.cls = c ∧ f.slot < cell.slots.size ∧ k.staticTypes[f.slot]? = some f.type ∧ ¬ A a
theorem vx_L.moved {C n d : String} {A : Nat → Prop} {u U : State} {H : Heap} (hvm : u.vm.Alike U.vm) (h : vx_L C n d A u H) : vx_L C n d A U H := by
  obtain ⟨c, k, i, f, a, cell, h1, h2, h3, h4, h5, h6, h7, h8, h9, h10⟩ := h
  obtain ⟨k', hi', he⟩ := State.fieldFound?_setVm hvm h2
  exact ⟨c, k', i, f, a, cell, by rw [hvm.findClass]; exact h1, hi', h3, by rw [he]; exact h4, h5, h6, h7, h8, by rw [he]; exact h9, h10⟩
theorem vx_L.kept {C n d : String} {A : Nat → Prop} {U : State} {H H1 : Heap} (h : vx_L C n d A U H) (hq : ∀ a : Nat, a < H.size → ¬ A a → H1[a]? = H[a]?) : vx_L C n d A U H1 := by
  obtain ⟨c, k, i, f, a, cell, h1, h2, h3, h4, h5, h6, h7, h8, h9, h10⟩ := h
  exact ⟨c, k, i, f, a, cell, h1, h2, h3, h4, by rw [hq a (Array.getElem?_eq_some_iff.mp h5).1 h10]; exact h5, h6, h7, h8, h9, h10⟩
theorem vx_L.narrow {C n d : String} {A B : Nat → Prop} {U : State} {H : Heap} (h : vx_L C n d A U H) (hAB : ∀ q, B q → A q) : vx_L C n d B U H := by
  obtain ⟨c, k, i, f, a, cell, h1, h2, h3, h4, h5, h6, h7, h8, h9, h10⟩ := h
  exact ⟨c, k, i, f, a, cell, h1, h2, h3, h4, h5, h6, h7, h8, h9, fun z => h10 (hAB _ z)⟩
theorem vx_L.word {C n d : String} {A : Nat → Prop} {s : State} {args : Array Value} (h : vx_L C n d A s s.heap) : (Cond.laysStatic C n d).before args s = true := by
  obtain ⟨c, k, i, f, a, cell, h1, h2, h3, h4, h5, h6, h7, h8, h9, -⟩ := h
  show (Cond.laysStatic C n d).holds args s none s [] = true
  exact Cond.laysStatic_of h1 h2 h3 h4 h5 h6 h7 h8 h9
/-- .. and what it holds: null or some reference -/
def vx_Zq (C n d : String) (A : Nat → Prop) (U : State) (H : Heap) : Prop := va_Zq C n d A U H ∧ vx_L C n d A U H
theorem vx_Zq.moved {C n d : String} {A : Nat → Prop} {u U : State} {H : Heap} (hvm : u.vm.Alike U.vm) (h : vx_Zq C n d A u H) : vx_Zq C n d A U H := ⟨va_Zq.moved hvm h.1, vx_L.moved hvm h.2⟩
theorem vx_Zq.kept {C n d : String} {A : Nat → Prop} {U : State} {H H1 : Heap} (h : vx_Zq C n d A U H) (hq : ∀ a : Nat, a < H.size → ¬ A a → H1[a]? = H[a]?) : vx_Zq C n d A U H1 := ⟨va_Zq.kept h.1 hq, vx_L.kept h.2 hq⟩
theorem vx_Zq.narrow {C n d : String} {A B : Nat → Prop} {U : State} {H : Heap} (h : vx_Zq C n d A U H) (hAB : ∀ q, B q → A q) : vx_Zq C n d B U H := ⟨va_Zq.narrow h.1 hAB, vx_L.narrow h.2 hAB⟩
theorem vx_Zqof {args : Array Value} {s : State} {C n d : String} {A : Nat → Prop} (hl : (Cond.laysStatic C n d).before args s = true) (hini : (Cond.initialized C).before args s = true) (h : (Cond.isRef (.static C n d)).before args s = true) (hA : ∀ a : Nat, a < s.heap.size → ¬ A a) : vx_Zq C n d A s s.heap := by
  refine ⟨va_Zqof hl hini h hA, ?_⟩
  obtain ⟨c, k, i, f, a, cell, h1, h2, h3, h4, h5, h6, h7, h8, h9⟩ := Cond.laysStatic_spec hl
  exact ⟨c, k, i, f, a, cell, h1, h2, h3, h4, h5, h6, h7, h8, h9, hA a (Array.getElem?_eq_some_iff.mp h5).1⟩
theorem vx_isRef {C n d : String} {v : Value} {A : Nat → Prop} {s : State} {args : Array Value} (h : va_Z C n d v A s s.heap) (hv : v.isRef = true) : (Cond.isRef (.static C n d)).before args s = true := by
  obtain ⟨cf, kf, fi, f, a, cell, h1, h2, h3, h4, h5, h6, h7, -⟩ := h
  have he : (Term.static C n d).eval args s none [] s = some v := by
    simp [Term.eval, State.fieldNamed?, h1, h2, h4, h5, h6, h7]
  simp only [Cond.before, Cond.holds, Cond.value, he]
  cases v <;> simp_all [Value.isRef]
theorem vx_isRefq {C n d : String} {A : Nat → Prop} {s : State} {args : Array Value} (h : va_Zq C n d A s s.heap) : (Cond.isRef (.static C n d)).before args s = true := by
  rcases h with h | ⟨t, h⟩
  · exact vx_isRef h rfl
  · exact vx_isRef h rfl
/-- the same frame, seen from here: as if the method were called anew in this heap -/
theorem vx_rebase {T : State} (X : Stand p l e R s m args below meth c T locs cells slots) {R' : Room} (hf : R'.frames ≤ R.frames) (hl : R'.locals ≤ R.locals) (hc : cells + R'.cells ≤ R.cells) (hs : slots + R'.slots ≤ R.slots) :
    Stand p l e R' ((T.setVm s.vm).setFrames (.invoking m args :: below)) m args below meth c T [] 0 0 := by
  have htop : (T.setVm s.vm).topJava?.isSome := X.here.top
  have hF : ((T.setVm s.vm).setFrames (.invoking m args :: below)).frames = .invoking m args :: below := State.frames_setFrames _ (State.cur_lt_of_top htop)
  obtain ⟨g₀, hg0⟩ := Option.isSome_iff_exists.mp htop
  obtain ⟨r, hr⟩ := State.topJava?_eq_some.mp hg0
  have hl9 : e.platform.stackLimits (T.setVm s.vm).me = e.platform.stackLimits s.me := X.limits
  have hb9 : (T.setVm s.vm).me.stackBytes = s.me.stackBytes := X.bytes
  refine ⟨X.admits, X.cas, X.clock, hF, ?_, X.hears, X.method, X.code, X.here, X.tail, X.warmed, ?_, ?_, ?_⟩
  · have h := X.room
    have hU : ((T.setVm s.vm).setFrames (.invoking m args :: below)).localsInUse = s.localsInUse := by
      rw [State.localsInUse_invoking hF (meth := meth) (c := c) X.method X.code, State.localsInUse_invoking X.frames X.method X.code]
    simp only [State.hasRoom, Bool.and_eq_true, decide_eq_true_eq] at h ⊢
    obtain ⟨⟨⟨⟨h1, h2, h3, h4, h5, h6⟩, h7⟩, h8⟩, h9⟩ := h
    rw [X.frames, List.length_cons] at h2 h3
    have q1 := X.heapSize
    have q2 := X.used
    simp only [hF, hU, List.length_cons, State.stackLimits_setFrames, State.stackBytes_setFrames, hl9, hb9]
    refine ⟨⟨⟨⟨by omega, by omega, by omega, by omega, by omega, h6⟩, ?_⟩, ?_⟩, X.book⟩
    · show T.heap.size + R'.cells ≤ e.platform.maxCells
      omega
    · show T.slotsUsed + R'.slots ≤ e.platform.maxSlots
      omega
  · rw [State.stackLimits_setFrames]; rfl
  · rw [State.stackBytes_setFrames]; rfl
  · refine ⟨?_, Nat.le_refl _, Nat.le_refl _, ?_, ?_, fun a c9 h9 => ⟨c9, h9, rfl, rfl, fun _ _ => rfl⟩⟩
    · obtain ⟨t, ht, -⟩ := State.frames_cons hr
      show T.setVm s.vm = { ((T.setVm s.vm).setFrames (.invoking m args :: below)).setFrames (T.setVm s.vm).frames with heap := T.heap, slotsUsed := T.slotsUsed }
      rw [State.setFrames_setFrames, State.setFrames_self ht]
      rfl
    · show T.slotsUsed = T.slotsUsed + ((T.heap.toList.drop T.heap.size).map (·.slots.size)).sum
      rw [List.drop_eq_nil_of_le (Nat.le_of_eq Array.length_toList)]
      rfl
    · show ((T.heap.toList.drop T.heap.size).map (·.slots.size)).sum ≤ 0
      rw [List.drop_eq_nil_of_le (Nat.le_of_eq Array.length_toList)]
      exact Nat.le_refl _
/-- 'throw new E()': new; dup; invokespecial; athrow -/
theorem vx_throw0 {cc : ByteArray} {pc : Nat} (hexec : p.tables.exec = Jvm.exec) (hb : c.code = cc) (hl : l.stackTraces = false) {own cls : String} {names : List String} {ik ic mc ms : Nat} {A : Nat → Prop}
    (hown : s.vm.findClass own = some m.cls) (hcls : Bundle.fit cls = true) (hnames : ∀ n ∈ names, Bundle.fit n = true)
    (hk : (Cond.classLink own ik cls).before args s = true) (hini : (Cond.initialized cls).before args s = true) (hat : ∀ w ∈ vx_at0 own ic cls names, w.before args s = true)
    (hgood : ∀ w ∈ Cond.classLink own ik cls :: Cond.initialized cls :: vx_at0 own ic cls names, vx_ot w = true)
    (hU : vx_Zq Bundle.tN "UNASSIGNED_STACK" Bundle.steD A s s.heap) (hN : vx_Zq Bundle.tN "SUPPRESSED_SENTINEL" Bundle.listD A s s.heap) (hS : va_S A s.heap H locs) (hsize : ls.size = c.maxLocals)
    (d0 : decode cc pc = .ok (.new ik, 3)) (d3 : decode cc (pc + 3) = .ok (.dup, 1)) (d4 : decode cc (pc + 4) = .ok (.invokespecial ic, 3)) (d7 : decode cc (pc + 7) = .ok (.athrow, 1))
    (hout : ∀ x ∈ c.exceptionTable.toList, covers x (pc + 7) = false)
    (hRframes : names.length + 3 < R.frames) (hRlocals : (rest.map fun v => v.category).sum + (13 * (names.length + 1) + 42) ≤ R.locals) (hRcells : cells + 1 ≤ R.cells) (hRslots : slots + 6 ≤ R.slots) (hlocks : meth.locks = false)
    (hx : ∀ t : State, s.vm.Alike t.vm → H.size ≤ t.heap.size → (∀ q : Nat, q < H.size → t.heap[q]? = H[q]?) → XC cls s t)
    (hf : ∀ z ∈ locs, free z.base) (hc : cells + 1 ≤ mc) (hs : slots + 6 ≤ ms) :
    W p l e R s m args below meth c H locs cells slots (vx_MQ below Qc XC args s mc ms free) (F0 m pc ls rest) := by
  intro T hT X
  have htr : e.platform.stackTraces = false := (show e.platform.stackTraces = l.stackTraces by rw [X.admits.platform]).trans hl
  have Y := vx_rebase X (R' := { frames := R.frames, locals := R.locals, cells := 1, slots := 6 }) (Nat.le_refl _) (Nat.le_refl _) hRcells hRslots
  obtain ⟨s', hA⟩ : ∃ z, z = (T.setVm s.vm).setFrames (.invoking m args :: below) := ⟨_, rfl⟩
  rw [← hA] at Y
  have hvm : s'.vm = s.vm := by rw [hA]; rfl
  have hhp : s'.heap = H := by rw [hA]; exact hT
  have hW0 : s.WarmedH s'.vm := by rw [hvm]; exact State.WarmedH.refl s
  have hat' : ∀ w ∈ vx_at0 own ic cls names, w.before args s' = true := fun w hw => vx_ot_at hW0 hvm.symm (hgood w (List.mem_cons_of_mem _ (List.mem_cons_of_mem _ hw))) (hat w hw)
  have hk' : (Cond.classLink own ik cls).before args s' = true := vx_ot_at hW0 hvm.symm (hgood _ List.mem_cons_self) hk
  have hini' : (Cond.initialized cls).before args s' = true := vx_ot_at hW0 hvm.symm (hgood _ (List.mem_cons_of_mem _ List.mem_cons_self)) hini
  have hU' : vx_Zq Bundle.tN "UNASSIGNED_STACK" Bundle.steD A s' s'.heap := by rw [hhp]; exact vx_Zq.moved hW0.alike (hU.kept hS.2.1)
  have hN' : vx_Zq Bundle.tN "SUPPRESSED_SENTINEL" Bundle.listD A s' s'.heap := by rw [hhp]; exact vx_Zq.moved hW0.alike (hN.kept hS.2.1)
  have h : ∀ w ∈ Bundle.ownAtoms0 own ic cls names, w.before args s' = true := vx_own hat' (vx_isRefq hU'.1) (vx_isRefq hN'.1) hU'.2.word hN'.2.word
  have hown' : s'.vm.findClass own = some m.cls := by rw [hvm]; exact hown
  have hins : (Cond.instantiable cls 6).before args s' = true := h _ (by simp [Bundle.ownAtoms0])
  obtain ⟨vm₁, cX, kX, hfX, hkX, -, -, X₁, st1⟩ := Y.newCold hexec (own := own) (C := cls) (index := ik) (n := 6) hown' hk' hins hini'
    (g := F0 m pc ls rest) rfl (by rw [hb]; exact d0) (Nat.le_refl _) (Nat.le_refl _)
  generalize hT1 : (T.setVm vm₁).pushCell { cls := cX, slots := kX.instanceTypes.map defaultValue, vm := .none } = T1 at X₁ st1
  have hcat : (Value.ref T.heap.size).category = 1 := rfl
  have hcellA : T1.heap[T.heap.size]? = some (freshCell cX kX) := by rw [← hT1]; exact State.heap_pushCell_size _ _
  have d3' : decode c.code (pc + 3) = .ok (.dup, 1) := by rw [hb]; exact d3
  obtain ⟨U, hsteps, hrun, hend, hW, hsame, ce, hce, hO⟩ := X₁.ctorThrow0 hexec htr (own := own) (cls := cls) (names := names) (ic := ic) hown' hcls hnames h (fun x hx => nomatch hx) hfX hkX hcellA (by rw [hhp, hT]; exact Nat.le_refl _)
    (g := { method := m, pc := pc + 4, locals := ls, stack := .ref T.heap.size :: .ref T.heap.size :: rest, locked := none }) rfl hsize rfl rfl (rest := rest) rfl
    (by rw [hb]; exact d4) (by rw [hb]; exact d7) hout hRframes (by simp only [List.map_cons, List.sum_cons, hcat]; omega) hlocks
  obtain ⟨f1, f2⟩ := vx_frame hsame
  rw [hhp] at f1 f2
  have hWs : s.WarmedH U.vm := State.WarmedH.trans hW0 hW
  have hcl : s.vm.findClass cls = some ce.cls := by
    have h9 := hO.cls
    rw [hvm] at h9
    exact h9
  have hall : s.sameButNew ({ U with vm := s.vm } : State) locs mc ms := by
    subst hA
    obtain ⟨e1, e2⟩ := hsame
    rw [State.setFrames_setFrames] at e1
    have h2 : (T.setVm s.vm).sameButNew ({ U with vm := s.vm } : State) [] (0 + 1) (0 + 6) := ⟨e1, e2⟩
    have h3 := X.same.trans h2
    rw [List.append_nil] at h3
    exact h3.mono hc hs
  refine ⟨U, ?_, .threw T.heap.size, hrun, hend, Or.inr ⟨T.heap.size, rfl, cls, ce, locs, hx U hWs.alike f1 (fun q hq => f2 q hq (fun z hz => nomatch hz)), hce, hO.vm, hcl, hWs, hall, hf⟩⟩
  refine st1 _ ?_
  show Steps p.tables e below (T1.setTop { method := m, pc := pc + 3, locals := ls, stack := .ref T.heap.size :: rest, locked := none }) _
  jvm_step X₁.here [X₁.here.top, hexec, d3', Value.category]
  exact hsteps
/-- 'throw new E("text")': new; dup; ldc; invokespecial; athrow -/
theorem vx_throwS {cc : ByteArray} {pc : Nat} (hexec : p.tables.exec = Jvm.exec) (hb : c.code = cc) (hl : l.stackTraces = false) {own cls text : String} {names : List String} {ik is ic mc ms sa : Nat} {A : Nat → Prop}
    (hown : s.vm.findClass own = some m.cls) (hcls : Bundle.fit cls = true) (hnames : ∀ n ∈ names, Bundle.fit n = true)
    (hk : (Cond.classLink own ik cls).before args s = true) (hini : (Cond.initialized cls).before args s = true) (hstr : vk_R own is text sa s) (hat : ∀ w ∈ vx_atS own ic cls names, w.before args s = true)
    (hgood : ∀ w ∈ Cond.classLink own ik cls :: Cond.initialized cls :: vx_atS own ic cls names, vx_ot w = true)
    (hU : vx_Zq Bundle.tN "UNASSIGNED_STACK" Bundle.steD A s s.heap) (hN : vx_Zq Bundle.tN "SUPPRESSED_SENTINEL" Bundle.listD A s s.heap) (hS : va_S A s.heap H locs) (hsize : ls.size = c.maxLocals)
    (d0 : decode cc pc = .ok (.new ik, 3)) (d3 : decode cc (pc + 3) = .ok (.dup, 1)) (d4 : decode cc (pc + 4) = .ok (.ldc is, 2)) (d6 : decode cc (pc + 6) = .ok (.invokespecial ic, 3)) (d9 : decode cc (pc + 9) = .ok (.athrow, 1))
    (hout : ∀ x ∈ c.exceptionTable.toList, covers x (pc + 9) = false)
    (hRframes : names.length + 3 < R.frames) (hRlocals : (rest.map fun v => v.category).sum + (13 * (names.length + 1) + 43) ≤ R.locals) (hRcells : cells + 1 ≤ R.cells) (hRslots : slots + 6 ≤ R.slots) (hlocks : meth.locks = false)
    (hx : ∀ t : State, s.vm.Alike t.vm → H.size ≤ t.heap.size → (∀ q : Nat, q < H.size → t.heap[q]? = H[q]?) → XC cls s t)
    (hf : ∀ z ∈ locs, free z.base) (hc : cells + 1 ≤ mc) (hs : slots + 6 ≤ ms) :
    W p l e R s m args below meth c H locs cells slots (vx_MQ below Qc XC args s mc ms free) (F0 m pc ls rest) := by
  intro T hT X
  have htr : e.platform.stackTraces = false := (show e.platform.stackTraces = l.stackTraces by rw [X.admits.platform]).trans hl
  have Y := vx_rebase X (R' := { frames := R.frames, locals := R.locals, cells := 1, slots := 6 }) (Nat.le_refl _) (Nat.le_refl _) hRcells hRslots
  obtain ⟨s', hA⟩ : ∃ z, z = (T.setVm s.vm).setFrames (.invoking m args :: below) := ⟨_, rfl⟩
  rw [← hA] at Y
  have hvm : s'.vm = s.vm := by rw [hA]; rfl
  have hhp : s'.heap = H := by rw [hA]; exact hT
  have hW0 : s.WarmedH s'.vm := by rw [hvm]; exact State.WarmedH.refl s
  have hat' : ∀ w ∈ vx_atS own ic cls names, w.before args s' = true := fun w hw => vx_ot_at hW0 hvm.symm (hgood w (List.mem_cons_of_mem _ (List.mem_cons_of_mem _ hw))) (hat w hw)
  have hk' : (Cond.classLink own ik cls).before args s' = true := vx_ot_at hW0 hvm.symm (hgood _ List.mem_cons_self) hk
  have hini' : (Cond.initialized cls).before args s' = true := vx_ot_at hW0 hvm.symm (hgood _ (List.mem_cons_of_mem _ List.mem_cons_self)) hini
  have hU' : vx_Zq Bundle.tN "UNASSIGNED_STACK" Bundle.steD A s' s'.heap := by rw [hhp]; exact vx_Zq.moved hW0.alike (hU.kept hS.2.1)
  have hN' : vx_Zq Bundle.tN "SUPPRESSED_SENTINEL" Bundle.listD A s' s'.heap := by rw [hhp]; exact vx_Zq.moved hW0.alike (hN.kept hS.2.1)
  have h : ∀ w ∈ Bundle.ownAtoms own ic cls names, w.before args s' = true := vx_own hat' (vx_isRefq hU'.1) (vx_isRefq hN'.1) hU'.2.word hN'.2.word
  have hown' : s'.vm.findClass own = some m.cls := by rw [hvm]; exact hown
  have hins : (Cond.instantiable cls 6).before args s' = true := h _ (by simp [Bundle.ownAtoms])
  obtain ⟨vm₁, cX, kX, hfX, hkX, -, -, X₁, st1⟩ := Y.newCold hexec (own := own) (C := cls) (index := ik) (n := 6) hown' hk' hins hini'
    (g := F0 m pc ls rest) rfl (by rw [hb]; exact d0) (Nat.le_refl _) (Nat.le_refl _)
  generalize hT1 : (T.setVm vm₁).pushCell { cls := cX, slots := kX.instanceTypes.map defaultValue, vm := .none } = T1 at X₁ st1
  have hcat : (Value.ref T.heap.size).category = 1 := rfl
  have hcellA : T1.heap[T.heap.size]? = some (freshCell cX kX) := by rw [← hT1]; exact State.heap_pushCell_size _ _
  have d3' : decode c.code (pc + 3) = .ok (.dup, 1) := by rw [hb]; exact d3
  have d4' : decode c.code (pc + 4) = .ok (.ldc is, 2) := by rw [hb]; exact d4
  have hstr' : vk_R own is text sa s' := vk_R.warm hW0 hstr
  obtain ⟨U, hsteps, hrun, hend, hW, hsame, ce, hce, hO⟩ := X₁.ctorThrowS hexec htr (own := own) (cls := cls) (names := names) (ic := ic) hown' hcls hnames h (fun x hx => nomatch hx) hfX hkX hcellA (by rw [hhp, hT]; exact Nat.le_refl _) (msg := .ref sa) rfl
    (g := { method := m, pc := pc + 6, locals := ls, stack := .ref sa :: .ref T.heap.size :: .ref T.heap.size :: rest, locked := none }) rfl hsize rfl rfl (rest := rest) rfl
    (by rw [hb]; exact d6) (by rw [hb]; exact d9) hout hRframes (by simp only [List.map_cons, List.sum_cons, hcat]; omega) hlocks
  obtain ⟨f1, f2⟩ := vx_frame hsame
  rw [hhp] at f1 f2
  have hWs : s.WarmedH U.vm := State.WarmedH.trans hW0 hW
  have hcl : s.vm.findClass cls = some ce.cls := by
    have h9 := hO.cls
    rw [hvm] at h9
    exact h9
  have hall : s.sameButNew ({ U with vm := s.vm } : State) locs mc ms := by
    subst hA
    obtain ⟨e1, e2⟩ := hsame
    rw [State.setFrames_setFrames] at e1
    have h2 : (T.setVm s.vm).sameButNew ({ U with vm := s.vm } : State) [] (0 + 1) (0 + 6) := ⟨e1, e2⟩
    have h3 := X.same.trans h2
    rw [List.append_nil] at h3
    exact h3.mono hc hs
  refine ⟨U, ?_, .threw T.heap.size, hrun, hend, Or.inr ⟨T.heap.size, rfl, cls, ce, locs, hx U hWs.alike f1 (fun q hq => f2 q hq (fun z hz => nomatch hz)), hce, hO.vm, hcl, hWs, hall, hf⟩⟩
  refine st1 _ ?_
  show Steps p.tables e below (T1.setTop { method := m, pc := pc + 3, locals := ls, stack := .ref T.heap.size :: rest, locked := none }) _
  jvm_step X₁.here [X₁.here.top, hexec, d3', Value.category]
  exact X₁.ldcString hexec (own := own) (text := text) (index := is) (a := sa) hown' hstr'.1 hstr'.2
    (g := { method := m, pc := pc + 4, locals := ls, stack := .ref T.heap.size :: .ref T.heap.size :: rest, locked := none }) rfl d4' _ hsteps
/-- 'throw new E("text")', the text by a wide index -/
theorem vx_throwSW {cc : ByteArray} {pc : Nat} (hexec : p.tables.exec = Jvm.exec) (hb : c.code = cc) (hl : l.stackTraces = false) {own cls text : String} {names : List String} {ik is ic mc ms sa : Nat} {A : Nat → Prop}
    (hown : s.vm.findClass own = some m.cls) (hcls : Bundle.fit cls = true) (hnames : ∀ n ∈ names, Bundle.fit n = true)
    (hk : (Cond.classLink own ik cls).before args s = true) (hini : (Cond.initialized cls).before args s = true) (hstr : vk_R own is text sa s) (hat : ∀ w ∈ vx_atS own ic cls names, w.before args s = true)
    (hgood : ∀ w ∈ Cond.classLink own ik cls :: Cond.initialized cls :: vx_atS own ic cls names, vx_ot w = true)
    (hU : vx_Zq Bundle.tN "UNASSIGNED_STACK" Bundle.steD A s s.heap) (hN : vx_Zq Bundle.tN "SUPPRESSED_SENTINEL" Bundle.listD A s s.heap) (hS : va_S A s.heap H locs) (hsize : ls.size = c.maxLocals)
    (d0 : decode cc pc = .ok (.new ik, 3)) (d3 : decode cc (pc + 3) = .ok (.dup, 1)) (d4 : decode cc (pc + 4) = .ok (.ldc_w is, 3)) (d7 : decode cc (pc + 7) = .ok (.invokespecial ic, 3)) (d10 : decode cc (pc + 10) = .ok (.athrow, 1))
    (hout : ∀ x ∈ c.exceptionTable.toList, covers x (pc + 10) = false)
    (hRframes : names.length + 3 < R.frames) (hRlocals : (rest.map fun v => v.category).sum + (13 * (names.length + 1) + 43) ≤ R.locals) (hRcells : cells + 1 ≤ R.cells) (hRslots : slots + 6 ≤ R.slots) (hlocks : meth.locks = false)
    (hx : ∀ t : State, s.vm.Alike t.vm → H.size ≤ t.heap.size → (∀ q : Nat, q < H.size → t.heap[q]? = H[q]?) → XC cls s t)
    (hf : ∀ z ∈ locs, free z.base) (hc : cells + 1 ≤ mc) (hs : slots + 6 ≤ ms) :
    W p l e R s m args below meth c H locs cells slots (vx_MQ below Qc XC args s mc ms free) (F0 m pc ls rest) := by
  intro T hT X
  have htr : e.platform.stackTraces = false := (show e.platform.stackTraces = l.stackTraces by rw [X.admits.platform]).trans hl
  have Y := vx_rebase X (R' := { frames := R.frames, locals := R.locals, cells := 1, slots := 6 }) (Nat.le_refl _) (Nat.le_refl _) hRcells hRslots
  obtain ⟨s', hA⟩ : ∃ z, z = (T.setVm s.vm).setFrames (.invoking m args :: below) := ⟨_, rfl⟩
  rw [← hA] at Y
  have hvm : s'.vm = s.vm := by rw [hA]; rfl
  have hhp : s'.heap = H := by rw [hA]; exact hT
  have hW0 : s.WarmedH s'.vm := by rw [hvm]; exact State.WarmedH.refl s
  have hat' : ∀ w ∈ vx_atS own ic cls names, w.before args s' = true := fun w hw => vx_ot_at hW0 hvm.symm (hgood w (List.mem_cons_of_mem _ (List.mem_cons_of_mem _ hw))) (hat w hw)
  have hk' : (Cond.classLink own ik cls).before args s' = true := vx_ot_at hW0 hvm.symm (hgood _ List.mem_cons_self) hk
  have hini' : (Cond.initialized cls).before args s' = true := vx_ot_at hW0 hvm.symm (hgood _ (List.mem_cons_of_mem _ List.mem_cons_self)) hini
  have hU' : vx_Zq Bundle.tN "UNASSIGNED_STACK" Bundle.steD A s' s'.heap := by rw [hhp]; exact vx_Zq.moved hW0.alike (hU.kept hS.2.1)
  have hN' : vx_Zq Bundle.tN "SUPPRESSED_SENTINEL" Bundle.listD A s' s'.heap := by rw [hhp]; exact vx_Zq.moved hW0.alike (hN.kept hS.2.1)
  have h : ∀ w ∈ Bundle.ownAtoms own ic cls names, w.before args s' = true := vx_own hat' (vx_isRefq hU'.1) (vx_isRefq hN'.1) hU'.2.word hN'.2.word
  have hown' : s'.vm.findClass own = some m.cls := by rw [hvm]; exact hown
  have hins : (Cond.instantiable cls 6).before args s' = true := h _ (by simp [Bundle.ownAtoms])
  obtain ⟨vm₁, cX, kX, hfX, hkX, -, -, X₁, st1⟩ := Y.newCold hexec (own := own) (C := cls) (index := ik) (n := 6) hown' hk' hins hini'
    (g := F0 m pc ls rest) rfl (by rw [hb]; exact d0) (Nat.le_refl _) (Nat.le_refl _)
  generalize hT1 : (T.setVm vm₁).pushCell { cls := cX, slots := kX.instanceTypes.map defaultValue, vm := .none } = T1 at X₁ st1
  have hcat : (Value.ref T.heap.size).category = 1 := rfl
  have hcellA : T1.heap[T.heap.size]? = some (freshCell cX kX) := by rw [← hT1]; exact State.heap_pushCell_size _ _
  have d3' : decode c.code (pc + 3) = .ok (.dup, 1) := by rw [hb]; exact d3
  have d4' : decode c.code (pc + 4) = .ok (.ldc_w is, 3) := by rw [hb]; exact d4
  have hstr' : vk_R own is text sa s' := vk_R.warm hW0 hstr
  obtain ⟨U, hsteps, hrun, hend, hW, hsame, ce, hce, hO⟩ := X₁.ctorThrowS hexec htr (own := own) (cls := cls) (names := names) (ic := ic) hown' hcls hnames h (fun x hx => nomatch hx) hfX hkX hcellA (by rw [hhp, hT]; exact Nat.le_refl _) (msg := .ref sa) rfl
    (g := { method := m, pc := pc + 7, locals := ls, stack := .ref sa :: .ref T.heap.size :: .ref T.heap.size :: rest, locked := none }) rfl hsize rfl rfl (rest := rest) rfl
    (by rw [hb]; exact d7) (by rw [hb]; exact d10) hout hRframes (by simp only [List.map_cons, List.sum_cons, hcat]; omega) hlocks
  obtain ⟨f1, f2⟩ := vx_frame hsame
  rw [hhp] at f1 f2
  have hWs : s.WarmedH U.vm := State.WarmedH.trans hW0 hW
  have hcl : s.vm.findClass cls = some ce.cls := by
    have h9 := hO.cls
    rw [hvm] at h9
    exact h9
  have hall : s.sameButNew ({ U with vm := s.vm } : State) locs mc ms := by
    subst hA
    obtain ⟨e1, e2⟩ := hsame
    rw [State.setFrames_setFrames] at e1
    have h2 : (T.setVm s.vm).sameButNew ({ U with vm := s.vm } : State) [] (0 + 1) (0 + 6) := ⟨e1, e2⟩
    have h3 := X.same.trans h2
    rw [List.append_nil] at h3
    exact h3.mono hc hs
  refine ⟨U, ?_, .threw T.heap.size, hrun, hend, Or.inr ⟨T.heap.size, rfl, cls, ce, locs, hx U hWs.alike f1 (fun q hq => f2 q hq (fun z hz => nomatch hz)), hce, hO.vm, hcl, hWs, hall, hf⟩⟩
  refine st1 _ ?_
  show Steps p.tables e below (T1.setTop { method := m, pc := pc + 3, locals := ls, stack := .ref T.heap.size :: rest, locked := none }) _
  jvm_step X₁.here [X₁.here.top, hexec, d3', Value.category]
  exact X₁.ldcStringW hexec (own := own) (text := text) (index := is) (a := sa) hown' hstr'.1 hstr'.2
    (g := { method := m, pc := pc + 4, locals := ls, stack := .ref T.heap.size :: .ref T.heap.size :: rest, locked := none }) rfl d4' _ hsteps
end Ends
section Bodies
variable {l : Launch}
theorem vx_ofW {y : MethodName} {ws ws' : List Cond} {rm : Room} {Pc : Array Value → State → Prop} {Qc : Array Value → State → Outcome → State → Prop} {XC : String → State → State → Prop} {mc ms : Nat} {free : Addr → Prop} {cc : ByteArray} {maxL : Nat} {ret : Option FieldType}
    (hy : plainName y.cls = true) (hw : ws = Cond.code y cc maxL ret :: ws')
    (body : ∀ p e s m args below meth c s₁, BodyLoose p l y (headSpec ws rm) cc maxL ret e s m args below meth c s₁ → c.maxLocals = maxL → (∀ x ∈ c.exceptionTable.toList, False) → Pc args s →
      W p l e (headSpec ws rm).room s m args below meth c s.heap [] 0 0 (vx_MQ below Qc XC args s mc ms free) (entryFrame m args maxL)) : vx_Met l y ws rm Pc Qc XC mc ms free := by
  refine MetFree.of_bodyS (code := cc) (maxLocals := maxL) (ret := ret) hy ?_ ?_
  · intro args s m h hn
    obtain ⟨meth, c, h1, h2, h3, h4, h5, h6, -, -⟩ := Cond.code_spec hn (atoms_spec (ws := ws) h _ (by rw [hw]; exact List.mem_cons_self))
    exact ⟨meth, c, h1, h2, h3, h4, h5, h6⟩
  · intro p e s m args below meth c s₁ B hml hP _
    have hh0 : s₁.heap = s.heap := by rw [B.state]; rfl
    have ht : ∀ x ∈ c.exceptionTable.toList, False := by
      obtain ⟨meth9, c9, h1, h2, -, -, -, -, h7, -⟩ := Cond.code_spec B.named (atoms_spec (ws := ws) B.pre _ (by rw [hw]; exact List.mem_cons_self))
      cases Option.some.inj (h1.symm.trans B.method)
      cases Option.some.inj (h2.symm.trans (Stand.of_body B).code)
      intro x hx
      rw [Array.isEmpty_iff.mp h7] at hx
      cases hx
    obtain ⟨t, a1, o, b1, b2, b3⟩ := body p e s m args below meth c s₁ B hml ht hP s₁ hh0 (Stand.of_body B)
    exact ⟨t, o, a1, b1, b2, b3⟩
/-- the table of a body with handlers -/
theorem vx_table {p : Program} {x y : MethodName} {S : Spec} {cc bytes : ByteArray} {maxL maxL' : Nat} {ret ret' : Option FieldType} {e : Env} {s s₁ : State} {m : MethodId} {args : Array Value} {below : List Frame} {meth : Method} {c : Code} {hh : List (Nat × Nat × Nat × Nat)}
    (B : BodyLoose p l y S cc maxL ret e s m args below meth c s₁) (h : (Cond.codeWith y bytes maxL' ret' hh).before args s = true) : c.exceptionTable.toList = tableOf hh := by
  obtain ⟨m9, meth9, c9, hn9, h1, h2, -, -, h6, -⟩ := Cond.codeWith_spec h
  cases Option.some.inj (hn9.symm.trans B.named)
  cases Option.some.inj (h1.symm.trans B.method)
  cases Option.some.inj (h2.symm.trans (Stand.of_body B).code)
  rw [← h6, table_eq]
end Bodies
end VXA
/-! ===== END ===== -/
/-! ===== BEGIN a static call of a method with an exception table ===== -/
section VXS
variable {p : Program} {l : Launch} {e : Env} {R : Room} {s : State} {m : MethodId} {args : Array Value} {below : List Frame} {meth : Method} {c : Code} {T : State} {H : Heap} {locs : List Loc} {cells slots : Nat}
abbrev vx_CSW (R : Room) (s : State) (args : Array Value) (own : String) (index : Nat) (y : MethodName) (bytes : ByteArray) (maxL : Nat) (ret : Option FieldType) (hh : List (Nat × Nat × Nat × Nat)) (ws : List Cond) (rm : Room) (mc ms n : Nat) : Prop :=
  (rm.cells = mc ∧ rm.slots = ms ∧ rm.frames + 1 ≤ R.frames ∧ 8 + (maxL + 11) + rm.locals ≤ R.locals ∧ (∀ w ∈ ws, ∀ (a' : Array Value) (U : State), s.WarmedH U.vm → w.before a' U = true) ∧ Cond.codeWith y bytes maxL ret hh ∈ ws) ∧
  (Cond.codeWith y bytes maxL ret hh).before args s = true ∧ (Cond.initialized y.cls).before args s = true ∧ (y.cls ≠ "java/lang/invoke/MethodHandle" ∧ y.cls ≠ "java/lang/invoke/VarHandle") ∧
  (∀ sig, parseMethodDescriptor y.desc = some sig → n = sig.parameters.length) ∧ (Cond.methodLink own index y).before args s = true ∧ (Cond.static y).before args s = true
theorem vx_cwSW {own : String} {index maxL mc ms : Nat} {y : MethodName} {bytes : ByteArray} {ret : Option FieldType} {hh : List (Nat × Nat × Nat × Nat)} {Ts ws ws' : List Cond} {rm : Room} (n : Nat) (ht : ∀ w ∈ Ts, w.before args s = true) (hT : GoodIn Ts (va_wsS own index y ws)) (hw : ws = Cond.codeWith y bytes maxL ret hh :: ws') (hrc : rm.cells = mc) (hrs : rm.slots = ms)
    (hd : y.cls ≠ "java/lang/invoke/MethodHandle" ∧ y.cls ≠ "java/lang/invoke/VarHandle" ∧ (parseMethodDescriptor y.desc).map (fun d => d.parameters.length) = some n) (hR : rm.frames + 1 ≤ R.frames ∧ 8 + (maxL + 11) + rm.locals ≤ R.locals) :
    vx_CSW R s args own index y bytes maxL ret hh ws rm mc ms n := by
  have ok : ∀ w ∈ va_wsS own index y ws, w.before args s = true := fun w h => ht w (hT w h).1
  have hG : GoodIn Ts ws := fun w h => hT w (by unfold va_wsS; exact List.mem_append_right _ h)
  have hc : Cond.codeWith y bytes maxL ret hh ∈ ws := by rw [hw]; exact List.mem_cons_self
  refine ⟨⟨hrc, hrs, hR.1, hR.2, pay_in ht hG, hc⟩, ht _ (hG _ hc).1, ok _ (by simp [va_wsS]), ⟨hd.1, hd.2.1⟩, fun sig h => ?_, ok _ (by simp [va_wsS]), ok _ (by simp [va_wsS])⟩
  have h2 := hd.2.2
  rw [h] at h2
  exact (Option.some.inj h2).symm
theorem vx_callSW (X : Stand p l e R s m args below meth c T locs cells slots) (hexec : p.tables.exec = Jvm.exec) {own : String} {index : Nat} {y : MethodName} {bytes : ByteArray} {maxL : Nat} {ret : Option FieldType} {hh : List (Nat × Nat × Nat × Nat)}
    (hown : s.vm.findClass own = some m.cls) (hlink : (Cond.methodLink own index y).before args s = true) (hstat : (Cond.static y).before args s = true) (hinit : (Cond.initialized y.cls).before args s = true)
    (hcode : (Cond.codeWith y bytes maxL ret hh).before args s = true) (hy : y.cls ≠ "java/lang/invoke/MethodHandle" ∧ y.cls ≠ "java/lang/invoke/VarHandle")
    {W9 : Nat} {Pre : Pt → Array Value → Prop} {Post : Pt → Array Value → Option Value → Pt → Prop} (hK : Back l R p e below s args y 3 W9 Pre Post)
    {g : JFrame} (hg : g.method = m) (hsize : g.locals.size = c.maxLocals) {argsL rest : List Value} (hlen : ∀ sig, parseMethodDescriptor y.desc = some sig → argsL.length = sig.parameters.length)
    (hstack : g.stack = argsL.reverse ++ rest) (hW : 2 * g.monitorRoom + (rest.map fun v => v.category).sum ≤ W9) (hdg : decode c.code g.pc = .ok (.invokestatic index, 3))
    (hpre : ∀ vm₁, s.WarmedH vm₁ → Pre ⟨T.setVm vm₁, locs, cells, slots⟩ argsL.toArray) :
    ∃ (v : Option Value) (vm₁ : Vm) (B : Pt), s.WarmedH vm₁ ∧ Stand p l e R s m args below meth c B.U B.locs B.cells B.slots ∧ Post ⟨T.setVm vm₁, locs, cells, slots⟩ argsL.toArray v B ∧
      ∀ target, Steps p.tables e below (B.U.setTop { g with pc := g.pc + 3, stack := v.toList ++ rest }) target → Steps p.tables e below (T.setTop g) target := by
  obtain ⟨mk, methM, cM, hnamed, hmethM, -, -, -, -, -, -, hsigM⟩ := Cond.codeWith_spec hcode
  have hstatic : methM.isStatic = true := Cond.static_spec hnamed hmethM hstat
  obtain ⟨kP, hkP, -⟩ := className_of_methodNamed hnamed
  have hinitP : kP.init = .initialized := Cond.initialized_spec (findClass_of_methodNamed hnamed) hkP hinit
  obtain ⟨vm₁, X₁, hstep₁⟩ := X.invokestatic hexec hown hlink hnamed hmethM hstatic hkP hinitP hy (g := g) hg (argsL := argsL) (rest := rest) (hlen _ hsigM) hstack hdg
  obtain ⟨v, B, X', hpost, hsteps⟩ := hK m meth c ⟨T.setVm vm₁, locs, cells, slots⟩ { g with stack := rest } (.invokestatic index) mk argsL.toArray X₁ hg hsize hdg hW (X₁.named hnamed) (hpre vm₁ X₁.warmed)
  exact ⟨v, vm₁, B, X₁.warmed, X', hpost, fun target h => hstep₁ _ fun acts => by rw [doInvoke_state]; exact hsteps.trans h⟩
theorem vx_runSW {y : MethodName} {bytes cc : ByteArray} {maxL nL mc ms n index : Nat} {ret : Option FieldType} {hh : List (Nat × Nat × Nat × Nat)} {ws : List Cond} {rm : Room} {Pc : Array Value → State → Prop} {Qc : Array Value → State → Outcome → State → Prop} {free : Addr → Prop} {Ts : List Cond} {own : String} {As rest : List Value} {g : JFrame}
    (S : CallFix p m c cc nL s args Ts own) (hM : Met l y ws rm Pc Qc mc ms free) (cw : vx_CSW R s args own index y bytes maxL ret hh ws rm mc ms n) (hp : PreS s H Pc As)
    (hg : g.method = m) (hn : As.length = n) (hsize : g.locals.size = nL) (hstack : g.stack = As.reverse ++ rest) (hW : 2 * g.monitorRoom + (rest.map fun v => v.category).sum ≤ 8) (hdg : decode cc g.pc = .ok (.invokestatic index, 3)) (hf : cells + mc ≤ R.cells ∧ slots + ms ≤ R.slots) :
    va_Run p l e R s m args below meth c H locs cells slots mc ms g rest (Qc As.toArray) (free) := by
  obtain ⟨⟨hrc, hrs, hfr, hlo, hws, hcw⟩, hcode, hini, hy, hlen, hl, hstt⟩ := cw
  have hK : Back l R p e below s args y 3 8 (PreOf R mc ms Pc) (PostOf Qc mc ms free) := va_backW (hh := hh) (bytes := bytes) (maxL := maxL) (ret := ret) hM hp.1 hrc hrs hfr hlo hws hcw (fun a' U hW => word_at hW (Or.inl (by first | rfl | simp [Cond.onTables, Cond.keeps, Cond.steady])) hini)
  obtain ⟨hx, hb, hml, ho, -⟩ := S
  intro T hT X
  obtain ⟨v, vm₁, ⟨U', l2, c2, s2⟩, hW₁, X', ⟨g', mk, t, L, e1, e2, hq, h1, hL, h2, h3⟩, st⟩ := vx_callSW X hx (hh := hh) (bytes := bytes) (maxL := maxL) (ret := ret) ho hl hstt hini hcode hy hK hg (hsize.trans hml.symm) (argsL := As) (rest := rest) (fun sig h => hn.trans (hlen sig h)) hstack hW (by rw [hb]; exact hdg)
    (fun vm₁ hW₁ => ⟨hf.1, hf.2, hp.2 (T.setVm vm₁) hT hW₁⟩)
  dsimp only [Pt.U, Pt.locs, Pt.cells, Pt.slots] at X' e1 e2 h1 h2 h3 st
  subst h1; subst h2; subst h3
  exact ⟨v, (T.setVm vm₁).calling g' mk As.toArray, t, U', L, hT, X', hL, e1, e2, hq, st⟩
/-- not caught here, past rows that name other classes: it goes on to the caller -/
theorem vx_outP {p : Program} {l : Launch} {e : Env} {R : Room} {s : State} {m : MethodId} {args : Array Value} {below : List Frame} {meth : Method} {c : Code} {H : Heap} {locs : List Loc} {cells slots : Nat} {free : Addr → Prop} {ls : Array Slot} {rest : List Value} {Qc : Array Value → State → Outcome → State → Prop} {XC : String → State → State → Prop}
    {pc : Nat} {own E : String} {ce : Cell} {q : Addr} {mc ms : Nat} (hown : s.vm.findClass own = some m.cls) (hlocks : meth.locks = false)
    (hpass : ∀ z ∈ c.exceptionTable.toList, covers z pc = false ∨ (z.catchType ≠ 0 ∧ ∃ nm : String, (Cond.classLink own z.catchType nm).before args s = true ∧ va_Nc E nm s)) (hcell : H[q]? = some ce) (hv : ce.vm = .none) (hcl : s.vm.findClass E = some ce.cls)
    (hx : ∀ t : State, t.heap = H → s.vm.Alike t.vm → XC E s t) (hf : ∀ z ∈ locs, free z.base) (hc : cells ≤ mc) (hs : slots ≤ ms) :
    vx_W p l e R s m args below meth c H locs cells slots (vx_MQ below Qc XC args s mc ms free) (F0 m pc ls rest) q := by
  intro T hT X
  have hpl : e.platform.magicAccessors = ({} : Platform).magicAccessors := by rw [X.admits.platform]
  obtain ⟨vm', hW', X', st⟩ := X.outThrough hlocks q (g := F0 m pc ls rest) rfl rfl rfl (cell := ce) (by rw [hT]; exact hcell) (by rw [hv]; rfl)
    (by obtain ⟨k9, h9, -⟩ := Vm.findClass_spec hcl; exact ⟨k9, h9⟩) (fun z hz => by
      rcases hpass z hz with h | ⟨hz0, nm, hl1, hn1⟩
      · exact Or.inl h
      · obtain ⟨c6, hc6, hcl6⟩ := Cond.classLink_spec hown hl1 e.platform hpl
        obtain ⟨a8, b8, h1, h2, h3⟩ := hn1
        cases Option.some.inj (h1.symm.trans hcl)
        cases Option.some.inj (h2.symm.trans hc6)
        exact Or.inr ⟨hz0, _, hcl6, h3⟩)
  obtain ⟨g₀, hfr⟩ := X'.frames_eq
  have hcell9 : ((T.setVm vm').setFrames (.throwing q :: below)).heap[q]? = some ce := by
    show T.heap[q]? = some ce
    rw [hT]; exact hcell
  have hend : Ended ((T.setVm vm').setFrames (.throwing q :: below)) below (.threw q) := State.frames_setFrames _ (State.cur_lt_of_frames hfr)
  refine ⟨(T.setVm vm').setFrames (.throwing q :: below), ?_, .threw q, X'.here.running, hend, Or.inr ⟨q, rfl, E, ce, locs, hx _ hT (X'.ends _).1.alike, hcell9, hv, hcl, (X'.ends _).1, (X'.ends _).2.mono hc hs, hf⟩⟩
  rw [X.pushThrowing_eq]
  exact st
/-- a thing of a world lies in the heap -/
theorem vx_lt {D : va_G} {cl : List vw_C} {ws : va_W} {H1 : Heap} (h : va_P D cl ws H1) {k : Nat} {q : Nat × va_E} (hk : ws[k]? = some q) : q.1 < H1.size := (h k q hk).lt
end VXS
/-! ===== END ===== -/
/-! ===== BEGIN methods with a table of their own: called by a name, returning or throwing ===== -/
section VXH
/-! vx_backW, vx_callVX, vx_callSX, vx_callVW, vx_runVW, vx_runVX, vx_runSX, vx_ofWH follow the same proofs as their sisters above (Free/Laws.lean, Shelf42/LK1.lean); vx_outP calls Shelf42/NT130.lean (outThrough). -/
section
variable {l : Launch} {R : Room} {p : Program} {e : Env} {below : List Frame} {s : State} {sargs : Array Value} {y : MethodName} {len W9 : Nat}
theorem vx_backW {ws : List Cond} {rm : Room} {Pc : Array Value → State → Prop} {Qc : Array Value → State → Outcome → State → Prop} {XC : String → State → State → Prop} {mc ms : Nat} {free : Addr → Prop} {bytes : ByteArray} {maxL : Nat} {ret : Option FieldType} {hh : List (Nat × Nat × Nat × Nat)}
    (hM : vx_Met l y ws rm Pc Qc XC mc ms free) (hblind : FrameBlind Pc) (hrc : rm.cells = mc) (hrs : rm.slots = ms)
    (hframes : rm.frames + 1 ≤ R.frames) (hlocals : W9 + (maxL + 11) + rm.locals ≤ R.locals)
    (hws : ∀ w ∈ ws, ∀ a' U, s.WarmedH U.vm → w.before a' U = true) (hcode : Cond.codeWith y bytes maxL ret hh ∈ ws) (hinit : ∀ a' U, s.WarmedH U.vm → (Cond.initialized y.cls).before a' U = true) :
    vx_Back l R p e below s sargs y len W9 (PreOf R mc ms Pc) (PostOf Qc mc ms free) (vx_Post XC mc ms free) := by
  intro m meth c A g ig mk a X hg hsize hdg hW hn hp
  have h1 : (headSpec ws rm).pre.before a A.U = true := atoms_intro fun w hw => hws w hw _ _ X.warmed
  have h2 : (Cond.codeWith y bytes maxL ret hh).before a A.U = true := hws _ hcode _ _ X.warmed
  have h3 : (Cond.initialized y.cls).before a A.U = true := hinit _ _ X.warmed
  have h4 : A.cells + (headSpec ws rm).room.cells ≤ R.cells := by rw [show (headSpec ws rm).room.cells = mc from hrc]; exact hp.1
  have h5 : A.slots + (headSpec ws rm).room.slots ≤ R.slots := by rw [show (headSpec ws rm).room.slots = ms from hrs]; exact hp.2.1
  have hPc : Pc a (A.U.calling g mk a) := hblind _ _ _ _ hp.2.2
  obtain ⟨U, Ls, c0, s0⟩ := A
  dsimp only [Pt.U, Pt.locs, Pt.cells, Pt.slots] at h1 h2 h3 h4 h5 X hn hPc ⊢
  obtain ⟨m9, methY, cY, hn9, hmY, hcY, -, hlY, -⟩ := Cond.codeWith_spec h2
  cases Option.some.inj (hn9.symm.trans hn)
  obtain ⟨kY, hkY, -⟩ := className_of_methodNamed hn
  have hinitY : kY.init = .initialized := Cond.initialized_spec (findClass_of_methodNamed hn) hkY h3
  have h : At U g.method c below := by rw [hg]; exact X.here
  have hlocals9 : W9 + (maxL + 11) + (headSpec ws rm).room.locals ≤ R.locals := hlocals
  have happ : (headSpec ws rm).appliesLoose y e.platform (U.calling g mk a) = true :=
    Spec.appliesLoose_calling (g := g) h hdg hn hkY hinitY
      (X.room_calling (g := g) (R' := (headSpec ws rm).room) hsize hmY hcY hframes (by rw [hlY]; omega) h4 h5) h1
  obtain ⟨mid, hmid⟩ := h.above
  have hfr : (U.setTop g).frames = (.java g :: mid) ++ below := by rw [State.frames_setTop' g h.top, hmid]; rfl
  obtain ⟨o, s₂, hsteps, -, hend, hq⟩ := Steps.callFree hM p X.admits X.cas X.clock (acts := []) hfr happ hPc trivial
  have hq' : vx_Q Qc XC mc ms free a (U.calling g mk a) o s₂ := hq
  rw [State.frames_setTop' g h.top] at hend
  obtain ⟨g₀, hg0⟩ := Option.isSome_iff_exists.mp h.top
  obtain ⟨r, hr⟩ := State.topJava?_eq_some.mp hg0
  have hr' : (({ U with heap := s₂.heap, slotsUsed := s₂.slotsUsed } : State).setVm s₂.vm).frames = .java g₀ :: r := hr
  rcases hq' with ⟨hqc, L, hfe, hL⟩ | ⟨q, rfl, E, ce, L, hx, hce, hcv, hcl, hW₂, hsm, hL⟩
  · obtain ⟨⟨v, rfl⟩, hW₂, e2, q2, q3, q4, q5, q6⟩ := id hfe
    have e3 : s₂ = ({ (U.calling g mk a).setFrames s₂.frames with heap := s₂.heap, slotsUsed := s₂.slotsUsed } : State).setVm s₂.vm := by
      have : s₂ = ({ s₂ with vm := (U.calling g mk a).vm } : State).setVm s₂.vm := rfl
      rw [e2] at this
      exact this
    obtain ⟨c₂, i₂, len₂, hc₂, hd₂, hf₂⟩ := hend
    have hW' : U.WarmedH s₂.vm := hW₂
    have hcc : c₂ = c := by
      have h1 : s₂.code? g.method = U.code? g.method := by
        rw [State.code?_eq, State.code?_eq, hW'.alike.method?]
      exact Option.some.inj (hc₂.symm.trans (h1.trans h.code))
    subst hcc
    have hlen : len₂ = len := by rw [hdg] at hd₂; cases hd₂; rfl
    subst hlen
    have hs₂ : s₂ = (({ U with heap := s₂.heap, slotsUsed := s₂.slotsUsed } : State).setVm s₂.vm).setTop { g with pc := g.pc + len₂, stack := v.toList ++ g.stack } := by
      refine e3.trans ?_
      rw [hf₂, State.calling_eq h.top, State.setFrames_setFrames, State.setTop_of_frames _ hr', hr]
      rfl
    have hsame : U.sameButNew ({ U with heap := s₂.heap, slotsUsed := s₂.slotsUsed } : State) L mc ms := by
      refine ⟨?_, q2, q3, q4, q5, q6⟩
      obtain ⟨t, ht, -⟩ := State.frames_cons hr
      show ({ U with heap := s₂.heap, slotsUsed := s₂.slotsUsed } : State) = { U.setFrames U.frames with heap := s₂.heap, slotsUsed := s₂.slotsUsed }
      rw [State.setFrames_self ht]
    subst hg
    refine Or.inl ⟨v, ⟨(({ U with heap := s₂.heap, slotsUsed := s₂.slotsUsed } : State).setVm s₂.vm), Ls ++ L, c0 + mc, s0 + ms⟩,
      ⟨X.admits, X.cas, X.clock, X.frames, X.room, X.hears, X.method, X.code, (X.here.setHeapUsed s₂.heap s₂.slotsUsed).setVm hW'.alike, X.tail, State.WarmedH.trans X.warmed hW', X.limits, X.bytes, X.same.trans (hsame.setVm s.vm)⟩,
      ⟨g, mk, s₂, L, rfl, rfl, hqc, rfl, hL, rfl, rfl⟩, ?_⟩
    show Steps p.tables e below _ ((({ U with heap := s₂.heap, slotsUsed := s₂.slotsUsed } : State).setVm s₂.vm).setTop { g with pc := g.pc + len₂, stack := v.toList ++ g.stack })
    rw [← hs₂]
    exact hsteps
  · obtain ⟨e2, q2, q3, q4, q5, q6⟩ := id hsm
    have e3 : s₂ = ({ (U.calling g mk a).setFrames s₂.frames with heap := s₂.heap, slotsUsed := s₂.slotsUsed } : State).setVm s₂.vm := by
      have : s₂ = ({ s₂ with vm := (U.calling g mk a).vm } : State).setVm s₂.vm := rfl
      rw [e2] at this
      exact this
    have hf₂ : s₂.frames = .throwing q :: .java g :: U.frames.tail := hend
    have hW' : U.WarmedH s₂.vm := hW₂
    have hs₂ : s₂ = ((({ U with heap := s₂.heap, slotsUsed := s₂.slotsUsed } : State).setVm s₂.vm).setTop g).pushFrame (.throwing q) := by
      refine e3.trans ?_
      rw [hf₂, State.calling_eq h.top, State.setFrames_setFrames, State.pushFrame, State.frames_setTop _ hr', State.setTop_of_frames _ hr', State.setFrames_setFrames, hr]
      rfl
    have hsame : U.sameButNew ({ U with heap := s₂.heap, slotsUsed := s₂.slotsUsed } : State) L mc ms := by
      refine ⟨?_, q2, q3, q4, q5, q6⟩
      obtain ⟨t, ht, -⟩ := State.frames_cons hr
      show ({ U with heap := s₂.heap, slotsUsed := s₂.slotsUsed } : State) = { U.setFrames U.frames with heap := s₂.heap, slotsUsed := s₂.slotsUsed }
      rw [State.setFrames_self ht]
    subst hg
    refine Or.inr ⟨q, ⟨(({ U with heap := s₂.heap, slotsUsed := s₂.slotsUsed } : State).setVm s₂.vm), Ls ++ L, c0 + mc, s0 + ms⟩,
      ⟨X.admits, X.cas, X.clock, X.frames, X.room, X.hears, X.method, X.code, (X.here.setHeapUsed s₂.heap s₂.slotsUsed).setVm hW'.alike, X.tail, State.WarmedH.trans X.warmed hW', X.limits, X.bytes, X.same.trans (hsame.setVm s.vm)⟩,
      ⟨g, mk, s₂, L, E, ce, rfl, rfl, hx, hce, hcv, hcl, rfl, hL, rfl, rfl⟩, ?_⟩
    show Steps p.tables e below _ (((({ U with heap := s₂.heap, slotsUsed := s₂.slotsUsed } : State).setVm s₂.vm).setTop g).pushFrame (.throwing q))
    rw [← hs₂]
    exact hsteps
end
variable {p : Program} {l : Launch} {e : Env} {R : Room} {s : State} {m : MethodId} {args : Array Value} {below : List Frame} {meth : Method} {c : Code} {T : State} {H : Heap} {locs : List Loc} {cells slots : Nat}
theorem vx_callVX (X : Stand p l e R s m args below meth c T locs cells slots) (hexec : p.tables.exec = Jvm.exec) {own C : String} {index : Nat} {y : MethodName} {bytes : ByteArray} {maxL : Nat} {ret : Option FieldType} {hh : List (Nat × Nat × Nat × Nat)}
    (hown : s.vm.findClass own = some m.cls) (hlink : (Cond.methodLink own index y).before args s = true) (hinst : (Cond.instanceMethod y).before args s = true) (hsel : (Cond.selects C y y).before args s = true)
    (hcode : (Cond.codeWith y bytes maxL ret hh).before args s = true) (hy : y.cls ≠ "java/lang/invoke/MethodHandle" ∧ y.cls ≠ "java/lang/invoke/VarHandle")
    {W9 : Nat} {Pre : Pt → Array Value → Prop} {Post : Pt → Array Value → Option Value → Pt → Prop} {PostX : Pt → Array Value → Addr → Pt → Prop} (hK : vx_Back l R p e below s args y 3 W9 Pre Post PostX)
    {b : Addr} {cellB : Cell} (hcell : T.heap[b]? = some cellB) (hobj : cellB.vm.isStatics = false) (hcls : s.vm.findClass C = some cellB.cls)
    {g : JFrame} (hg : g.method = m) (hsize : g.locals.size = c.maxLocals) {argsL rest : List Value} (hlen : ∀ sig, parseMethodDescriptor y.desc = some sig → argsL.length = sig.parameters.length)
    (hstack : g.stack = argsL.reverse ++ .ref b :: rest) (hW : 2 * g.monitorRoom + (rest.map fun v => v.category).sum ≤ W9) (hdg : decode c.code g.pc = .ok (.invokevirtual index, 3))
    (hpre : ∀ vm₁, s.WarmedH vm₁ → Pre ⟨T.setVm vm₁, locs, cells, slots⟩ (Value.ref b :: argsL).toArray) :
    (∃ (v : Option Value) (vm₁ : Vm) (B : Pt), s.WarmedH vm₁ ∧ Stand p l e R s m args below meth c B.U B.locs B.cells B.slots ∧ Post ⟨T.setVm vm₁, locs, cells, slots⟩ (Value.ref b :: argsL).toArray v B ∧
      ∀ target, Steps p.tables e below (B.U.setTop { g with pc := g.pc + 3, stack := v.toList ++ rest }) target → Steps p.tables e below (T.setTop g) target) ∨
    (∃ (q : Addr) (vm₁ : Vm) (B : Pt), s.WarmedH vm₁ ∧ Stand p l e R s m args below meth c B.U B.locs B.cells B.slots ∧ PostX ⟨T.setVm vm₁, locs, cells, slots⟩ (Value.ref b :: argsL).toArray q B ∧
      Steps p.tables e below (T.setTop g) ((B.U.setTop { g with stack := rest }).pushFrame (.throwing q))) := by
  obtain ⟨mk, methM, hnamed, hmethM, hstM, habM⟩ := Cond.instanceMethod_spec hinst
  obtain ⟨m8, methM', cM, hn8, hmethM', -, -, -, -, -, -, hsigM⟩ := Cond.codeWith_spec hcode
  cases Option.some.inj (hn8.symm.trans hnamed)
  cases hmethM.symm.trans hmethM'
  obtain ⟨c2, r2, m2, q1, q2, q3, q4, kP, hkP, hkPi⟩ := Cond.selects_spec hsel
  cases hcls.symm.trans q1
  cases (State.methodFound?_of_named hnamed hy).symm.trans q2
  cases hnamed.symm.trans q3
  have hselP : selectMethod e.platform s.vm cellB.cls mk = .method mk := by rw [Launch.admits_selectMethod X.admits]; exact q4
  obtain ⟨vm₁, X₁, hstep₁⟩ := X.invokevirtual hexec hown hlink hnamed hmethM hstM hkP hkPi hy (a := b) (cell := cellB) hcell
    (fun z h => by rw [h] at hobj; cases hobj) hselP hmethM habM hkP hkPi (g := g) hg (argsL := argsL) (rest := rest) (hlen _ hsigM) hstack hdg
  rcases hK m meth c ⟨T.setVm vm₁, locs, cells, slots⟩ { g with stack := rest } (.invokevirtual index) mk (Value.ref b :: argsL).toArray X₁ hg hsize hdg hW (X₁.named hnamed) (hpre vm₁ X₁.warmed) with ⟨v, B, X', hpost, hsteps⟩ | ⟨q, B, X', hpost, hsteps⟩
  · exact Or.inl ⟨v, vm₁, B, X₁.warmed, X', hpost, fun target h => hstep₁ _ fun acts => by rw [doInvoke_state]; exact hsteps.trans h⟩
  · exact Or.inr ⟨q, vm₁, B, X₁.warmed, X', hpost, hstep₁ _ fun acts => by rw [doInvoke_state]; exact hsteps⟩
theorem vx_callSX (X : Stand p l e R s m args below meth c T locs cells slots) (hexec : p.tables.exec = Jvm.exec) {own : String} {index : Nat} {y : MethodName} {bytes : ByteArray} {maxL : Nat} {ret : Option FieldType} {hh : List (Nat × Nat × Nat × Nat)}
    (hown : s.vm.findClass own = some m.cls) (hlink : (Cond.methodLink own index y).before args s = true) (hstat : (Cond.static y).before args s = true) (hinit : (Cond.initialized y.cls).before args s = true)
    (hcode : (Cond.codeWith y bytes maxL ret hh).before args s = true) (hy : y.cls ≠ "java/lang/invoke/MethodHandle" ∧ y.cls ≠ "java/lang/invoke/VarHandle")
    {W9 : Nat} {Pre : Pt → Array Value → Prop} {Post : Pt → Array Value → Option Value → Pt → Prop} {PostX : Pt → Array Value → Addr → Pt → Prop} (hK : vx_Back l R p e below s args y 3 W9 Pre Post PostX)
    {g : JFrame} (hg : g.method = m) (hsize : g.locals.size = c.maxLocals) {argsL rest : List Value} (hlen : ∀ sig, parseMethodDescriptor y.desc = some sig → argsL.length = sig.parameters.length)
    (hstack : g.stack = argsL.reverse ++ rest) (hW : 2 * g.monitorRoom + (rest.map fun v => v.category).sum ≤ W9) (hdg : decode c.code g.pc = .ok (.invokestatic index, 3))
    (hpre : ∀ vm₁, s.WarmedH vm₁ → Pre ⟨T.setVm vm₁, locs, cells, slots⟩ argsL.toArray) :
    (∃ (v : Option Value) (vm₁ : Vm) (B : Pt), s.WarmedH vm₁ ∧ Stand p l e R s m args below meth c B.U B.locs B.cells B.slots ∧ Post ⟨T.setVm vm₁, locs, cells, slots⟩ argsL.toArray v B ∧
      ∀ target, Steps p.tables e below (B.U.setTop { g with pc := g.pc + 3, stack := v.toList ++ rest }) target → Steps p.tables e below (T.setTop g) target) ∨
    (∃ (q : Addr) (vm₁ : Vm) (B : Pt), s.WarmedH vm₁ ∧ Stand p l e R s m args below meth c B.U B.locs B.cells B.slots ∧ PostX ⟨T.setVm vm₁, locs, cells, slots⟩ argsL.toArray q B ∧
      Steps p.tables e below (T.setTop g) ((B.U.setTop { g with stack := rest }).pushFrame (.throwing q))) := by
  obtain ⟨mk, methM, cM, hnamed, hmethM, -, -, -, -, -, -, hsigM⟩ := Cond.codeWith_spec hcode
  have hstatic : methM.isStatic = true := Cond.static_spec hnamed hmethM hstat
  obtain ⟨kP, hkP, -⟩ := className_of_methodNamed hnamed
  have hinitP : kP.init = .initialized := Cond.initialized_spec (findClass_of_methodNamed hnamed) hkP hinit
  obtain ⟨vm₁, X₁, hstep₁⟩ := X.invokestatic hexec hown hlink hnamed hmethM hstatic hkP hinitP hy (g := g) hg (argsL := argsL) (rest := rest) (hlen _ hsigM) hstack hdg
  rcases hK m meth c ⟨T.setVm vm₁, locs, cells, slots⟩ { g with stack := rest } (.invokestatic index) mk argsL.toArray X₁ hg hsize hdg hW (X₁.named hnamed) (hpre vm₁ X₁.warmed) with ⟨v, B, X', hpost, hsteps⟩ | ⟨q, B, X', hpost, hsteps⟩
  · exact Or.inl ⟨v, vm₁, B, X₁.warmed, X', hpost, fun target h => hstep₁ _ fun acts => by rw [doInvoke_state]; exact hsteps.trans h⟩
  · exact Or.inr ⟨q, vm₁, B, X₁.warmed, X', hpost, hstep₁ _ fun acts => by rw [doInvoke_state]; exact hsteps⟩
theorem vx_callVW (X : Stand p l e R s m args below meth c T locs cells slots) (hexec : p.tables.exec = Jvm.exec) {own C : String} {index : Nat} {y : MethodName} {bytes : ByteArray} {maxL : Nat} {ret : Option FieldType} {hh : List (Nat × Nat × Nat × Nat)}
    (hown : s.vm.findClass own = some m.cls) (hlink : (Cond.methodLink own index y).before args s = true) (hinst : (Cond.instanceMethod y).before args s = true) (hsel : (Cond.selects C y y).before args s = true)
    (hcode : (Cond.codeWith y bytes maxL ret hh).before args s = true) (hy : y.cls ≠ "java/lang/invoke/MethodHandle" ∧ y.cls ≠ "java/lang/invoke/VarHandle")
    {W9 : Nat} {Pre : Pt → Array Value → Prop} {Post : Pt → Array Value → Option Value → Pt → Prop} (hK : Back l R p e below s args y 3 W9 Pre Post)
    {b : Addr} {cellB : Cell} (hcell : T.heap[b]? = some cellB) (hobj : cellB.vm.isStatics = false) (hcls : s.vm.findClass C = some cellB.cls)
    {g : JFrame} (hg : g.method = m) (hsize : g.locals.size = c.maxLocals) {argsL rest : List Value} (hlen : ∀ sig, parseMethodDescriptor y.desc = some sig → argsL.length = sig.parameters.length)
    (hstack : g.stack = argsL.reverse ++ .ref b :: rest) (hW : 2 * g.monitorRoom + (rest.map fun v => v.category).sum ≤ W9) (hdg : decode c.code g.pc = .ok (.invokevirtual index, 3))
    (hpre : ∀ vm₁, s.WarmedH vm₁ → Pre ⟨T.setVm vm₁, locs, cells, slots⟩ (Value.ref b :: argsL).toArray) :
    ∃ (v : Option Value) (vm₁ : Vm) (B : Pt), s.WarmedH vm₁ ∧ Stand p l e R s m args below meth c B.U B.locs B.cells B.slots ∧ Post ⟨T.setVm vm₁, locs, cells, slots⟩ (Value.ref b :: argsL).toArray v B ∧
      ∀ target, Steps p.tables e below (B.U.setTop { g with pc := g.pc + 3, stack := v.toList ++ rest }) target → Steps p.tables e below (T.setTop g) target := by
  obtain ⟨mk, methM, hnamed, hmethM, hstM, habM⟩ := Cond.instanceMethod_spec hinst
  obtain ⟨m8, methM', cM, hn8, hmethM', -, -, -, -, -, -, hsigM⟩ := Cond.codeWith_spec hcode
  cases Option.some.inj (hn8.symm.trans hnamed)
  cases hmethM.symm.trans hmethM'
  obtain ⟨c2, r2, m2, q1, q2, q3, q4, kP, hkP, hkPi⟩ := Cond.selects_spec hsel
  cases hcls.symm.trans q1
  cases (State.methodFound?_of_named hnamed hy).symm.trans q2
  cases hnamed.symm.trans q3
  have hselP : selectMethod e.platform s.vm cellB.cls mk = .method mk := by rw [Launch.admits_selectMethod X.admits]; exact q4
  obtain ⟨vm₁, X₁, hstep₁⟩ := X.invokevirtual hexec hown hlink hnamed hmethM hstM hkP hkPi hy (a := b) (cell := cellB) hcell
    (fun z h => by rw [h] at hobj; cases hobj) hselP hmethM habM hkP hkPi (g := g) hg (argsL := argsL) (rest := rest) (hlen _ hsigM) hstack hdg
  obtain ⟨v, B, X', hpost, hsteps⟩ := hK m meth c ⟨T.setVm vm₁, locs, cells, slots⟩ { g with stack := rest } (.invokevirtual index) mk (Value.ref b :: argsL).toArray X₁ hg hsize hdg hW (X₁.named hnamed) (hpre vm₁ X₁.warmed)
  exact ⟨v, vm₁, B, X₁.warmed, X', hpost, fun target h => hstep₁ _ fun acts => by rw [doInvoke_state]; exact hsteps.trans h⟩
abbrev vx_CVW (R : Room) (s : State) (args : Array Value) (own C : String) (index : Nat) (y : MethodName) (bytes : ByteArray) (maxL : Nat) (ret : Option FieldType) (hh : List (Nat × Nat × Nat × Nat)) (ws : List Cond) (rm : Room) (mc ms n : Nat) : Prop :=
  (rm.cells = mc ∧ rm.slots = ms ∧ rm.frames + 1 ≤ R.frames ∧ 8 + (maxL + 11) + rm.locals ≤ R.locals ∧ (∀ w ∈ ws, ∀ (a' : Array Value) (U : State), s.WarmedH U.vm → w.before a' U = true) ∧ Cond.codeWith y bytes maxL ret hh ∈ ws) ∧
  (Cond.codeWith y bytes maxL ret hh).before args s = true ∧ (Cond.initialized y.cls).before args s = true ∧ (y.cls ≠ "java/lang/invoke/MethodHandle" ∧ y.cls ≠ "java/lang/invoke/VarHandle") ∧
  (∀ sig, parseMethodDescriptor y.desc = some sig → n = sig.parameters.length) ∧ (Cond.methodLink own index y).before args s = true ∧ (Cond.instanceMethod y).before args s = true ∧ (Cond.selects C y y).before args s = true
theorem vx_cwVW {own C : String} {index maxL mc ms : Nat} {y : MethodName} {bytes : ByteArray} {ret : Option FieldType} {hh : List (Nat × Nat × Nat × Nat)} {Ts ws ws' : List Cond} {rm : Room} (n : Nat) (ht : ∀ w ∈ Ts, w.before args s = true) (hT : GoodIn Ts (wsV own index C y ws)) (hw : ws = Cond.codeWith y bytes maxL ret hh :: ws') (hrc : rm.cells = mc) (hrs : rm.slots = ms)
    (hd : y.cls = C ∧ y.cls ≠ "java/lang/invoke/MethodHandle" ∧ y.cls ≠ "java/lang/invoke/VarHandle" ∧ (parseMethodDescriptor y.desc).map (fun d => d.parameters.length) = some n) (hR : rm.frames + 1 ≤ R.frames ∧ 8 + (maxL + 11) + rm.locals ≤ R.locals) :
    vx_CVW R s args own C index y bytes maxL ret hh ws rm mc ms n := by
  obtain ⟨hC, hd⟩ := hd
  subst hC
  have ok : ∀ w ∈ wsV own index y.cls y ws, w.before args s = true := fun w h => ht w (hT w h).1
  have hG : GoodIn Ts ws := fun w h => hT w (by unfold wsV; exact List.mem_append_right _ h)
  have hc : Cond.codeWith y bytes maxL ret hh ∈ ws := by rw [hw]; exact List.mem_cons_self
  refine ⟨⟨hrc, hrs, hR.1, hR.2, pay_in ht hG, hc⟩, ht _ (hG _ hc).1, ok _ (by simp [wsV]), ⟨hd.1, hd.2.1⟩, fun sig h => ?_, ok _ (by simp [wsV]), ok _ (by simp [wsV]), ok _ (by simp [wsV])⟩
  have h2 := hd.2.2
  rw [h] at h2
  exact (Option.some.inj h2).symm
theorem vx_runVW {y : MethodName} {bytes cc : ByteArray} {maxL nL mc ms n index : Nat} {ret : Option FieldType} {hh : List (Nat × Nat × Nat × Nat)} {ws : List Cond} {rm : Room} {Pc : Array Value → State → Prop} {Qc : Array Value → State → Outcome → State → Prop} {free : Addr → Prop} {Ts : List Cond} {own C : String} {b : Addr} {As rest : List Value} {g : JFrame}
    (S : CallFix p m c cc nL s args Ts own) (hM : Met l y ws rm Pc Qc mc ms free) (cw : vx_CVW R s args own C index y bytes maxL ret hh ws rm mc ms n) (hp : PreV s H C b Pc As)
    (hg : g.method = m) (hn : As.length = n) (hsize : g.locals.size = nL) (hstack : g.stack = As.reverse ++ .ref b :: rest) (hW : 2 * g.monitorRoom + (rest.map fun v => v.category).sum ≤ 8) (hdg : decode cc g.pc = .ok (.invokevirtual index, 3)) (hf : cells + mc ≤ R.cells ∧ slots + ms ≤ R.slots) :
    va_Run p l e R s m args below meth c H locs cells slots mc ms g rest (Qc (Value.ref b :: As).toArray) free := by
  obtain ⟨⟨hrc, hrs, hfr, hlo, hws, hcw⟩, hcode, hini, hy, hlen, hl, hin, hse⟩ := cw
  have hK : Back l R p e below s args y 3 8 (PreOf R mc ms Pc) (PostOf Qc mc ms free) := va_backW (hh := hh) (bytes := bytes) (maxL := maxL) (ret := ret) hM hp.1 hrc hrs hfr hlo hws hcw (fun a' U hW => word_at hW (Or.inl (by first | rfl | simp [Cond.onTables, Cond.keeps, Cond.steady])) hini)
  obtain ⟨hx, hb, hml, ho, -⟩ := S
  obtain ⟨-, ⟨cellB, hcB, hoB, hclB⟩, hPc⟩ := hp
  intro T hT X
  obtain ⟨v, vm₁, ⟨U', l2, c2, s2⟩, hW₁, X', ⟨g', mk, t, L, e1, e2, hq, h1, hL, h2, h3⟩, st⟩ := vx_callVW X hx (C := C) (hh := hh) (bytes := bytes) (maxL := maxL) (ret := ret) ho hl hin hse hcode hy hK (by rw [hT]; exact hcB) hoB hclB hg (hsize.trans hml.symm) (argsL := As) (rest := rest) (fun sig h => hn.trans (hlen sig h)) hstack hW (by rw [hb]; exact hdg)
    (fun vm₁ hW₁ => ⟨hf.1, hf.2, hPc (T.setVm vm₁) hT hW₁⟩)
  dsimp only [Pt.U, Pt.locs, Pt.cells, Pt.slots] at X' e1 e2 h1 h2 h3 st
  subst h1; subst h2; subst h3
  exact ⟨v, (T.setVm vm₁).calling g' mk (Value.ref b :: As).toArray, t, U', L, hT, X', hL, e1, e2, hq, st⟩
section
variable {y : MethodName} {bytes cc : ByteArray} {maxL nL mc ms n index : Nat} {ret : Option FieldType} {ws : List Cond} {rm : Room} {Pc : Array Value → State → Prop} {Qc : Array Value → State → Outcome → State → Prop} {XC : String → State → State → Prop} {free : Addr → Prop} {Ts : List Cond} {own C : String} {b : Addr} {As rest : List Value} {g : JFrame}
theorem vx_runVX {hh : List (Nat × Nat × Nat × Nat)} (S : CallFix p m c cc nL s args Ts own) (hM : vx_Met l y ws rm Pc Qc XC mc ms free) (cw : vx_CVW R s args own C index y bytes maxL ret hh ws rm mc ms n) (hp : PreV s H C b Pc As)
    (hg : g.method = m) (hn : As.length = n) (hsize : g.locals.size = nL) (hstack : g.stack = As.reverse ++ .ref b :: rest) (hW : 2 * g.monitorRoom + (rest.map fun v => v.category).sum ≤ 8) (hdg : decode cc g.pc = .ok (.invokevirtual index, 3)) (hf : cells + mc ≤ R.cells ∧ slots + ms ≤ R.slots) :
    vx_Run p l e R s m args below meth c H locs cells slots mc ms g rest (Qc (Value.ref b :: As).toArray) XC free := by
  obtain ⟨⟨hrc, hrs, hfr, hlo, hws, hcw⟩, hcode, hini, hy, hlen, hl, hin, hse⟩ := cw
  have hK : vx_Back l R p e below s args y 3 8 (PreOf R mc ms Pc) (PostOf Qc mc ms free) (vx_Post XC mc ms free) := vx_backW (hh := hh) (bytes := bytes) (maxL := maxL) (ret := ret) hM hp.1 hrc hrs hfr hlo hws hcw (fun a' U hW => word_at hW (Or.inl (by first | rfl | simp [Cond.onTables, Cond.keeps, Cond.steady])) hini)
  obtain ⟨hx, hb, hml, ho, -⟩ := S
  obtain ⟨-, ⟨cellB, hcB, hoB, hclB⟩, hPc⟩ := hp
  intro T hT X
  rcases vx_callVX X hx (C := C) (hh := hh) (bytes := bytes) (maxL := maxL) (ret := ret) ho hl hin hse hcode hy hK (by rw [hT]; exact hcB) hoB hclB hg (hsize.trans hml.symm) (argsL := As) (rest := rest) (fun sig h => hn.trans (hlen sig h)) hstack hW (by rw [hb]; exact hdg)
    (fun vm₁ hW₁ => ⟨hf.1, hf.2, hPc (T.setVm vm₁) hT hW₁⟩) with ⟨v, vm₁, ⟨U', l2, c2, s2⟩, hW₁, X', ⟨g', mk, t, L, e1, e2, hq, h1, hL, h2, h3⟩, st⟩ | ⟨q, vm₁, ⟨U', l2, c2, s2⟩, hW₁, X', ⟨g', mk, t, L, E, ce, e1, e2, hq, hce, hcv, hcl, h1, hL, h2, h3⟩, st⟩
  · dsimp only [Pt.U, Pt.locs, Pt.cells, Pt.slots] at X' e1 e2 h1 h2 h3 st
    subst h1; subst h2; subst h3
    exact Or.inl ⟨v, (T.setVm vm₁).calling g' mk (Value.ref b :: As).toArray, t, U', L, hT, X', hL, e1, e2, hq, st⟩
  · dsimp only [Pt.U, Pt.locs, Pt.cells, Pt.slots] at X' e1 e2 h1 h2 h3 st hcl
    subst h1; subst h2; subst h3
    exact Or.inr ⟨q, (T.setVm vm₁).calling g' mk (Value.ref b :: As).toArray, t, U', L, E, ce, hT, X', hL, e1, e2, hq, hce, hcv, vx_cls hW₁ hcl, st⟩
theorem vx_runSX {hh : List (Nat × Nat × Nat × Nat)} (S : CallFix p m c cc nL s args Ts own) (hM : vx_Met l y ws rm Pc Qc XC mc ms free) (cw : vx_CSW R s args own index y bytes maxL ret hh ws rm mc ms n) (hp : PreS s H Pc As)
    (hg : g.method = m) (hn : As.length = n) (hsize : g.locals.size = nL) (hstack : g.stack = As.reverse ++ rest) (hW : 2 * g.monitorRoom + (rest.map fun v => v.category).sum ≤ 8) (hdg : decode cc g.pc = .ok (.invokestatic index, 3)) (hf : cells + mc ≤ R.cells ∧ slots + ms ≤ R.slots) :
    vx_Run p l e R s m args below meth c H locs cells slots mc ms g rest (Qc As.toArray) XC free := by
  obtain ⟨⟨hrc, hrs, hfr, hlo, hws, hcw⟩, hcode, hini, hy, hlen, hl, hstt⟩ := cw
  have hK : vx_Back l R p e below s args y 3 8 (PreOf R mc ms Pc) (PostOf Qc mc ms free) (vx_Post XC mc ms free) := vx_backW (hh := hh) (bytes := bytes) (maxL := maxL) (ret := ret) hM hp.1 hrc hrs hfr hlo hws hcw (fun a' U hW => word_at hW (Or.inl (by first | rfl | simp [Cond.onTables, Cond.keeps, Cond.steady])) hini)
  obtain ⟨hx, hb, hml, ho, -⟩ := S
  intro T hT X
  rcases vx_callSX X hx (hh := hh) (bytes := bytes) (maxL := maxL) (ret := ret) ho hl hstt hini hcode hy hK hg (hsize.trans hml.symm) (argsL := As) (rest := rest) (fun sig h => hn.trans (hlen sig h)) hstack hW (by rw [hb]; exact hdg)
    (fun vm₁ hW₁ => ⟨hf.1, hf.2, hp.2 (T.setVm vm₁) hT hW₁⟩) with ⟨v, vm₁, ⟨U', l2, c2, s2⟩, hW₁, X', ⟨g', mk, t, L, e1, e2, hq, h1, hL, h2, h3⟩, st⟩ | ⟨q, vm₁, ⟨U', l2, c2, s2⟩, hW₁, X', ⟨g', mk, t, L, E, ce, e1, e2, hq, hce, hcv, hcl, h1, hL, h2, h3⟩, st⟩
  · dsimp only [Pt.U, Pt.locs, Pt.cells, Pt.slots] at X' e1 e2 h1 h2 h3 st
    subst h1; subst h2; subst h3
    exact Or.inl ⟨v, (T.setVm vm₁).calling g' mk As.toArray, t, U', L, hT, X', hL, e1, e2, hq, st⟩
  · dsimp only [Pt.U, Pt.locs, Pt.cells, Pt.slots] at X' e1 e2 h1 h2 h3 st hcl
    subst h1; subst h2; subst h3
    exact Or.inr ⟨q, (T.setVm vm₁).calling g' mk As.toArray, t, U', L, E, ce, hT, X', hL, e1, e2, hq, hce, hcv, vx_cls hW₁ hcl, st⟩
end
end VXH
theorem vx_ofWH {l : Launch} {y : MethodName} {ws ws' : List Cond} {rm : Room} {Pc : Array Value → State → Prop} {Qc : Array Value → State → Outcome → State → Prop} {XC : String → State → State → Prop} {mc ms : Nat} {free : Addr → Prop} {cc : ByteArray} {maxL : Nat} {ret : Option FieldType} {hh : List (Nat × Nat × Nat × Nat)}
    (hy : plainName y.cls = true) (hw : ws = Cond.codeWith y cc maxL ret hh :: ws')
    (body : ∀ p e s m args below meth c s₁, BodyLoose p l y (headSpec ws rm) cc maxL ret e s m args below meth c s₁ → c.maxLocals = maxL → Pc args s →
      W p l e (headSpec ws rm).room s m args below meth c s.heap [] 0 0 (vx_MQ below Qc XC args s mc ms free) (entryFrame m args maxL)) : vx_Met l y ws rm Pc Qc XC mc ms free := by
  refine MetFree.of_bodyS (code := cc) (maxLocals := maxL) (ret := ret) hy ?_ ?_
  · intro args s m h hn
    obtain ⟨m9, meth, c, hn9, h1, h2, h3, h4, -, h5, h6, -⟩ := Cond.codeWith_spec (atoms_spec (ws := ws) h _ (by rw [hw]; exact List.mem_cons_self))
    cases hn.symm.trans hn9
    exact ⟨meth, c, h1, h2, h3, h4, h5, h6⟩
  · intro p e s m args below meth c s₁ B hml hP _
    have hh0 : s₁.heap = s.heap := by rw [B.state]; rfl
    obtain ⟨t, a1, o, b1, b2, b3⟩ := body p e s m args below meth c s₁ B hml hP s₁ hh0 (Stand.of_body B)
    exact ⟨t, o, a1, b1, b2, b3⟩
/-! ===== END ===== -/

/-! ===== BEGIN what the machine throws by itself, no traces kept ===== -/
section VXM
set_option maxHeartbeats 1000000 in
/-- the machine throws cls with the message text, no traces kept: from its note over the frame g to 'throwing' over the same frame (follows the proofs of Stand.vmThrowsMessage, Shelf/KitTracedVmS.lean, and Stand.throwsMessageColdBareV, StandMessageColdV.lean, without the step out of the frame) -/
theorem vx_vmAt {p : Program} {l : Launch} {e : Env} {R : Room} {s : State} {m₀ : MethodId} {args : Array Value} {below : List Frame} {meth : Method} {c : Code} {W : State} {locs : List Loc} {cells slots : Nat}
    (X : Stand p l e R s m₀ args below meth c W locs cells slots) (hexec : p.tables.exec = Jvm.exec) (htr : e.platform.stackTraces = false) {cls : String} {names : List String} {text : String}
    (hcls : Bundle.fit cls = true) (hnames : ∀ n ∈ names, Bundle.fit n = true) (hsoe : (cls == "java/lang/StackOverflowError") = false) (hoom : (cls == "java/lang/OutOfMemoryError") = false)
    (h : ∀ a ∈ Bundle.messageArmAtoms cls names, a.before args s = true)
    (hlocs : ∀ x ∈ locs, ∀ cell, s.heap[x.base]? = some cell → cell.vm.isStatics = false)
    (htext : (text == notModelled) = false) (hlimit : ¬ (stringBytes (stringToUtf16 text)).size > e.platform.arrayLengthLimit) (hheap : ¬ (stringBytes (stringToUtf16 text)).size * componentBytes .byte > e.platform.maxHeapBytes)
    {g : JFrame} (hg : g.method = m₀) (hsize : g.locals.size = c.maxLocals)
    (hRframes : names.length + 4 < R.frames) (hRlocals : 2 * g.monitorRoom + (g.stack.map fun v => v.category).sum + 10240 ≤ R.locals) (hshort : 13 * names.length + 55 ≤ 10240)
    (hRcells : cells + 3 ≤ R.cells) (hRslots : slots + ((stringBytes (stringToUtf16 text)).size + 4 + 6) ≤ R.slots) (hlocks : meth.locks = false) :
    ∃ (S : State) (q : Addr) (ce : Cell), (∀ target, Steps p.tables e below ((S.setTop g).pushFrame (.throwing q)) target → Steps p.tables e below ((W.setTop g).pushFrame (.throwNew cls (some text) none)) target) ∧
      Stand p l e R s m₀ args below meth c S locs (cells + 3) (slots + ((stringBytes (stringToUtf16 text)).size + 4 + 6)) ∧ S.heap[q]? = some ce ∧ s.vm.findClass cls = some ce.cls ∧ ce.vm = .none := by
  have howns : e.platform.frameOwnsMonitors = true := by rw [X.admits.platform]
  have hfin : e.platform.finalization = false := by rw [X.admits.platform]
  have hpl : e.platform.magicAccessors = ({} : Platform).magicAccessors := by rw [X.admits.platform]
  have a : ∀ x, x ∈ Bundle.messageArmAtoms cls names → x.holds args s none s [] = true := fun x hx => h x hx
  obtain ⟨T, Z0, L, -, Y⟩ := ThrowableC.of_atoms (args := args) howns hfin hpl (fun x hx => h x (by simp [Bundle.messageArmAtoms, hx]))
  obtain ⟨Z, M, LZ, LM, hnZ⟩ := Init0T.ofS_atoms (args := args) hpl L Y (fun x hx => h x (by simp [Bundle.messageArmAtoms, hx]))
  obtain ⟨P1, Ps, hlen, L1, hL, hP1m, hlink1, hlink⟩ := Bundle.chainS (args := args) hpl hnZ names cls hcls hnames (fun x hx => h x (by simp [Bundle.messageArmAtoms, hx]))
  obtain ⟨Zs, LZs, hn4, hfitv, hfitc⟩ := StringT.of_atoms (args := args) (fun x hx => h x (by simp [Bundle.messageArmAtoms, hx]))
  have hfound : s.vm.findClass cls = some P1.m.cls := findClass_of_methodNamed hP1m
  obtain ⟨c1, kX, hc1, hk, hord, -, -, hn6⟩ := Cond.instantiable_spec (a (.instantiable cls 6) (by simp [Bundle.messageArmAtoms]))
  cases Option.some.inj (hc1.symm.trans hfound)
  have hinit := Cond.initialized_spec hfound hk (a (.initialized cls) (by simp [Bundle.messageArmAtoms]))
  have hctor : kX.findMethod "<init>" "(Ljava/lang/String;)V" = some P1.m.idx := findMethod_of_methodNamed hP1m hk
  have hsel0 : selectMethod e.platform s.vm P1.m.cls T.fill0 = .method T.fill0 := by
    obtain ⟨c2, r2, m2, q1, q2, q3, q4, -⟩ := Cond.selects_spec (a (.selects cls Bundle.tFill0 Bundle.tFill0) (by simp [Bundle.messageArmAtoms]))
    cases Option.some.inj (q1.symm.trans hfound)
    cases Option.some.inj (q2.symm.trans (State.methodFound?_of_named Y.fill0 (by decide)))
    cases Option.some.inj (q3.symm.trans Y.fill0)
    rw [Launch.admits_selectMethod X.admits]; exact q4
  have hselF : selectMethod e.platform s.vm P1.m.cls T.fill = .method T.fill := by
    obtain ⟨c2, r2, m2, q1, q2, q3, q4, -⟩ := Cond.selects_spec (a (.selects cls Bundle.tFill Bundle.tFill) (by simp [Bundle.messageArmAtoms]))
    cases Option.some.inj (q1.symm.trans hfound)
    cases Option.some.inj (q2.symm.trans (State.methodFound?_of_named Y.fill (by decide)))
    cases Option.some.inj (q3.symm.trans Y.fill)
    rw [Launch.admits_selectMethod X.admits]; exact q4
  obtain ⟨cellS0, hcS0, hiss⟩ := Y.statics
  obtain ⟨u0, hu0⟩ := Cond.staticRefV Y.unassigned L.unassignedStatic L.statics hcS0 hiss (a (.isRef (.static Bundle.tN "UNASSIGNED_STACK" Bundle.steD)) (by simp [Bundle.messageArmAtoms]))
  obtain ⟨sen, hsen⟩ := Cond.staticRefV Y.sentinel L.sentinelStatic L.statics hcS0 hiss (a (.isRef (.static Bundle.tN "SUPPRESSED_SENTINEL" Bundle.listD)) (by simp [Bundle.messageArmAtoms]))
  obtain ⟨ci198, i198, fB, hk198, hg198, ha198, hsB, -, hnB, htB, hffB⟩ := Cond.ownField (t := .object "java/lang/Object") Y.found L.cls (by decide +kernel) (a (.fieldLink Bundle.tN 198 Bundle.tN "backtrace" "Ljava/lang/Object;") (by simp [Bundle.messageArmAtoms])) (a (.lays Bundle.tN Bundle.tN "backtrace" "Ljava/lang/Object;") (by simp [Bundle.messageArmAtoms])) e.platform hpl
  obtain ⟨cellS, hcS', heS, -, hkeep⟩ := X.same.2.2.2.2.2 T.aS cellS0 hcS0
  have hcellS : W.heap[T.aS]? = some cellS := hcS'
  have hout' : ∀ i, (⟨T.aS, i⟩ : Loc) ∉ locs := fun i hmem => by
    have := hlocs _ hmem cellS0 hcS0
    rw [hiss] at this; cases this
  have hknownS : cellS.vm ≠ .unknown := by
    rw [heS]; intro hu
    rw [show cellS0.vm = .unknown from hu] at hiss
    cases hiss
  have hvU : cellS.slots[T.fUnassigned.slot]? = some u0.v := by rw [hkeep _ (hout' _)]; exact hu0
  have hvSen : cellS.slots[T.fSentinel.slot]? = some sen.v := by rw [hkeep _ (hout' _)]; exact hsen
  obtain ⟨iM, hffM⟩ := Y.msg
  obtain ⟨tyC, dC, hdC, hdnC⟩ := Cond.laysAt hfound hk Y.cause (a (.lays cls Bundle.tN "cause" "Ljava/lang/Throwable;") (by simp [Bundle.messageArmAtoms]))
  obtain ⟨tyS, dS, hdS, hdnS⟩ := Cond.laysAt hfound hk Y.stack (a (.lays cls Bundle.tN "stackTrace" Bundle.steD) (by simp [Bundle.messageArmAtoms]))
  obtain ⟨tyP, dP, hdP, hdnP⟩ := Cond.laysAt hfound hk Y.supp (a (.lays cls Bundle.tN "suppressedExceptions" Bundle.listD) (by simp [Bundle.messageArmAtoms]))
  obtain ⟨tyM, dM, hdM, hdnM⟩ := Cond.laysAt hfound hk hffM (a (.lays cls Bundle.tN "detailMessage" "Ljava/lang/String;") (by simp [Bundle.messageArmAtoms]))
  obtain ⟨tyB, dB, hdB, hdnB⟩ := Cond.laysAt hfound hk hffB (a (.lays cls Bundle.tN "backtrace" "Ljava/lang/Object;") (by simp [Bundle.messageArmAtoms]))
  have bC := Cond.laysApart hdB hdC hdnB hdnC (by rw [hnB, Y.causeName]; decide)
  have bS := Cond.laysApart hdB hdS hdnB hdnS (by rw [hnB, Y.stackName]; decide)
  have bP := Cond.laysApart hdB hdP hdnB hdnP (by rw [hnB, Y.suppName]; decide)
  have hbk : ((preparedCellV T.toThrowableT (freshCell P1.m.cls kX) (W.heap.size + 2) u0 sen).withEntry W.cur).slots[fB.slot]? = some .null := by
    have := fresh_default (c := P1.m.cls) tyB
    rw [htB] at this
    simpa [preparedCellV, Cell.setSlot, Cell.withEntry, Array.getElem?_setIfInBounds, bC, bS, bP, bC.symm, bS.symm, bP.symm, defaultValue] using this
  have tkC := Takes.of_laid (v := .ref (W.heap.size + 2)) hk hord tyC (by rw [Y.causeType]; rfl)
  have tkS := Takes.of_laid (v := u0.v) hk hord tyS (by rw [Y.stackType]; exact fits_refV_array _ u0)
  have tkP := Takes.of_laid (v := sen.v) hk hord tyP (by rw [Y.suppType]; exact fits_refV_object _ sen)
  have tkM := Takes.of_laid (v := .ref (W.heap.size + 1)) hk hord tyM (by rw [Y.msgType]; rfl)
  have hskip : SkipFacts T e.platform s (fun u => u) u0 ((preparedCellV T.toThrowableT (freshCell P1.m.cls kX) (W.heap.size + 2) u0 sen).withEntry W.cur) := ⟨{ ci198 := ci198, i198 := i198, fBack := fB }, ⟨hk198, hg198, ha198, hsB⟩, hbk, fun _ _ => rfl⟩
  have h0 : At W g.method c below := by rw [hg]; exact X.here
  obtain ⟨hbeyond, hfreeW⟩ := X.vmMayThrow hsize (.throwNew cls (some text) none) (fun f hf => by cases hf) rfl hRlocals
  have hfr' : W.frames.length + Ps.length + 4 < (e.platform.stackLimits W.me).1 := by have := X.framesAbove hRframes; omega
  have hwd' : (stackUse (.java g :: W.frames.tail)).2 + 13 * Ps.length + 55 ≤ (e.platform.stackLimits W.me).2 := by have := X.stackAbove hsize (K := 13 * Ps.length + 55) (by omega); omega
  have hslots : W.slotsUsed + (stringBytes (stringToUtf16 text)).size + Zs.kS.instanceTypes.size + kX.instanceTypes.size ≤ e.platform.maxSlots := by
    have := X.slotsAbove hRslots
    rw [hn4, hn6]
    omega
  obtain ⟨vm', hW', st⟩ := Steps.vmThrowsMessageColdByV p (s₀ := s) (S := W) (g := g) h0 hexec T L Z LZ M LM X.warmed (t := W.cur) rfl Zs LZs P1 L1 Ps hL hlink1 hlink hsoe hoom hfound hk hinit hord hctor
    (Launch.admits_hotImplicitExceptions X.admits) hbeyond hfreeW htext hlimit hheap (X.cellsAbove hRcells) hslots (hfitv _) (hfitc _)
    (Nn := fun u => u) heapOnly_id (fun _ _ => rfl) (fun _ => rfl) (fun u x y => setCell_twice _ _ _ _) (fun _ => Nat.le_refl _) (cN := ((preparedCellV T.toThrowableT (freshCell P1.m.cls kX) (W.heap.size + 2) u0 sen).withEntry W.cur))
    hsel0 hcellS hknownS hvU tkS (fun _ hu => hu) (fun _ hu => hu) rfl rfl rfl (by simp [preparedCellV, Cell.setSlot, Cell.withEntry]) hskip (fun _ _ hA hW _ hroom _ hrest => L.nativeOff p htr hA hW hroom hrest) hselF hvSen tkC tkP tkM Y.objLocals rfl hfr' hwd'
  rw [plainBareV_eq T.toThrowableT (W.heap.size + 2) u0 sen (.ref (W.heap.size + 1)) W.cur rfl rfl] at st
  obtain ⟨-, -, w3, w4, -, -, -⟩ := withThrown_facts e.platform W Zs text P1.m.cls kX
  have X3 := ((X.pushed (bytesOf Zs.cB (stringToUtf16 text))).pushed (stringAt Zs.cS Zs.kS Zs.fv Zs.fc (stringToUtf16 text) W.heap.size)).pushed (freshCell P1.m.cls kX)
  rw [← withString_eq] at X3
  have X4 := X3.noted hW'
  have ha : (W.heap.size + 2) < ((withThrown W Zs text P1.m.cls kX).setVm vm').heap.size := by show _ < (withThrown W Zs text P1.m.cls kX).heap.size; rw [w3]; omega
  have hcell : ((withThrown W Zs text P1.m.cls kX).setVm vm').heap[(W.heap.size + 2)]? = some (freshCell P1.m.cls kX) := w4
  have X5 := ((((X4.stored hcell T.fCause.slot (.ref (W.heap.size + 2))).storedAgain ha T.fStack.slot u0.v).storedAgain ha T.fSupp.slot sen.v).storedAgain ha T.fStack.slot u0.v).storedAgain ha T.fMsg.slot (.ref (W.heap.size + 1))
  obtain ⟨g₁, hfrM⟩ := X5.frames_eq
  have hU : ((((withThrown W Zs text P1.m.cls kX).setVm vm').setCell (W.heap.size + 2) (plainBareV T.toThrowableT (freshCell P1.m.cls kX) (W.heap.size + 2) u0 sen (.ref (W.heap.size + 1)))).setTop g).pushFrame (.throwing (W.heap.size + 2)) = (((withThrown W Zs text P1.m.cls kX).setVm vm').setCell (W.heap.size + 2) (plainBareV T.toThrowableT (freshCell P1.m.cls kX) (W.heap.size + 2) u0 sen (.ref (W.heap.size + 1)))).setFrames (.throwing (W.heap.size + 2) :: .java g :: below) := by
    rw [State.pushFrame, State.frames_setTop _ hfrM, State.setTop_of_frames _ hfrM, State.setFrames_setFrames]
  have b1 : (bytesOf Zs.cB (stringToUtf16 text)).slots.size = (stringBytes (stringToUtf16 text)).size := by
    rw [(Cell.writeAll_facts _ _).2.2]; simp [bytes0]
  have b2 : (stringAt Zs.cS Zs.kS Zs.fv Zs.fc (stringToUtf16 text) W.heap.size).slots.size = 4 := by simp [string0, Cell.setSlot, hn4]
  have b3 : (freshCell P1.m.cls kX).slots.size = 6 := by simp [hn6]
  rw [b1, b2, b3] at X5
  have e9 : slots + (stringBytes (stringToUtf16 text)).size + 4 + 6 = slots + ((stringBytes (stringToUtf16 text)).size + 4 + 6) := by omega
  rw [e9] at X5
  simp only [List.append_assoc, List.cons_append, List.nil_append] at X5
  refine ⟨((withThrown W Zs text P1.m.cls kX).setVm vm').setCell (W.heap.size + 2) (plainBareV T.toThrowableT (freshCell P1.m.cls kX) (W.heap.size + 2) u0 sen (.ref (W.heap.size + 1))), W.heap.size + 2, _, fun target ht => st _ (by rw [X.tail, ← hU]; exact ht),
    X5.forget (fun y hy => ?_), heapAt_setCell_self _ ha, hfound, rfl⟩
  simp only [List.mem_cons, List.not_mem_nil, or_false] at hy
  have hge : s.heap.size ≤ W.heap.size := X.same.2.1
  rcases hy with rfl | rfl | rfl | rfl | rfl <;> exact Nat.le_trans hge (Nat.le_add_right _ 2)
set_option maxHeartbeats 1000000 in
/-- the machine throws NullPointerException, no traces kept: from its note over the frame g to 'throwing' over the same frame (follows the proof of Stand.vmThrowsNpe, Shelf42/KT2.lean; throwsNpeColdBareVAt, Shelf42/NT91.lean, called) -/
theorem vx_npeAt {p : Program} {l : Launch} {e : Env} {R : Room} {s : State} {m₀ : MethodId} {args : Array Value} {below : List Frame} {meth : Method} {c : Code} {W : State} {locs : List Loc} {cells slots : Nat}
    (X : Stand p l e R s m₀ args below meth c W locs cells slots) (hexec : p.tables.exec = Jvm.exec) (htr : e.platform.stackTraces = false) {n : Nat}
    (h : ∀ a ∈ Bundle.npeArmAtoms n, a.before args s = true)
    (hlocs : ∀ x ∈ locs, ∀ cell, s.heap[x.base]? = some cell → cell.vm.isStatics = false)
    {g : JFrame} (hg : g.method = m₀) (hsize : g.locals.size = c.maxLocals)
    (hRframes : 7 < R.frames) (hRlocals : 2 * g.monitorRoom + (g.stack.map fun v => v.category).sum + 10240 ≤ R.locals)
    (hRcells : cells + 1 ≤ R.cells) (hRslots : slots + n ≤ R.slots) (hlocks : meth.locks = false) :
    ∃ (S : State) (q : Addr) (ce : Cell), (∀ target, Steps p.tables e below ((S.setTop g).pushFrame (.throwing q)) target → Steps p.tables e below ((W.setTop g).pushFrame (.throwNew "java/lang/NullPointerException" none none)) target) ∧
      Stand p l e R s m₀ args below meth c S locs (cells + 1) (slots + n) ∧ S.heap[q]? = some ce ∧ s.vm.findClass "java/lang/NullPointerException" = some ce.cls ∧ ce.vm = .none := by
  have howns : e.platform.frameOwnsMonitors = true := by rw [X.admits.platform]
  have hfin : e.platform.finalization = false := by rw [X.admits.platform]
  have hpl : e.platform.magicAccessors = ({} : Platform).magicAccessors := by rw [X.admits.platform]
  have hpl2 : e.platform.arrayCloneIsPublic = true := by rw [X.admits.platform]
  have a' : ∀ x, x ∈ Bundle.npeArmAtoms n → x.holds args s none s [] = true := fun x hx => h x hx
  obtain ⟨T, Z, L, LZ, Y⟩ := ThrowableC.of_atoms (args := args) howns hfin hpl (fun x hx => h x (by simp [Bundle.npeArmAtoms, hx]))
  obtain ⟨N, LN, hcN, hnNF, hordN, hffS⟩ := NpeC.of_atoms (args := args) hpl hpl2 L Y (fun x hx => h x (by simp [Bundle.npeArmAtoms, hx]))
  obtain ⟨P1, L1, hP1m, hP1s⟩ := PassC.of_atoms (args := args) (s := s) hpl (X := Bundle.nN) (Y := Bundle.rN) (by decide) (by decide) LibCode.NullPointerException.Init0.at_0 LibCode.NullPointerException.Init0.at_1 LibCode.NullPointerException.Init0.at_4 (fun x hx => h x (by simp [Bundle.npeArmAtoms, hx]))
  obtain ⟨PR, LR, hPRm, hPRs⟩ := PassC.of_atoms (args := args) (s := s) hpl (X := Bundle.rN) (Y := Bundle.eN) (by decide) (by decide) LibCode.RuntimeException.Init0.at_0 LibCode.RuntimeException.Init0.at_1 LibCode.RuntimeException.Init0.at_4 (fun x hx => h x (by simp [Bundle.npeArmAtoms, hx]))
  obtain ⟨PE, LEx, hPEm, hPEs⟩ := PassC.of_atoms (args := args) (s := s) hpl (X := Bundle.eN) (Y := Bundle.tN) (by decide) (by decide) LibCode.Exception.Init0.at_0 LibCode.Exception.Init0.at_1 LibCode.Exception.Init0.at_4 (fun x hx => h x (by simp [Bundle.npeArmAtoms, hx]))
  have hfound : s.vm.findClass Bundle.nN = some P1.m.cls := findClass_of_methodNamed hP1m
  have ecls : N.cN = P1.m.cls := Option.some.inj (hcN.symm.trans hfound)
  have hk : s.vm.classes[P1.m.cls]? = some N.kN := by rw [← ecls]; exact LN.cls
  have hinit := Cond.initialized_spec hfound hk (a' (.initialized Bundle.nN) (by simp [Bundle.npeArmAtoms]))
  have hctor : N.kN.findMethod "<init>" "()V" = some P1.m.idx := findMethod_of_methodNamed hP1m hk
  obtain ⟨c1, k1, hc1, hk1, -, -, -, hn⟩ := Cond.instantiable_spec (a' (.instantiable Bundle.nN n) (by simp [Bundle.npeArmAtoms]))
  cases Option.some.inj (hc1.symm.trans hfound)
  cases Option.some.inj (hk1.symm.trans hk)
  have hfsz : (freshCell P1.m.cls N.kN).slots.size = n := by simp [hn]
  have hlink1 : P1.sup = PR.m := Option.some.inj (hP1s.symm.trans hPRm)
  have hlinkR : PR.sup = PE.m := Option.some.inj (hPRs.symm.trans hPEm)
  have hlinkE : PE.sup = Z.m T.toThrowableT := Option.some.inj (hPEs.symm.trans Y.init0)
  have hLs : ∀ P, P ∈ [PR, PE] → P.Links0 e.platform s := fun P hP => by
    simp only [List.mem_cons, List.not_mem_nil, or_false] at hP
    rcases hP with rfl | rfl
    · exact LR
    · exact LEx
  have hsel0 : selectMethod e.platform s.vm P1.m.cls T.fill0 = .method T.fill0 := by
    obtain ⟨c2, r2, m2, q1, q2, q3, q4, -⟩ := Cond.selects_spec (a' (.selects Bundle.nN Bundle.tFill0 Bundle.tFill0) (by simp [Bundle.npeArmAtoms]))
    cases Option.some.inj (q1.symm.trans hfound)
    cases Option.some.inj (q2.symm.trans (State.methodFound?_of_named Y.fill0 (by decide)))
    cases Option.some.inj (q3.symm.trans Y.fill0)
    rw [Launch.admits_selectMethod X.admits]; exact q4
  have hselF : selectMethod e.platform s.vm P1.m.cls T.fill = .method N.fill := by
    obtain ⟨c2, r2, m2, q1, q2, q3, q4, -⟩ := Cond.selects_spec (a' (.selects Bundle.nN Bundle.tFill Bundle.nFill) (by simp [Bundle.npeArmAtoms]))
    cases Option.some.inj (q1.symm.trans hfound)
    cases Option.some.inj (q2.symm.trans (State.methodFound?_of_named Y.fill (by decide)))
    cases Option.some.inj (q3.symm.trans hnNF)
    rw [Launch.admits_selectMethod X.admits]; exact q4
  obtain ⟨cellS0, hcS0, hiss⟩ := Y.statics
  obtain ⟨u0, hu0⟩ := Cond.staticRefV Y.unassigned L.unassignedStatic L.statics hcS0 hiss (a' (.isRef (.static Bundle.tN "UNASSIGNED_STACK" Bundle.steD)) (by simp [Bundle.npeArmAtoms]))
  obtain ⟨sen, hsen⟩ := Cond.staticRefV Y.sentinel L.sentinelStatic L.statics hcS0 hiss (a' (.isRef (.static Bundle.tN "SUPPRESSED_SENTINEL" Bundle.listD)) (by simp [Bundle.npeArmAtoms]))
  obtain ⟨ci198, i198, fB, hk198, hg198, ha198, hsB, -, hnB, htB, hffB⟩ := Cond.ownField (t := .object "java/lang/Object") Y.found L.cls (by decide +kernel) (a' (.fieldLink Bundle.tN 198 Bundle.tN "backtrace" Bundle.objD) (by simp [Bundle.npeArmAtoms])) (a' (.lays Bundle.tN Bundle.tN "backtrace" Bundle.objD) (by simp [Bundle.npeArmAtoms])) e.platform hpl
  obtain ⟨cellS, hcS', heS, -, hkeep⟩ := X.same.2.2.2.2.2 T.aS cellS0 hcS0
  have hcellS : W.heap[T.aS]? = some cellS := hcS'
  have hout' : ∀ i, (⟨T.aS, i⟩ : Loc) ∉ locs := fun i hmem => by
    have := hlocs _ hmem cellS0 hcS0
    rw [hiss] at this; cases this
  have hknownS : cellS.vm ≠ .unknown := by
    rw [heS]; intro hu
    rw [show cellS0.vm = .unknown from hu] at hiss
    cases hiss
  have hvU : cellS.slots[T.fUnassigned.slot]? = some u0.v := by rw [hkeep _ (hout' _)]; exact hu0
  have hvSen : cellS.slots[T.fSentinel.slot]? = some sen.v := by rw [hkeep _ (hout' _)]; exact hsen
  obtain ⟨tyC, dC, hdC, hdnC⟩ := Cond.laysAt hfound hk Y.cause (a' (.lays Bundle.nN Bundle.tN "cause" "Ljava/lang/Throwable;") (by simp [Bundle.npeArmAtoms]))
  obtain ⟨tyS, dS, hdS, hdnS⟩ := Cond.laysAt hfound hk Y.stack (a' (.lays Bundle.nN Bundle.tN "stackTrace" Bundle.steD) (by simp [Bundle.npeArmAtoms]))
  obtain ⟨tyP, dP, hdP, hdnP⟩ := Cond.laysAt hfound hk Y.supp (a' (.lays Bundle.nN Bundle.tN "suppressedExceptions" Bundle.listD) (by simp [Bundle.npeArmAtoms]))
  obtain ⟨tyX, dX, hdX, hdnX⟩ := Cond.laysAt hfound hk hffS (a' (.lays Bundle.nN Bundle.nN "extendedMessageState" "I") (by simp [Bundle.npeArmAtoms, Bundle.npeAtoms]))
  obtain ⟨hnX, htX⟩ := State.fieldFound?_type hffS (t := .int) (by decide +kernel)
  have xC := Cond.laysApart hdC hdX hdnC hdnX (by rw [hnX, Y.causeName]; decide)
  have xS := Cond.laysApart hdS hdX hdnS hdnX (by rw [hnX, Y.stackName]; decide)
  have xP := Cond.laysApart hdP hdX hdnP hdnX (by rw [hnX, Y.suppName]; decide)
  have hv0 : (freshCell P1.m.cls N.kN).slots[N.fState.slot]? = some (.int 0) := by
    have := fresh_default (c := P1.m.cls) tyX
    rw [htX] at this; exact this
  obtain ⟨tyB, dB, hdB, hdnB⟩ := Cond.laysAt hfound hk hffB (a' (.lays Bundle.nN Bundle.tN "backtrace" Bundle.objD) (by simp [Bundle.npeArmAtoms]))
  have bC := Cond.laysApart hdB hdC hdnB hdnC (by rw [hnB, Y.causeName]; decide)
  have bS := Cond.laysApart hdB hdS hdnB hdnS (by rw [hnB, Y.stackName]; decide)
  have bP := Cond.laysApart hdB hdP hdnB hdnP (by rw [hnB, Y.suppName]; decide)
  have bX := Cond.laysApart hdB hdX hdnB hdnX (by rw [hnB, hnX]; decide)
  have hbk : ((npeCell N.toNpeT (preparedCellV T.toThrowableT (freshCell P1.m.cls N.kN) W.heap.size u0 sen) W.cur).withEntry W.cur).slots[fB.slot]? = some .null := by
    have := fresh_default (c := P1.m.cls) tyB
    rw [htB] at this
    simpa [npeCell, preparedCellV, Cell.setSlot, Cell.withEntry, Array.getElem?_setIfInBounds, bC, bS, bP, bX, bC.symm, bS.symm, bP.symm, bX.symm, defaultValue] using this
  have tkC := Takes.of_laid (v := .ref W.heap.size) hk hordN tyC (by rw [Y.causeType]; rfl)
  have tkS := Takes.of_laid (v := u0.v) hk hordN tyS (by rw [Y.stackType]; exact fits_refV_array _ u0)
  have tkP := Takes.of_laid (v := sen.v) hk hordN tyP (by rw [Y.suppType]; exact fits_refV_object _ sen)
  have tkX := Takes.of_laid (v := .int 1) hk hordN tyX (by rw [htX]; rfl)
  have hskip : SkipFacts T e.platform s (fun u => u) u0 ((npeCell N.toNpeT (preparedCellV T.toThrowableT (freshCell P1.m.cls N.kN) W.heap.size u0 sen) W.cur).withEntry W.cur) := ⟨{ ci198 := ci198, i198 := i198, fBack := fB }, ⟨hk198, hg198, ha198, hsB⟩, hbk, fun _ _ => rfl⟩
  obtain ⟨vm', X3, st, -⟩ := X.throwsNpeColdBareVAt hexec hg hsize T L Z LZ N LN P1 L1 [PR, PE] hLs hlink1 ⟨hlinkR, hlinkE, trivial⟩ hfound hk hinit hordN hctor hsel0 hselF hcellS hknownS hvU hvSen
    hv0 xC xS xP tkC tkS tkP tkX Y.objLocals hskip (fun _ _ hA hW _ hroom _ hrest => L.nativeOff p htr hA hW hroom hrest) (by simpa using hRframes) hRlocals (by simp) hRcells (by rw [hn]; exact hRslots)
  have hlt : W.heap.size < ((W.pushCell (freshCell P1.m.cls N.kN)).setVm vm').heap.size := by
    show W.heap.size < (W.pushCell (freshCell P1.m.cls N.kN)).heap.size
    rw [State.heap_size_pushCell]; omega
  rw [hfsz] at X3
  obtain ⟨g₁, hfrM⟩ := X3.frames_eq
  have hU : ((((W.pushCell (freshCell P1.m.cls N.kN)).setVm vm').setCell W.heap.size (npeBareV T.toThrowableT N.toNpeT (freshCell P1.m.cls N.kN) W.heap.size u0 sen)).setTop g).pushFrame (.throwing W.heap.size) = (((W.pushCell (freshCell P1.m.cls N.kN)).setVm vm').setCell W.heap.size (npeBareV T.toThrowableT N.toNpeT (freshCell P1.m.cls N.kN) W.heap.size u0 sen)).setFrames (.throwing W.heap.size :: .java g :: below) := by
    rw [State.pushFrame, State.frames_setTop _ hfrM, State.setTop_of_frames _ hfrM, State.setFrames_setFrames]
  refine ⟨_, W.heap.size, _, fun target ht => st.trans (by rw [← hU]; exact ht), X3.forget (fun y hy => ?_), heapAt_setCell_self _ hlt, hfound, rfl⟩
  simp only [List.mem_cons, List.not_mem_nil, or_false] at hy
  have hge : s.heap.size ≤ W.heap.size := X.same.2.1
  rcases hy with rfl | rfl | rfl | rfl | rfl <;> exact hge
/-- the words of a machine's NullPointerException, but the four that speak of the heap -/
def vx_atN (n : Nat) : List Cond := (Bundle.npeArmAtoms n).filter vx_no
/-- the words of a machine's throw with a message, but the four that speak of the heap -/
def vx_atM (X : String) (names : List String) : List Cond := (Bundle.messageArmAtoms X names).filter vx_no
section
variable {p : Program} {l : Launch} {e : Env} {R : Room} {s : State} {m : MethodId} {args : Array Value} {below : List Frame} {meth : Method} {c : Code} {H : Heap} {locs : List Loc} {cells slots : Nat}
/-- a frame seen from a rebased start, seen from the first start again -/
theorem vx_back9 {T S : State} {R' : Room} {k n : Nat} (X : Stand p l e R s m args below meth c T locs cells slots) (Y : Stand p l e R' ((T.setVm s.vm).setFrames (.invoking m args :: below)) m args below meth c T [] 0 0) (Z : Stand p l e R' ((T.setVm s.vm).setFrames (.invoking m args :: below)) m args below meth c S [] k n) :
    Stand p l e R s m args below meth c S locs (cells + k) (slots + n) := by
  have hW0 : s.WarmedH ((T.setVm s.vm).setFrames (.invoking m args :: below)).vm := State.WarmedH.refl s
  refine { admits := X.admits, cas := X.cas, clock := X.clock, frames := X.frames, room := X.room, hears := X.hears, method := X.method, code := X.code, here := Z.here, tail := Z.tail, warmed := State.WarmedH.trans hW0 Z.warmed, limits := Z.limits.trans (Y.limits.symm.trans X.limits), bytes := Z.bytes.trans (Y.bytes.symm.trans X.bytes), same := ?_ }
  obtain ⟨e1, e2⟩ := Z.same
  rw [State.setFrames_setFrames] at e1
  have h2 : (T.setVm s.vm).sameButNew (S.setVm s.vm) [] k n := ⟨e1, e2⟩
  have h3 := X.same.trans h2
  rw [List.append_nil] at h3
  exact h3
/-- from the machine's note that E is thrown here with this text -/
def vx_Note (p : Program) (l : Launch) (e : Env) (R : Room) (s : State) (m : MethodId) (args : Array Value) (below : List Frame) (meth : Method) (c : Code) (H : Heap) (locs : List Loc) (cells slots : Nat) (Q : State → Prop) (g : JFrame) (E text : String) : Prop :=
  ∀ T : State, T.heap = H → Stand p l e R s m args below meth c T locs cells slots → ∃ t, Steps p.tables e below ((T.setTop g).pushFrame (.throwNew E (some text) none)) t ∧ Q t
theorem vx_vm {pc : Nat} {ls : Array Slot} {rest : List Value} {Q : State → Prop} (hexec : p.tables.exec = Jvm.exec) (hl : l.stackTraces = false) {cls text : String} {names : List String} {nb : Nat} {A : Nat → Prop}
    (hcls : Bundle.fit cls = true) (hnames : ∀ n ∈ names, Bundle.fit n = true) (hsoe : (cls == "java/lang/StackOverflowError") = false) (hoom : (cls == "java/lang/OutOfMemoryError") = false)
    (hat : ∀ w ∈ vx_atM cls names, w.before args s = true) (hgood : ∀ w ∈ vx_atM cls names, vx_ot w = true)
    (hU : vx_Zq Bundle.tN "UNASSIGNED_STACK" Bundle.steD A s s.heap) (hN : vx_Zq Bundle.tN "SUPPRESSED_SENTINEL" Bundle.listD A s s.heap) (hS : va_S A s.heap H locs) (hsize : ls.size = c.maxLocals)
    (htext : (text == notModelled) = false) (hnb : (stringBytes (stringToUtf16 text)).size ≤ nb) (hnb1 : nb ≤ 1000)
    (hRframes : names.length + 4 < R.frames) (hRlocals : (rest.map fun v => v.category).sum + 10240 ≤ R.locals) (hshort : 13 * names.length + 55 ≤ 10240) (hRcells : cells + 3 ≤ R.cells) (hRslots : slots + (nb + 10) ≤ R.slots) (hlocks : meth.locks = false)
    (k : ∀ (H1 : Heap) (q9 : Addr) (ce : Cell), H.size ≤ H1.size → (∀ q : Nat, q < H.size → H1[q]? = H[q]?) → va_S A s.heap H1 locs → H1[q9]? = some ce → ce.vm = .none → s.vm.findClass cls = some ce.cls → vx_W p l e R s m args below meth c H1 locs (cells + 3) (slots + (nb + 10)) Q (F0 m pc ls rest) q9) :
    vx_Note p l e R s m args below meth c H locs cells slots Q (F0 m pc ls rest) cls text := by
  intro T hT X
  have htr : e.platform.stackTraces = false := (show e.platform.stackTraces = l.stackTraces by rw [X.admits.platform]).trans hl
  have Y := vx_rebase X (R' := { frames := R.frames, locals := R.locals, cells := 3, slots := nb + 10 }) (Nat.le_refl _) (Nat.le_refl _) hRcells hRslots
  have hhp : ((T.setVm s.vm).setFrames (.invoking m args :: below)).heap = H := hT
  have hW0 : s.WarmedH ((T.setVm s.vm).setFrames (.invoking m args :: below)).vm := State.WarmedH.refl s
  have hat' : ∀ w ∈ vx_atM cls names, w.before args ((T.setVm s.vm).setFrames (.invoking m args :: below)) = true := fun w hw => vx_ot_at hW0 rfl (hgood w hw) (hat w hw)
  have hU' : vx_Zq Bundle.tN "UNASSIGNED_STACK" Bundle.steD A ((T.setVm s.vm).setFrames (.invoking m args :: below)) ((T.setVm s.vm).setFrames (.invoking m args :: below)).heap := by rw [hhp]; exact vx_Zq.moved hW0.alike (hU.kept hS.2.1)
  have hN' : vx_Zq Bundle.tN "SUPPRESSED_SENTINEL" Bundle.listD A ((T.setVm s.vm).setFrames (.invoking m args :: below)) ((T.setVm s.vm).setFrames (.invoking m args :: below)).heap := by rw [hhp]; exact vx_Zq.moved hW0.alike (hN.kept hS.2.1)
  obtain ⟨S, q, ce, st, Z, hce, hcl', hv⟩ := vx_vmAt Y hexec htr (cls := cls) (names := names) (text := text) hcls hnames hsoe hoom (vx_own hat' (vx_isRefq hU'.1) (vx_isRefq hN'.1) hU'.2.word hN'.2.word) (fun x hx => nomatch hx) htext
    (by rw [Launch.admits_arrayLengthLimit X.admits]; omega) (by rw [Launch.admits_maxHeapBytes X.admits]; simp only [componentBytes]; omega)
    (g := F0 m pc ls rest) rfl hsize hRframes (by show 2 * 0 + (rest.map fun v => v.category).sum + 10240 ≤ R.locals; omega) hshort (by show 0 + 3 ≤ 3; omega) (by show 0 + (_ + 4 + 6) ≤ nb + 10; omega) hlocks
  obtain ⟨f1, f2⟩ := vx_frame Z.same
  have f1' : H.size ≤ S.heap.size := by rw [← hT]; exact f1
  have f2' : ∀ q : Nat, q < H.size → S.heap[q]? = H[q]? := fun q hq => by
    rw [← hT]
    exact f2 q (by rw [← hT] at hq; exact hq) (fun z hz => nomatch hz)
  have X5 := vx_back9 X Y Z
  have X6 : Stand p l e R s m args below meth c S locs (cells + 3) (slots + (nb + 10)) := { X5 with same := X5.same.mono (by omega) (by omega) }
  obtain ⟨t, a1, b1⟩ := k S.heap q ce f1' f2' ⟨Nat.le_trans hS.1 f1', fun q h1 h2 => (f2' q (Nat.lt_of_lt_of_le h1 hS.1)).trans (hS.2.1 q h1 h2), hS.2.2⟩ hce hv hcl' S rfl X6
  exact ⟨t, st t a1, b1⟩
/-- from the machine's note that NullPointerException is thrown here -/
def vx_NoteN (p : Program) (l : Launch) (e : Env) (R : Room) (s : State) (m : MethodId) (args : Array Value) (below : List Frame) (meth : Method) (c : Code) (H : Heap) (locs : List Loc) (cells slots : Nat) (Q : State → Prop) (g : JFrame) : Prop :=
  ∀ T : State, T.heap = H → Stand p l e R s m args below meth c T locs cells slots → ∃ t, Steps p.tables e below ((T.setTop g).pushFrame (.throwNew "java/lang/NullPointerException" none none)) t ∧ Q t
theorem vx_npe {pc : Nat} {ls : Array Slot} {rest : List Value} {Q : State → Prop} (hexec : p.tables.exec = Jvm.exec) (hl : l.stackTraces = false) {nb : Nat} {A : Nat → Prop}
    (hat : ∀ w ∈ vx_atN nb, w.before args s = true) (hgood : ∀ w ∈ vx_atN nb, vx_ot w = true)
    (hU : vx_Zq Bundle.tN "UNASSIGNED_STACK" Bundle.steD A s s.heap) (hN : vx_Zq Bundle.tN "SUPPRESSED_SENTINEL" Bundle.listD A s s.heap) (hS : va_S A s.heap H locs) (hsize : ls.size = c.maxLocals)
    (hRframes : 7 < R.frames) (hRlocals : (rest.map fun v => v.category).sum + 10240 ≤ R.locals) (hRcells : cells + 1 ≤ R.cells) (hRslots : slots + nb ≤ R.slots) (hlocks : meth.locks = false)
    (k : ∀ (H1 : Heap) (q9 : Addr) (ce : Cell), H.size ≤ H1.size → (∀ q : Nat, q < H.size → H1[q]? = H[q]?) → va_S A s.heap H1 locs → H1[q9]? = some ce → ce.vm = .none → s.vm.findClass "java/lang/NullPointerException" = some ce.cls → vx_W p l e R s m args below meth c H1 locs (cells + 1) (slots + nb) Q (F0 m pc ls rest) q9) :
    vx_NoteN p l e R s m args below meth c H locs cells slots Q (F0 m pc ls rest) := by
  intro T hT X
  have htr : e.platform.stackTraces = false := (show e.platform.stackTraces = l.stackTraces by rw [X.admits.platform]).trans hl
  have Y := vx_rebase X (R' := { frames := R.frames, locals := R.locals, cells := 1, slots := nb }) (Nat.le_refl _) (Nat.le_refl _) hRcells hRslots
  have hhp : ((T.setVm s.vm).setFrames (.invoking m args :: below)).heap = H := hT
  have hW0 : s.WarmedH ((T.setVm s.vm).setFrames (.invoking m args :: below)).vm := State.WarmedH.refl s
  have hat' : ∀ w ∈ vx_atN nb, w.before args ((T.setVm s.vm).setFrames (.invoking m args :: below)) = true := fun w hw => vx_ot_at hW0 rfl (hgood w hw) (hat w hw)
  have hU' : vx_Zq Bundle.tN "UNASSIGNED_STACK" Bundle.steD A ((T.setVm s.vm).setFrames (.invoking m args :: below)) ((T.setVm s.vm).setFrames (.invoking m args :: below)).heap := by rw [hhp]; exact vx_Zq.moved hW0.alike (hU.kept hS.2.1)
  have hN' : vx_Zq Bundle.tN "SUPPRESSED_SENTINEL" Bundle.listD A ((T.setVm s.vm).setFrames (.invoking m args :: below)) ((T.setVm s.vm).setFrames (.invoking m args :: below)).heap := by rw [hhp]; exact vx_Zq.moved hW0.alike (hN.kept hS.2.1)
  obtain ⟨S, q, ce, st, Z, hce, hcl', hv⟩ := vx_npeAt Y hexec htr (n := nb) (vx_own hat' (vx_isRefq hU'.1) (vx_isRefq hN'.1) hU'.2.word hN'.2.word) (fun x hx => nomatch hx)
    (g := F0 m pc ls rest) rfl hsize hRframes (by show 2 * 0 + (rest.map fun v => v.category).sum + 10240 ≤ R.locals; omega) (by show 0 + 1 ≤ 1; omega) (by show 0 + nb ≤ nb; omega) hlocks
  obtain ⟨f1, f2⟩ := vx_frame Z.same
  have f1' : H.size ≤ S.heap.size := by rw [← hT]; exact f1
  have f2' : ∀ q : Nat, q < H.size → S.heap[q]? = H[q]? := fun q hq => by
    rw [← hT]
    exact f2 q (by rw [← hT] at hq; exact hq) (fun z hz => nomatch hz)
  have X5 := vx_back9 X Y Z
  have X6 : Stand p l e R s m args below meth c S locs (cells + 1) (slots + nb) := { X5 with same := X5.same.mono (by omega) (by omega) }
  obtain ⟨t, a1, b1⟩ := k S.heap q ce f1' f2' ⟨Nat.le_trans hS.1 f1', fun q h1 h2 => (f2' q (Nat.lt_of_lt_of_le h1 hS.1)).trans (hS.2.1 q h1 h2), hS.2.2⟩ hce hv hcl' S rfl X6
  exact ⟨t, st t a1, b1⟩
variable {Q : State → Prop} {cc : ByteArray} {pc : Nat} {ls : Array Slot} {rest : List Value}
theorem vx_idivZ (hexec : p.tables.exec = Jvm.exec) (hb : c.code = cc) {a b : Int32} (h0 : b = 0) (d : decode cc pc = .ok (.idiv, 1)) (k : vx_Note p l e R s m args below meth c H locs cells slots Q (F0 m pc ls rest) "java/lang/ArithmeticException" "/ by zero") :
    W p l e R s m args below meth c H locs cells slots Q (F0 m pc ls (.int b :: .int a :: rest)) := by
  intro T hT X
  obtain ⟨t, st, q⟩ := k T hT X
  exact ⟨t, X.idivZero hexec (g := F0 m pc ls (.int b :: .int a :: rest)) rfl (a := a) (rest := rest) (by rw [h0]) (by rw [hb]; exact d) t st, q⟩
theorem vx_iremZ (hexec : p.tables.exec = Jvm.exec) (hb : c.code = cc) {a b : Int32} (h0 : b = 0) (d : decode cc pc = .ok (.irem, 1)) (k : vx_Note p l e R s m args below meth c H locs cells slots Q (F0 m pc ls rest) "java/lang/ArithmeticException" "/ by zero") :
    W p l e R s m args below meth c H locs cells slots Q (F0 m pc ls (.int b :: .int a :: rest)) := by
  intro T hT X
  obtain ⟨t, st, q⟩ := k T hT X
  exact ⟨t, X.iremZero hexec (g := F0 m pc ls (.int b :: .int a :: rest)) rfl (a := a) (rest := rest) (by rw [h0]) (by rw [hb]; exact d) t st, q⟩
theorem vx_ldivZ (hexec : p.tables.exec = Jvm.exec) (hb : c.code = cc) {a b : Int64} (h0 : b = 0) (d : decode cc pc = .ok (.ldiv, 1)) (k : vx_Note p l e R s m args below meth c H locs cells slots Q (F0 m pc ls rest) "java/lang/ArithmeticException" "/ by zero") :
    W p l e R s m args below meth c H locs cells slots Q (F0 m pc ls (.long b :: .long a :: rest)) := by
  intro T hT X
  obtain ⟨t, st, q⟩ := k T hT X
  exact ⟨t, X.ldivZero hexec (g := F0 m pc ls (.long b :: .long a :: rest)) rfl (a := a) (rest := rest) (by rw [h0]) (by rw [hb]; exact d) t st, q⟩
theorem vx_lremZ (hexec : p.tables.exec = Jvm.exec) (hb : c.code = cc) {a b : Int64} (h0 : b = 0) (d : decode cc pc = .ok (.lrem, 1)) (k : vx_Note p l e R s m args below meth c H locs cells slots Q (F0 m pc ls rest) "java/lang/ArithmeticException" "/ by zero") :
    W p l e R s m args below meth c H locs cells slots Q (F0 m pc ls (.long b :: .long a :: rest)) := by
  intro T hT X
  obtain ⟨t, st, q⟩ := k T hT X
  exact ⟨t, X.lremZero hexec (g := F0 m pc ls (.long b :: .long a :: rest)) rfl (a := a) (rest := rest) (by rw [h0]) (by rw [hb]; exact d) t st, q⟩
theorem vx_ialdZ {D : va_G} {cl : List vw_C} {ws : va_W} {tys : List (ClassId × FieldType)} {a : Nat} (hexec : p.tables.exec = Jvm.exec) (hb : c.code = cc) (hK : va_K D cl tys s) (hP : va_P D cl ws H) (q0 t0 : Nat) {cA : ClassId} {n : Nat} {f : Nat → Int32} (ha : ws[q0]? = some (a, .inl (cA, n, .inl f))) (ht : tys[t0]? = some (cA, .int)) {i : Int32} (hout : ¬ vp_in i n) (hdg : decode cc pc = .ok (.iaload, 1))
    (k : ∀ tx : String, tx = (toString "Index " ++ toString i ++ toString " out of bounds for length " ++ toString n : String) → vx_Note p l e R s m args below meth c H locs cells slots Q (F0 m pc ls rest) "java/lang/ArrayIndexOutOfBoundsException" tx) : W p l e R s m args below meth c H locs cells slots Q (F0 m pc ls (.int i :: .ref a :: rest)) := by
  intro T hT X
  obtain ⟨t, st, q⟩ := k _ rfl T hT X
  refine ⟨t, ?_, q⟩
  have h1 := X.ialoadOut hexec (by rw [hT]; exact hP q0 _ ha) ((hK.2 t0 _ ht).1 n (fun j => .int (f j))) (j := i) (by show (i < 0 ∨ (arrV _ _ _).slots.size ≤ _); rw [arrV_size]; exact Classical.byContradiction hout) (g := F0 m pc ls (.int i :: .ref a :: rest)) rfl (rest := rest) rfl (by rw [hb]; exact hdg) t
  simp only [arrV_size] at h1
  exact h1 st
theorem vx_iastZ {D : va_G} {cl : List vw_C} {ws : va_W} {tys : List (ClassId × FieldType)} {a : Nat} (hexec : p.tables.exec = Jvm.exec) (hb : c.code = cc) (hK : va_K D cl tys s) (hP : va_P D cl ws H) (q0 t0 : Nat) {cA : ClassId} {n : Nat} {f : Nat → Int32} (ha : ws[q0]? = some (a, .inl (cA, n, .inl f))) (ht : tys[t0]? = some (cA, .int)) {i : Int32} {x : Int32} (hout : ¬ vp_in i n) (hdg : decode cc pc = .ok (.iastore, 1))
    (k : ∀ tx : String, tx = (toString "Index " ++ toString i ++ toString " out of bounds for length " ++ toString n : String) → vx_Note p l e R s m args below meth c H locs cells slots Q (F0 m pc ls rest) "java/lang/ArrayIndexOutOfBoundsException" tx) : W p l e R s m args below meth c H locs cells slots Q (F0 m pc ls (.int x :: .int i :: .ref a :: rest)) := by
  intro T hT X
  obtain ⟨t, st, q⟩ := k _ rfl T hT X
  refine ⟨t, ?_, q⟩
  have h1 := X.iastoreOut hexec (by rw [hT]; exact hP q0 _ ha) ((hK.2 t0 _ ht).1 n (fun j => .int (f j))) (j := i) (by show (i < 0 ∨ (arrV _ _ _).slots.size ≤ _); rw [arrV_size]; exact Classical.byContradiction hout) (g := F0 m pc ls (.int x :: .int i :: .ref a :: rest)) rfl (rest := rest) rfl (by rw [hb]; exact hdg) t
  simp only [arrV_size] at h1
  exact h1 st
theorem vx_baldZ {D : va_G} {cl : List vw_C} {ws : va_W} {tys : List (ClassId × FieldType)} {a : Nat} (hexec : p.tables.exec = Jvm.exec) (hb : c.code = cc) (hK : va_K D cl tys s) (hP : va_P D cl ws H) (q0 t0 : Nat) {cA : ClassId} {n : Nat} {f : Nat → Int32} (ha : ws[q0]? = some (a, .inl (cA, n, .inl f))) (ht : tys[t0]? = some (cA, .byte)) {i : Int32} (hout : ¬ vp_in i n) (hdg : decode cc pc = .ok (.baload, 1))
    (k : ∀ tx : String, tx = (toString "Index " ++ toString i ++ toString " out of bounds for length " ++ toString n : String) → vx_Note p l e R s m args below meth c H locs cells slots Q (F0 m pc ls rest) "java/lang/ArrayIndexOutOfBoundsException" tx) : W p l e R s m args below meth c H locs cells slots Q (F0 m pc ls (.int i :: .ref a :: rest)) := by
  intro T hT X
  obtain ⟨t, st, q⟩ := k _ rfl T hT X
  refine ⟨t, ?_, q⟩
  have h1 := X.baloadOut hexec (by rw [hT]; exact hP q0 _ ha) ((hK.2 t0 _ ht).1 n (fun j => .int (f j))) (j := i) (by show (i < 0 ∨ (arrV _ _ _).slots.size ≤ _); rw [arrV_size]; exact Classical.byContradiction hout) (g := F0 m pc ls (.int i :: .ref a :: rest)) rfl (rest := rest) rfl (by rw [hb]; exact hdg) t
  simp only [arrV_size] at h1
  exact h1 st
theorem vx_bastZ {D : va_G} {cl : List vw_C} {ws : va_W} {tys : List (ClassId × FieldType)} {a : Nat} (hexec : p.tables.exec = Jvm.exec) (hb : c.code = cc) (hK : va_K D cl tys s) (hP : va_P D cl ws H) (q0 t0 : Nat) {cA : ClassId} {n : Nat} {f : Nat → Int32} (ha : ws[q0]? = some (a, .inl (cA, n, .inl f))) (ht : tys[t0]? = some (cA, .byte)) {i : Int32} {x : Int32} (hout : ¬ vp_in i n) (hdg : decode cc pc = .ok (.bastore, 1))
    (k : ∀ tx : String, tx = (toString "Index " ++ toString i ++ toString " out of bounds for length " ++ toString n : String) → vx_Note p l e R s m args below meth c H locs cells slots Q (F0 m pc ls rest) "java/lang/ArrayIndexOutOfBoundsException" tx) : W p l e R s m args below meth c H locs cells slots Q (F0 m pc ls (.int x :: .int i :: .ref a :: rest)) := by
  intro T hT X
  obtain ⟨t, st, q⟩ := k _ rfl T hT X
  refine ⟨t, ?_, q⟩
  have h1 := X.bastoreOut hexec (by rw [hT]; exact hP q0 _ ha) ((hK.2 t0 _ ht).1 n (fun j => .int (f j))) (j := i) (by show (i < 0 ∨ (arrV _ _ _).slots.size ≤ _); rw [arrV_size]; exact Classical.byContradiction hout) (g := F0 m pc ls (.int x :: .int i :: .ref a :: rest)) rfl (rest := rest) rfl (by rw [hb]; exact hdg) t
  simp only [arrV_size] at h1
  exact h1 st
theorem vx_zaldZ {D : va_G} {cl : List vw_C} {ws : va_W} {tys : List (ClassId × FieldType)} {a : Nat} (hexec : p.tables.exec = Jvm.exec) (hb : c.code = cc) (hK : va_K D cl tys s) (hP : va_P D cl ws H) (q0 t0 : Nat) {cA : ClassId} {n : Nat} {f : Nat → Int32} (ha : ws[q0]? = some (a, .inl (cA, n, .inl f))) (ht : tys[t0]? = some (cA, .boolean)) {i : Int32} (hout : ¬ vp_in i n) (hdg : decode cc pc = .ok (.baload, 1))
    (k : ∀ tx : String, tx = (toString "Index " ++ toString i ++ toString " out of bounds for length " ++ toString n : String) → vx_Note p l e R s m args below meth c H locs cells slots Q (F0 m pc ls rest) "java/lang/ArrayIndexOutOfBoundsException" tx) : W p l e R s m args below meth c H locs cells slots Q (F0 m pc ls (.int i :: .ref a :: rest)) := by
  intro T hT X
  obtain ⟨t, st, q⟩ := k _ rfl T hT X
  refine ⟨t, ?_, q⟩
  have h1 := X.baloadOut hexec (by rw [hT]; exact hP q0 _ ha) ((hK.2 t0 _ ht).1 n (fun j => .int (f j))) (j := i) (by show (i < 0 ∨ (arrV _ _ _).slots.size ≤ _); rw [arrV_size]; exact Classical.byContradiction hout) (g := F0 m pc ls (.int i :: .ref a :: rest)) rfl (rest := rest) rfl (by rw [hb]; exact hdg) t
  simp only [arrV_size] at h1
  exact h1 st
theorem vx_zastZ {D : va_G} {cl : List vw_C} {ws : va_W} {tys : List (ClassId × FieldType)} {a : Nat} (hexec : p.tables.exec = Jvm.exec) (hb : c.code = cc) (hK : va_K D cl tys s) (hP : va_P D cl ws H) (q0 t0 : Nat) {cA : ClassId} {n : Nat} {f : Nat → Int32} (ha : ws[q0]? = some (a, .inl (cA, n, .inl f))) (ht : tys[t0]? = some (cA, .boolean)) {i : Int32} {x : Int32} (hout : ¬ vp_in i n) (hdg : decode cc pc = .ok (.bastore, 1))
    (k : ∀ tx : String, tx = (toString "Index " ++ toString i ++ toString " out of bounds for length " ++ toString n : String) → vx_Note p l e R s m args below meth c H locs cells slots Q (F0 m pc ls rest) "java/lang/ArrayIndexOutOfBoundsException" tx) : W p l e R s m args below meth c H locs cells slots Q (F0 m pc ls (.int x :: .int i :: .ref a :: rest)) := by
  intro T hT X
  obtain ⟨t, st, q⟩ := k _ rfl T hT X
  refine ⟨t, ?_, q⟩
  have h1 := X.bastoreOut hexec (by rw [hT]; exact hP q0 _ ha) ((hK.2 t0 _ ht).1 n (fun j => .int (f j))) (j := i) (by show (i < 0 ∨ (arrV _ _ _).slots.size ≤ _); rw [arrV_size]; exact Classical.byContradiction hout) (g := F0 m pc ls (.int x :: .int i :: .ref a :: rest)) rfl (rest := rest) rfl (by rw [hb]; exact hdg) t
  simp only [arrV_size] at h1
  exact h1 st
theorem vx_caldZ {D : va_G} {cl : List vw_C} {ws : va_W} {tys : List (ClassId × FieldType)} {a : Nat} (hexec : p.tables.exec = Jvm.exec) (hb : c.code = cc) (hK : va_K D cl tys s) (hP : va_P D cl ws H) (q0 t0 : Nat) {cA : ClassId} {n : Nat} {f : Nat → Int32} (ha : ws[q0]? = some (a, .inl (cA, n, .inl f))) (ht : tys[t0]? = some (cA, .char)) {i : Int32} (hout : ¬ vp_in i n) (hdg : decode cc pc = .ok (.caload, 1))
    (k : ∀ tx : String, tx = (toString "Index " ++ toString i ++ toString " out of bounds for length " ++ toString n : String) → vx_Note p l e R s m args below meth c H locs cells slots Q (F0 m pc ls rest) "java/lang/ArrayIndexOutOfBoundsException" tx) : W p l e R s m args below meth c H locs cells slots Q (F0 m pc ls (.int i :: .ref a :: rest)) := by
  intro T hT X
  obtain ⟨t, st, q⟩ := k _ rfl T hT X
  refine ⟨t, ?_, q⟩
  have h1 := X.caloadOut hexec (by rw [hT]; exact hP q0 _ ha) ((hK.2 t0 _ ht).1 n (fun j => .int (f j))) (j := i) (by show (i < 0 ∨ (arrV _ _ _).slots.size ≤ _); rw [arrV_size]; exact Classical.byContradiction hout) (g := F0 m pc ls (.int i :: .ref a :: rest)) rfl (rest := rest) rfl (by rw [hb]; exact hdg) t
  simp only [arrV_size] at h1
  exact h1 st
theorem vx_castZ {D : va_G} {cl : List vw_C} {ws : va_W} {tys : List (ClassId × FieldType)} {a : Nat} (hexec : p.tables.exec = Jvm.exec) (hb : c.code = cc) (hK : va_K D cl tys s) (hP : va_P D cl ws H) (q0 t0 : Nat) {cA : ClassId} {n : Nat} {f : Nat → Int32} (ha : ws[q0]? = some (a, .inl (cA, n, .inl f))) (ht : tys[t0]? = some (cA, .char)) {i : Int32} {x : Int32} (hout : ¬ vp_in i n) (hdg : decode cc pc = .ok (.castore, 1))
    (k : ∀ tx : String, tx = (toString "Index " ++ toString i ++ toString " out of bounds for length " ++ toString n : String) → vx_Note p l e R s m args below meth c H locs cells slots Q (F0 m pc ls rest) "java/lang/ArrayIndexOutOfBoundsException" tx) : W p l e R s m args below meth c H locs cells slots Q (F0 m pc ls (.int x :: .int i :: .ref a :: rest)) := by
  intro T hT X
  obtain ⟨t, st, q⟩ := k _ rfl T hT X
  refine ⟨t, ?_, q⟩
  have h1 := X.castoreOut hexec (by rw [hT]; exact hP q0 _ ha) ((hK.2 t0 _ ht).1 n (fun j => .int (f j))) (j := i) (by show (i < 0 ∨ (arrV _ _ _).slots.size ≤ _); rw [arrV_size]; exact Classical.byContradiction hout) (g := F0 m pc ls (.int x :: .int i :: .ref a :: rest)) rfl (rest := rest) rfl (by rw [hb]; exact hdg) t
  simp only [arrV_size] at h1
  exact h1 st
theorem vx_saldZ {D : va_G} {cl : List vw_C} {ws : va_W} {tys : List (ClassId × FieldType)} {a : Nat} (hexec : p.tables.exec = Jvm.exec) (hb : c.code = cc) (hK : va_K D cl tys s) (hP : va_P D cl ws H) (q0 t0 : Nat) {cA : ClassId} {n : Nat} {f : Nat → Int32} (ha : ws[q0]? = some (a, .inl (cA, n, .inl f))) (ht : tys[t0]? = some (cA, .short)) {i : Int32} (hout : ¬ vp_in i n) (hdg : decode cc pc = .ok (.saload, 1))
    (k : ∀ tx : String, tx = (toString "Index " ++ toString i ++ toString " out of bounds for length " ++ toString n : String) → vx_Note p l e R s m args below meth c H locs cells slots Q (F0 m pc ls rest) "java/lang/ArrayIndexOutOfBoundsException" tx) : W p l e R s m args below meth c H locs cells slots Q (F0 m pc ls (.int i :: .ref a :: rest)) := by
  intro T hT X
  obtain ⟨t, st, q⟩ := k _ rfl T hT X
  refine ⟨t, ?_, q⟩
  have h1 := X.saloadOut hexec (by rw [hT]; exact hP q0 _ ha) ((hK.2 t0 _ ht).1 n (fun j => .int (f j))) (j := i) (by show (i < 0 ∨ (arrV _ _ _).slots.size ≤ _); rw [arrV_size]; exact Classical.byContradiction hout) (g := F0 m pc ls (.int i :: .ref a :: rest)) rfl (rest := rest) rfl (by rw [hb]; exact hdg) t
  simp only [arrV_size] at h1
  exact h1 st
theorem vx_sastZ {D : va_G} {cl : List vw_C} {ws : va_W} {tys : List (ClassId × FieldType)} {a : Nat} (hexec : p.tables.exec = Jvm.exec) (hb : c.code = cc) (hK : va_K D cl tys s) (hP : va_P D cl ws H) (q0 t0 : Nat) {cA : ClassId} {n : Nat} {f : Nat → Int32} (ha : ws[q0]? = some (a, .inl (cA, n, .inl f))) (ht : tys[t0]? = some (cA, .short)) {i : Int32} {x : Int32} (hout : ¬ vp_in i n) (hdg : decode cc pc = .ok (.sastore, 1))
    (k : ∀ tx : String, tx = (toString "Index " ++ toString i ++ toString " out of bounds for length " ++ toString n : String) → vx_Note p l e R s m args below meth c H locs cells slots Q (F0 m pc ls rest) "java/lang/ArrayIndexOutOfBoundsException" tx) : W p l e R s m args below meth c H locs cells slots Q (F0 m pc ls (.int x :: .int i :: .ref a :: rest)) := by
  intro T hT X
  obtain ⟨t, st, q⟩ := k _ rfl T hT X
  refine ⟨t, ?_, q⟩
  have h1 := X.sastoreOut hexec (by rw [hT]; exact hP q0 _ ha) ((hK.2 t0 _ ht).1 n (fun j => .int (f j))) (j := i) (by show (i < 0 ∨ (arrV _ _ _).slots.size ≤ _); rw [arrV_size]; exact Classical.byContradiction hout) (g := F0 m pc ls (.int x :: .int i :: .ref a :: rest)) rfl (rest := rest) rfl (by rw [hb]; exact hdg) t
  simp only [arrV_size] at h1
  exact h1 st
theorem vx_laldZ {D : va_G} {cl : List vw_C} {ws : va_W} {tys : List (ClassId × FieldType)} {a : Nat} (hexec : p.tables.exec = Jvm.exec) (hb : c.code = cc) (hK : va_K D cl tys s) (hP : va_P D cl ws H) (q0 t0 : Nat) {cA : ClassId} {n : Nat} {f : Nat → Int64} (ha : ws[q0]? = some (a, .inl (cA, n, .inr (.inl f)))) (ht : tys[t0]? = some (cA, .long)) {i : Int32} (hout : ¬ vp_in i n) (hdg : decode cc pc = .ok (.laload, 1))
    (k : ∀ tx : String, tx = (toString "Index " ++ toString i ++ toString " out of bounds for length " ++ toString n : String) → vx_Note p l e R s m args below meth c H locs cells slots Q (F0 m pc ls rest) "java/lang/ArrayIndexOutOfBoundsException" tx) : W p l e R s m args below meth c H locs cells slots Q (F0 m pc ls (.int i :: .ref a :: rest)) := by
  intro T hT X
  obtain ⟨t, st, q⟩ := k _ rfl T hT X
  refine ⟨t, ?_, q⟩
  have h1 := X.laloadOut hexec (by rw [hT]; exact hP q0 _ ha) ((hK.2 t0 _ ht).1 n (fun j => .long (f j))) (j := i) (by show (i < 0 ∨ (arrV _ _ _).slots.size ≤ _); rw [arrV_size]; exact Classical.byContradiction hout) (g := F0 m pc ls (.int i :: .ref a :: rest)) rfl (rest := rest) rfl (by rw [hb]; exact hdg) t
  simp only [arrV_size] at h1
  exact h1 st
theorem vx_lastZ {D : va_G} {cl : List vw_C} {ws : va_W} {tys : List (ClassId × FieldType)} {a : Nat} (hexec : p.tables.exec = Jvm.exec) (hb : c.code = cc) (hK : va_K D cl tys s) (hP : va_P D cl ws H) (q0 t0 : Nat) {cA : ClassId} {n : Nat} {f : Nat → Int64} (ha : ws[q0]? = some (a, .inl (cA, n, .inr (.inl f)))) (ht : tys[t0]? = some (cA, .long)) {i : Int32} {x : Int64} (hout : ¬ vp_in i n) (hdg : decode cc pc = .ok (.lastore, 1))
    (k : ∀ tx : String, tx = (toString "Index " ++ toString i ++ toString " out of bounds for length " ++ toString n : String) → vx_Note p l e R s m args below meth c H locs cells slots Q (F0 m pc ls rest) "java/lang/ArrayIndexOutOfBoundsException" tx) : W p l e R s m args below meth c H locs cells slots Q (F0 m pc ls (.long x :: .int i :: .ref a :: rest)) := by
  intro T hT X
  obtain ⟨t, st, q⟩ := k _ rfl T hT X
  refine ⟨t, ?_, q⟩
  have h1 := X.lastoreOut hexec (by rw [hT]; exact hP q0 _ ha) ((hK.2 t0 _ ht).1 n (fun j => .long (f j))) (j := i) (by show (i < 0 ∨ (arrV _ _ _).slots.size ≤ _); rw [arrV_size]; exact Classical.byContradiction hout) (g := F0 m pc ls (.long x :: .int i :: .ref a :: rest)) rfl (rest := rest) rfl (by rw [hb]; exact hdg) t
  simp only [arrV_size] at h1
  exact h1 st
theorem vx_faldZ {D : va_G} {cl : List vw_C} {ws : va_W} {tys : List (ClassId × FieldType)} {a : Nat} (hexec : p.tables.exec = Jvm.exec) (hb : c.code = cc) (hK : va_K D cl tys s) (hP : va_P D cl ws H) (q0 t0 : Nat) {cA : ClassId} {n : Nat} {f : Nat → UInt32} (ha : ws[q0]? = some (a, .inl (cA, n, .inr (.inr (.inl f))))) (ht : tys[t0]? = some (cA, .float)) {i : Int32} (hout : ¬ vp_in i n) (hdg : decode cc pc = .ok (.faload, 1))
    (k : ∀ tx : String, tx = (toString "Index " ++ toString i ++ toString " out of bounds for length " ++ toString n : String) → vx_Note p l e R s m args below meth c H locs cells slots Q (F0 m pc ls rest) "java/lang/ArrayIndexOutOfBoundsException" tx) : W p l e R s m args below meth c H locs cells slots Q (F0 m pc ls (.int i :: .ref a :: rest)) := by
  intro T hT X
  obtain ⟨t, st, q⟩ := k _ rfl T hT X
  refine ⟨t, ?_, q⟩
  have h1 := X.faloadOut hexec (by rw [hT]; exact hP q0 _ ha) ((hK.2 t0 _ ht).1 n (fun j => .float (f j))) (j := i) (by show (i < 0 ∨ (arrV _ _ _).slots.size ≤ _); rw [arrV_size]; exact Classical.byContradiction hout) (g := F0 m pc ls (.int i :: .ref a :: rest)) rfl (rest := rest) rfl (by rw [hb]; exact hdg) t
  simp only [arrV_size] at h1
  exact h1 st
theorem vx_fastZ {D : va_G} {cl : List vw_C} {ws : va_W} {tys : List (ClassId × FieldType)} {a : Nat} (hexec : p.tables.exec = Jvm.exec) (hb : c.code = cc) (hK : va_K D cl tys s) (hP : va_P D cl ws H) (q0 t0 : Nat) {cA : ClassId} {n : Nat} {f : Nat → UInt32} (ha : ws[q0]? = some (a, .inl (cA, n, .inr (.inr (.inl f))))) (ht : tys[t0]? = some (cA, .float)) {i : Int32} {x : UInt32} (hout : ¬ vp_in i n) (hdg : decode cc pc = .ok (.fastore, 1))
    (k : ∀ tx : String, tx = (toString "Index " ++ toString i ++ toString " out of bounds for length " ++ toString n : String) → vx_Note p l e R s m args below meth c H locs cells slots Q (F0 m pc ls rest) "java/lang/ArrayIndexOutOfBoundsException" tx) : W p l e R s m args below meth c H locs cells slots Q (F0 m pc ls (.float x :: .int i :: .ref a :: rest)) := by
  intro T hT X
  obtain ⟨t, st, q⟩ := k _ rfl T hT X
  refine ⟨t, ?_, q⟩
  have h1 := X.fastoreOut hexec (by rw [hT]; exact hP q0 _ ha) ((hK.2 t0 _ ht).1 n (fun j => .float (f j))) (j := i) (by show (i < 0 ∨ (arrV _ _ _).slots.size ≤ _); rw [arrV_size]; exact Classical.byContradiction hout) (g := F0 m pc ls (.float x :: .int i :: .ref a :: rest)) rfl (rest := rest) rfl (by rw [hb]; exact hdg) t
  simp only [arrV_size] at h1
  exact h1 st
theorem vx_daldZ {D : va_G} {cl : List vw_C} {ws : va_W} {tys : List (ClassId × FieldType)} {a : Nat} (hexec : p.tables.exec = Jvm.exec) (hb : c.code = cc) (hK : va_K D cl tys s) (hP : va_P D cl ws H) (q0 t0 : Nat) {cA : ClassId} {n : Nat} {f : Nat → UInt64} (ha : ws[q0]? = some (a, .inl (cA, n, .inr (.inr (.inr (.inl f)))))) (ht : tys[t0]? = some (cA, .double)) {i : Int32} (hout : ¬ vp_in i n) (hdg : decode cc pc = .ok (.daload, 1))
    (k : ∀ tx : String, tx = (toString "Index " ++ toString i ++ toString " out of bounds for length " ++ toString n : String) → vx_Note p l e R s m args below meth c H locs cells slots Q (F0 m pc ls rest) "java/lang/ArrayIndexOutOfBoundsException" tx) : W p l e R s m args below meth c H locs cells slots Q (F0 m pc ls (.int i :: .ref a :: rest)) := by
  intro T hT X
  obtain ⟨t, st, q⟩ := k _ rfl T hT X
  refine ⟨t, ?_, q⟩
  have h1 := X.daloadOut hexec (by rw [hT]; exact hP q0 _ ha) ((hK.2 t0 _ ht).1 n (fun j => .double (f j))) (j := i) (by show (i < 0 ∨ (arrV _ _ _).slots.size ≤ _); rw [arrV_size]; exact Classical.byContradiction hout) (g := F0 m pc ls (.int i :: .ref a :: rest)) rfl (rest := rest) rfl (by rw [hb]; exact hdg) t
  simp only [arrV_size] at h1
  exact h1 st
theorem vx_dastZ {D : va_G} {cl : List vw_C} {ws : va_W} {tys : List (ClassId × FieldType)} {a : Nat} (hexec : p.tables.exec = Jvm.exec) (hb : c.code = cc) (hK : va_K D cl tys s) (hP : va_P D cl ws H) (q0 t0 : Nat) {cA : ClassId} {n : Nat} {f : Nat → UInt64} (ha : ws[q0]? = some (a, .inl (cA, n, .inr (.inr (.inr (.inl f)))))) (ht : tys[t0]? = some (cA, .double)) {i : Int32} {x : UInt64} (hout : ¬ vp_in i n) (hdg : decode cc pc = .ok (.dastore, 1))
    (k : ∀ tx : String, tx = (toString "Index " ++ toString i ++ toString " out of bounds for length " ++ toString n : String) → vx_Note p l e R s m args below meth c H locs cells slots Q (F0 m pc ls rest) "java/lang/ArrayIndexOutOfBoundsException" tx) : W p l e R s m args below meth c H locs cells slots Q (F0 m pc ls (.double x :: .int i :: .ref a :: rest)) := by
  intro T hT X
  obtain ⟨t, st, q⟩ := k _ rfl T hT X
  refine ⟨t, ?_, q⟩
  have h1 := X.dastoreOut hexec (by rw [hT]; exact hP q0 _ ha) ((hK.2 t0 _ ht).1 n (fun j => .double (f j))) (j := i) (by show (i < 0 ∨ (arrV _ _ _).slots.size ≤ _); rw [arrV_size]; exact Classical.byContradiction hout) (g := F0 m pc ls (.double x :: .int i :: .ref a :: rest)) rfl (rest := rest) rfl (by rw [hb]; exact hdg) t
  simp only [arrV_size] at h1
  exact h1 st
theorem vx_arraylengthN (hexec : p.tables.exec = Jvm.exec) (hb : c.code = cc) (hdg : decode cc pc = .ok (.arraylength, 1)) (k : vx_NoteN p l e R s m args below meth c H locs cells slots Q (F0 m pc ls rest)) : W p l e R s m args below meth c H locs cells slots Q (F0 m pc ls (.null :: rest)) := by
  intro T hT X
  obtain ⟨t, st, q⟩ := k T hT X
  exact ⟨t, X.arraylengthNull hexec (g := F0 m pc ls (.null :: rest)) rfl (rest := rest) rfl (by rw [hb]; exact hdg) t st, q⟩
theorem vx_ialoadN (hexec : p.tables.exec = Jvm.exec) (hb : c.code = cc) {i : Int32} (hdg : decode cc pc = .ok (.iaload, 1)) (k : vx_NoteN p l e R s m args below meth c H locs cells slots Q (F0 m pc ls rest)) : W p l e R s m args below meth c H locs cells slots Q (F0 m pc ls (.int i :: .null :: rest)) := by
  intro T hT X
  obtain ⟨t, st, q⟩ := k T hT X
  exact ⟨t, X.ialoadNull hexec (g := F0 m pc ls (.int i :: .null :: rest)) rfl (rest := rest) rfl (by rw [hb]; exact hdg) t st, q⟩
theorem vx_laloadN (hexec : p.tables.exec = Jvm.exec) (hb : c.code = cc) {i : Int32} (hdg : decode cc pc = .ok (.laload, 1)) (k : vx_NoteN p l e R s m args below meth c H locs cells slots Q (F0 m pc ls rest)) : W p l e R s m args below meth c H locs cells slots Q (F0 m pc ls (.int i :: .null :: rest)) := by
  intro T hT X
  obtain ⟨t, st, q⟩ := k T hT X
  exact ⟨t, X.laloadNull hexec (g := F0 m pc ls (.int i :: .null :: rest)) rfl (rest := rest) rfl (by rw [hb]; exact hdg) t st, q⟩
theorem vx_faloadN (hexec : p.tables.exec = Jvm.exec) (hb : c.code = cc) {i : Int32} (hdg : decode cc pc = .ok (.faload, 1)) (k : vx_NoteN p l e R s m args below meth c H locs cells slots Q (F0 m pc ls rest)) : W p l e R s m args below meth c H locs cells slots Q (F0 m pc ls (.int i :: .null :: rest)) := by
  intro T hT X
  obtain ⟨t, st, q⟩ := k T hT X
  exact ⟨t, X.faloadNull hexec (g := F0 m pc ls (.int i :: .null :: rest)) rfl (rest := rest) rfl (by rw [hb]; exact hdg) t st, q⟩
theorem vx_daloadN (hexec : p.tables.exec = Jvm.exec) (hb : c.code = cc) {i : Int32} (hdg : decode cc pc = .ok (.daload, 1)) (k : vx_NoteN p l e R s m args below meth c H locs cells slots Q (F0 m pc ls rest)) : W p l e R s m args below meth c H locs cells slots Q (F0 m pc ls (.int i :: .null :: rest)) := by
  intro T hT X
  obtain ⟨t, st, q⟩ := k T hT X
  exact ⟨t, X.daloadNull hexec (g := F0 m pc ls (.int i :: .null :: rest)) rfl (rest := rest) rfl (by rw [hb]; exact hdg) t st, q⟩
theorem vx_aaloadN (hexec : p.tables.exec = Jvm.exec) (hb : c.code = cc) {i : Int32} (hdg : decode cc pc = .ok (.aaload, 1)) (k : vx_NoteN p l e R s m args below meth c H locs cells slots Q (F0 m pc ls rest)) : W p l e R s m args below meth c H locs cells slots Q (F0 m pc ls (.int i :: .null :: rest)) := by
  intro T hT X
  obtain ⟨t, st, q⟩ := k T hT X
  exact ⟨t, X.aaloadNull hexec (g := F0 m pc ls (.int i :: .null :: rest)) rfl (rest := rest) rfl (by rw [hb]; exact hdg) t st, q⟩
theorem vx_baloadN (hexec : p.tables.exec = Jvm.exec) (hb : c.code = cc) {i : Int32} (hdg : decode cc pc = .ok (.baload, 1)) (k : vx_NoteN p l e R s m args below meth c H locs cells slots Q (F0 m pc ls rest)) : W p l e R s m args below meth c H locs cells slots Q (F0 m pc ls (.int i :: .null :: rest)) := by
  intro T hT X
  obtain ⟨t, st, q⟩ := k T hT X
  exact ⟨t, X.baloadNull hexec (g := F0 m pc ls (.int i :: .null :: rest)) rfl (rest := rest) rfl (by rw [hb]; exact hdg) t st, q⟩
theorem vx_caloadN (hexec : p.tables.exec = Jvm.exec) (hb : c.code = cc) {i : Int32} (hdg : decode cc pc = .ok (.caload, 1)) (k : vx_NoteN p l e R s m args below meth c H locs cells slots Q (F0 m pc ls rest)) : W p l e R s m args below meth c H locs cells slots Q (F0 m pc ls (.int i :: .null :: rest)) := by
  intro T hT X
  obtain ⟨t, st, q⟩ := k T hT X
  exact ⟨t, X.caloadNull hexec (g := F0 m pc ls (.int i :: .null :: rest)) rfl (rest := rest) rfl (by rw [hb]; exact hdg) t st, q⟩
theorem vx_saloadN (hexec : p.tables.exec = Jvm.exec) (hb : c.code = cc) {i : Int32} (hdg : decode cc pc = .ok (.saload, 1)) (k : vx_NoteN p l e R s m args below meth c H locs cells slots Q (F0 m pc ls rest)) : W p l e R s m args below meth c H locs cells slots Q (F0 m pc ls (.int i :: .null :: rest)) := by
  intro T hT X
  obtain ⟨t, st, q⟩ := k T hT X
  exact ⟨t, X.saloadNull hexec (g := F0 m pc ls (.int i :: .null :: rest)) rfl (rest := rest) rfl (by rw [hb]; exact hdg) t st, q⟩
theorem vx_iastoreN (hexec : p.tables.exec = Jvm.exec) (hb : c.code = cc) {x : Int32} {i : Int32} (hdg : decode cc pc = .ok (.iastore, 1)) (k : vx_NoteN p l e R s m args below meth c H locs cells slots Q (F0 m pc ls rest)) : W p l e R s m args below meth c H locs cells slots Q (F0 m pc ls (.int x :: .int i :: .null :: rest)) := by
  intro T hT X
  obtain ⟨t, st, q⟩ := k T hT X
  exact ⟨t, X.iastoreNull hexec (g := F0 m pc ls (.int x :: .int i :: .null :: rest)) rfl (rest := rest) rfl (by rw [hb]; exact hdg) t st, q⟩
theorem vx_lastoreN (hexec : p.tables.exec = Jvm.exec) (hb : c.code = cc) {x : Int64} {i : Int32} (hdg : decode cc pc = .ok (.lastore, 1)) (k : vx_NoteN p l e R s m args below meth c H locs cells slots Q (F0 m pc ls rest)) : W p l e R s m args below meth c H locs cells slots Q (F0 m pc ls (.long x :: .int i :: .null :: rest)) := by
  intro T hT X
  obtain ⟨t, st, q⟩ := k T hT X
  exact ⟨t, X.lastoreNull hexec (g := F0 m pc ls (.long x :: .int i :: .null :: rest)) rfl (rest := rest) rfl (by rw [hb]; exact hdg) t st, q⟩
theorem vx_fastoreN (hexec : p.tables.exec = Jvm.exec) (hb : c.code = cc) {x : UInt32} {i : Int32} (hdg : decode cc pc = .ok (.fastore, 1)) (k : vx_NoteN p l e R s m args below meth c H locs cells slots Q (F0 m pc ls rest)) : W p l e R s m args below meth c H locs cells slots Q (F0 m pc ls (.float x :: .int i :: .null :: rest)) := by
  intro T hT X
  obtain ⟨t, st, q⟩ := k T hT X
  exact ⟨t, X.fastoreNull hexec (g := F0 m pc ls (.float x :: .int i :: .null :: rest)) rfl (rest := rest) rfl (by rw [hb]; exact hdg) t st, q⟩
theorem vx_dastoreN (hexec : p.tables.exec = Jvm.exec) (hb : c.code = cc) {x : UInt64} {i : Int32} (hdg : decode cc pc = .ok (.dastore, 1)) (k : vx_NoteN p l e R s m args below meth c H locs cells slots Q (F0 m pc ls rest)) : W p l e R s m args below meth c H locs cells slots Q (F0 m pc ls (.double x :: .int i :: .null :: rest)) := by
  intro T hT X
  obtain ⟨t, st, q⟩ := k T hT X
  exact ⟨t, X.dastoreNull hexec (g := F0 m pc ls (.double x :: .int i :: .null :: rest)) rfl (rest := rest) rfl (by rw [hb]; exact hdg) t st, q⟩
theorem vx_bastoreN (hexec : p.tables.exec = Jvm.exec) (hb : c.code = cc) {x : Int32} {i : Int32} (hdg : decode cc pc = .ok (.bastore, 1)) (k : vx_NoteN p l e R s m args below meth c H locs cells slots Q (F0 m pc ls rest)) : W p l e R s m args below meth c H locs cells slots Q (F0 m pc ls (.int x :: .int i :: .null :: rest)) := by
  intro T hT X
  obtain ⟨t, st, q⟩ := k T hT X
  exact ⟨t, X.bastoreNull hexec (g := F0 m pc ls (.int x :: .int i :: .null :: rest)) rfl (rest := rest) rfl (by rw [hb]; exact hdg) t st, q⟩
theorem vx_castoreN (hexec : p.tables.exec = Jvm.exec) (hb : c.code = cc) {x : Int32} {i : Int32} (hdg : decode cc pc = .ok (.castore, 1)) (k : vx_NoteN p l e R s m args below meth c H locs cells slots Q (F0 m pc ls rest)) : W p l e R s m args below meth c H locs cells slots Q (F0 m pc ls (.int x :: .int i :: .null :: rest)) := by
  intro T hT X
  obtain ⟨t, st, q⟩ := k T hT X
  exact ⟨t, X.castoreNull hexec (g := F0 m pc ls (.int x :: .int i :: .null :: rest)) rfl (rest := rest) rfl (by rw [hb]; exact hdg) t st, q⟩
theorem vx_sastoreN (hexec : p.tables.exec = Jvm.exec) (hb : c.code = cc) {x : Int32} {i : Int32} (hdg : decode cc pc = .ok (.sastore, 1)) (k : vx_NoteN p l e R s m args below meth c H locs cells slots Q (F0 m pc ls rest)) : W p l e R s m args below meth c H locs cells slots Q (F0 m pc ls (.int x :: .int i :: .null :: rest)) := by
  intro T hT X
  obtain ⟨t, st, q⟩ := k T hT X
  exact ⟨t, X.sastoreNull hexec (g := F0 m pc ls (.int x :: .int i :: .null :: rest)) rfl (rest := rest) rfl (by rw [hb]; exact hdg) t st, q⟩
theorem vx_invokeN {own C : String} {index maxL : Nat} {y : MethodName} {bytes : ByteArray} {ret : Option FieldType} (hexec : p.tables.exec = Jvm.exec) (hb : c.code = cc) (hown : s.vm.findClass own = some m.cls) (hlink : (Cond.methodLink own index y).before args s = true) (hinst : (Cond.instanceMethod y).before args s = true) (hcode : (Cond.code y bytes maxL ret).before args s = true) (hsel : (Cond.selects C y y).before args s = true)
    (hx : y.cls ≠ "java/lang/invoke/MethodHandle" ∧ y.cls ≠ "java/lang/invoke/VarHandle") {As : List Value} (hlen : (parseMethodDescriptor y.desc).map (fun d => d.parameters.length) = some As.length) (hdg : decode cc pc = .ok (.invokevirtual index, 3))
    (k : vx_NoteN p l e R s m args below meth c H locs cells slots Q (F0 m pc ls rest)) {st0 : List Value} (hst : st0 = As.reverse ++ .null :: rest) : W p l e R s m args below meth c H locs cells slots Q (F0 m pc ls st0) := by
  intro T hT X
  obtain ⟨r0, r, hn, hrm, hstR, hsigR⟩ := va_Decl.of hinst hcode
  obtain ⟨c2, r2, m2, q1, q2, q3, q4, kP, hkP, hkPi⟩ := Cond.selects_spec hsel
  cases hn.symm.trans q3
  have hl9 : As.length = r.sig.parameters.length := by
    rw [hsigR] at hlen
    exact (Option.some.inj hlen).symm
  obtain ⟨vm', X1, st1⟩ := X.invokevirtualNull hexec hown hlink hn hrm hstR hkP hkPi hx (g := F0 m pc ls st0) rfl (argsL := As) (rest := rest) hl9 hst (by rw [hb]; exact hdg)
  obtain ⟨t, st, q⟩ := k (T.setVm vm') hT X1
  exact ⟨t, st1 t st, q⟩
theorem vx_newarrayZ {atype : ArrayType} (hexec : p.tables.exec = Jvm.exec) (hb : c.code = cc) {n : Int32} (h0 : n < 0) (hdg : decode cc pc = .ok (.newarray atype, 2)) (k : ∀ tx : String, tx = toString n → vx_Note p l e R s m args below meth c H locs cells slots Q (F0 m pc ls rest) "java/lang/NegativeArraySizeException" tx) : W p l e R s m args below meth c H locs cells slots Q (F0 m pc ls (.int n :: rest)) := by
  intro T hT X
  obtain ⟨t, st, q⟩ := k _ rfl T hT X
  exact ⟨t, X.newarrayNegative hexec (g := F0 m pc ls (.int n :: rest)) rfl h0 (rest := rest) rfl (by rw [hb]; exact hdg) t st, q⟩
end
end VXM
/-! ===== END ===== -/
end
section
def RX0 : String := "SkeinMarket$Bid"
def TX0 : u_T := fun k => match k with
  | 0 => ("SkeinMarket$Bid", "bidder", "I", true)
  | 1 => ("SkeinMarket$Bid", "wishes", "Ljava/util/ArrayList;", true)
  | 2 => ("SkeinMarket$Bid", "price", "I", false)
  | 3 => ("SkeinMarket$Bid", "state", "C", false)
  | 4 => ("SkeinMarket$Bid", "lossReason", "C", false)
  | 5 => ("SkeinMarket$Bid", "winner", "I", false)
  | _ => ("SkeinMarket$Bid", "dues", "I", false)
def tyX0 : Nat → FieldType := fun k => match k with
  | 0 => .int
  | 1 => .object "java/util/ArrayList"
  | 2 => .int
  | 3 => .char
  | 4 => .char
  | 5 => .int
  | _ => .int
abbrev wsX00 : List Cond := u_ws RX0 TX0 7
theorem nmX0 : ∀ a, a < 7 → ∀ b, b < 7 → a ≠ b → (TX0 a).2.1 ≠ (TX0 b).2.1 := by decide +kernel
theorem tyX0_ok : ∀ k, k < 7 → parseFieldDescriptor (TX0 k).2.2.1 = some (tyX0 k) := by decide +kernel
abbrev cX0_init : ByteArray := prog_2_method_1_code
def yX0_init : MethodName := ⟨RX0, "<init>", "(II)V"⟩
def RX1 : String := "SkeinMarket$Floor"
def TX1 : u_T := fun k => match k with
  | 0 => ("SkeinMarket$Floor", "lotNumbers", "[I", true)
  | 1 => ("SkeinMarket$Floor", "reserves", "[I", true)
  | 2 => ("SkeinMarket$Floor", "reserveSums", "[I", true)
  | 3 => ("SkeinMarket$Floor", "bidNumbers", "[I", true)
  | 4 => ("SkeinMarket$Floor", "bidders", "[I", true)
  | 5 => ("SkeinMarket$Floor", "prices", "[I", true)
  | 6 => ("SkeinMarket$Floor", "itemCounts", "[I", true)
  | 7 => ("SkeinMarket$Floor", "fittingLots", "[I", true)
  | 8 => ("SkeinMarket$Floor", "queue", "[I", true)
  | 9 => ("SkeinMarket$Floor", "restCosts", "[I", true)
  | 10 => ("SkeinMarket$Floor", "givenPlaces", "[I", true)
  | 11 => ("SkeinMarket$Floor", "lotCount", "I", false)
  | 12 => ("SkeinMarket$Floor", "bidCount", "I", false)
  | _ => ("SkeinMarket$Floor", "queueLength", "I", false)
def tyX1 : Nat → FieldType := fun k => match k with
  | 0 => .array .int
  | 1 => .array .int
  | 2 => .array .int
  | 3 => .array .int
  | 4 => .array .int
  | 5 => .array .int
  | 6 => .array .int
  | 7 => .array .int
  | 8 => .array .int
  | 9 => .array .int
  | 10 => .array .int
  | 11 => .int
  | 12 => .int
  | _ => .int
abbrev wsX10 : List Cond := u_ws RX1 TX1 14
theorem nmX1 : ∀ a, a < 14 → ∀ b, b < 14 → a ≠ b → (TX1 a).2.1 ≠ (TX1 b).2.1 := by decide +kernel
theorem tyX1_ok : ∀ k, k < 14 → parseFieldDescriptor (TX1 k).2.2.1 = some (tyX1 k) := by decide +kernel
abbrev cX1_init : ByteArray := prog_3_method_1_code
def yX1_init : MethodName := ⟨RX1, "<init>", "()V"⟩
abbrev cX1_clearAll : ByteArray := prog_3_method_2_code
def yX1_clearAll : MethodName := ⟨RX1, "clearAll", "()V"⟩
abbrev cX1_addLot : ByteArray := prog_3_method_3_code
def yX1_addLot : MethodName := ⟨RX1, "addLot", "(II)V"⟩
abbrev cX1_addBid : ByteArray := prog_3_method_4_code
def yX1_addBid : MethodName := ⟨RX1, "addBid", "(III)V"⟩
abbrev cX1_addItem : ByteArray := prog_3_method_5_code
def yX1_addItem : MethodName := ⟨RX1, "addItem", "(I)V"⟩
abbrev cX1_placeOf : ByteArray := prog_3_method_6_code
def yX1_placeOf : MethodName := ⟨RX1, "placeOf", "(I)I"⟩
abbrev cX1_setOf : ByteArray := prog_3_method_7_code
def yX1_setOf : MethodName := ⟨RX1, "setOf", "(I)I"⟩
abbrev cX1_bidOfBidderIn : ByteArray := prog_3_method_8_code
def yX1_bidOfBidderIn : MethodName := ⟨RX1, "bidOfBidderIn", "(II)I"⟩
abbrev cX1_hasOneBidPerBidder : ByteArray := prog_3_method_9_code
def yX1_hasOneBidPerBidder : MethodName := ⟨RX1, "hasOneBidPerBidder", "(I)Z"⟩
abbrev cX1_priceSum : ByteArray := prog_3_method_10_code
def yX1_priceSum : MethodName := ⟨RX1, "priceSum", "(I)I"⟩
abbrev cX1_leastCost : ByteArray := prog_3_method_11_code
def yX1_leastCost : MethodName := ⟨RX1, "leastCost", "(I)I"⟩
abbrev cX1_queueItems : ByteArray := prog_3_method_12_code
def yX1_queueItems : MethodName := ⟨RX1, "queueItems", "(I)Z"⟩
abbrev cX1_restCost : ByteArray := prog_3_method_13_code
def yX1_restCost : MethodName := ⟨RX1, "restCost", "(I)I"⟩
abbrev cX1_giveLots : ByteArray := prog_3_method_14_code
def yX1_giveLots : MethodName := ⟨RX1, "giveLots", "(I)V"⟩
abbrev cX1_firstCheapest : ByteArray := prog_3_method_15_code
def yX1_firstCheapest : MethodName := ⟨RX1, "firstCheapest", "(II)I"⟩
abbrev cX1_lotGiven : ByteArray := prog_3_method_16_code
def yX1_lotGiven : MethodName := ⟨RX1, "lotGiven", "(III)I"⟩
def RX2 : String := "SkeinMarket$Item"
def TX2 : u_T := fun k => match k with
  | 0 => ("SkeinMarket$Item", "fibre", "I", true)
  | 1 => ("SkeinMarket$Item", "grade", "C", true)
  | _ => ("SkeinMarket$Item", "lot", "I", false)
def tyX2 : Nat → FieldType := fun k => match k with
  | 0 => .int
  | 1 => .char
  | _ => .int
abbrev wsX20 : List Cond := u_ws RX2 TX2 3
theorem nmX2 : ∀ a, a < 3 → ∀ b, b < 3 → a ≠ b → (TX2 a).2.1 ≠ (TX2 b).2.1 := by decide +kernel
theorem tyX2_ok : ∀ k, k < 3 → parseFieldDescriptor (TX2 k).2.2.1 = some (tyX2 k) := by decide +kernel
abbrev cX2_init : ByteArray := prog_4_method_1_code
def yX2_init : MethodName := ⟨RX2, "<init>", "(IC)V"⟩
def RX3 : String := "SkeinMarket$Lot"
def TX3 : u_T := fun k => match k with
  | 0 => ("SkeinMarket$Lot", "fibre", "I", true)
  | 1 => ("SkeinMarket$Lot", "grade", "C", true)
  | 2 => ("SkeinMarket$Lot", "reserve", "I", true)
  | 3 => ("SkeinMarket$Lot", "state", "C", false)
  | _ => ("SkeinMarket$Lot", "buyer", "I", false)
def tyX3 : Nat → FieldType := fun k => match k with
  | 0 => .int
  | 1 => .char
  | 2 => .int
  | 3 => .char
  | _ => .int
abbrev wsX30 : List Cond := u_ws RX3 TX3 5
theorem nmX3 : ∀ a, a < 5 → ∀ b, b < 5 → a ≠ b → (TX3 a).2.1 ≠ (TX3 b).2.1 := by decide +kernel
theorem tyX3_ok : ∀ k, k < 5 → parseFieldDescriptor (TX3 k).2.2.1 = some (tyX3 k) := by decide +kernel
abbrev cX3_init : ByteArray := prog_5_method_1_code
def yX3_init : MethodName := ⟨RX3, "<init>", "(ICI)V"⟩
def RX4 : String := "SkeinMarket$Rule"
def TX4 : u_T := fun k => match k with
  | 0 => ("SkeinMarket$Rule", "fibre", "I", true)
  | 1 => ("SkeinMarket$Rule", "other", "I", true)
  | _ => ("SkeinMarket$Rule", "steps", "I", true)
def tyX4 : Nat → FieldType := fun k => match k with
  | 0 => .int
  | 1 => .int
  | _ => .int
abbrev wsX40 : List Cond := u_ws RX4 TX4 3
theorem nmX4 : ∀ a, a < 3 → ∀ b, b < 3 → a ≠ b → (TX4 a).2.1 ≠ (TX4 b).2.1 := by decide +kernel
theorem tyX4_ok : ∀ k, k < 3 → parseFieldDescriptor (TX4 k).2.2.1 = some (tyX4 k) := by decide +kernel
abbrev cX4_init : ByteArray := prog_6_method_1_code
def yX4_init : MethodName := ⟨RX4, "<init>", "(III)V"⟩
def RX5 : String := "SkeinMarket$Search"
def TX5 : u_T := fun k => match k with
  | 0 => ("SkeinMarket$Search", "canFill", "[Z", true)
  | 1 => ("SkeinMarket$Search", "worthTrying", "[Z", true)
  | 2 => ("SkeinMarket$Search", "hopes", "[I", true)
  | 3 => ("SkeinMarket$Search", "bestSet", "I", false)
  | _ => ("SkeinMarket$Search", "bestSurplus", "I", false)
def tyX5 : Nat → FieldType := fun k => match k with
  | 0 => .array .boolean
  | 1 => .array .boolean
  | 2 => .array .int
  | 3 => .int
  | _ => .int
abbrev wsX50 : List Cond := u_ws RX5 TX5 5
theorem nmX5 : ∀ a, a < 5 → ∀ b, b < 5 → a ≠ b → (TX5 a).2.1 ≠ (TX5 b).2.1 := by decide +kernel
theorem tyX5_ok : ∀ k, k < 5 → parseFieldDescriptor (TX5 k).2.2.1 = some (tyX5 k) := by decide +kernel
abbrev cX5_init : ByteArray := prog_7_method_1_code
def yX5_init : MethodName := ⟨RX5, "<init>", "()V"⟩
abbrev cX5_forgetBest : ByteArray := prog_7_method_2_code
def yX5_forgetBest : MethodName := ⟨RX5, "forgetBest", "()V"⟩
abbrev cX5_goThroughSets : ByteArray := prog_7_method_3_code
def yX5_goThroughSets : MethodName := ⟨RX5, "goThroughSets", "(LSkeinMarket$Floor;)V"⟩
abbrev cX5_compareWithBest : ByteArray := prog_7_method_4_code
def yX5_compareWithBest : MethodName := ⟨RX5, "compareWithBest", "(II)V"⟩
abbrev cX5_hasLowestOfDifferent : ByteArray := prog_7_method_5_code
def yX5_hasLowestOfDifferent : MethodName := ⟨RX5, "hasLowestOfDifferent", "(II)Z"⟩
abbrev cX5_findBest : ByteArray := prog_7_method_6_code
def yX5_findBest : MethodName := ⟨RX5, "findBest", "(LSkeinMarket$Floor;I)V"⟩
abbrev cX5_estimate : ByteArray := prog_7_method_7_code
def yX5_estimate : MethodName := ⟨RX5, "estimate", "(LSkeinMarket$Floor;I)V"⟩
abbrev cX5_branch : ByteArray := prog_7_method_8_code
def yX5_branch : MethodName := ⟨RX5, "branch", "(LSkeinMarket$Search;LSkeinMarket$Floor;IIIII)V"⟩
abbrev cX5_costWith : ByteArray := prog_7_method_9_code
def yX5_costWith : MethodName := ⟨RX5, "costWith", "(LSkeinMarket$Floor;II)I"⟩
abbrev cX5_fillWithItem : ByteArray := prog_7_method_10_code
def yX5_fillWithItem : MethodName := ⟨RX5, "fillWithItem", "(LSkeinMarket$Floor;II)V"⟩
abbrev cX5_canFillWithLast : ByteArray := prog_7_method_11_code
def yX5_canFillWithLast : MethodName := ⟨RX5, "canFillWithLast", "(LSkeinMarket$Floor;II)Z"⟩
abbrev cX5_leastFilled : ByteArray := prog_7_method_12_code
def yX5_leastFilled : MethodName := ⟨RX5, "leastFilled", "(LSkeinMarket$Floor;I)I"⟩
def RX6 : String := "SkeinMarket"
def TX6 : u_T := fun k => match k with
  | 0 => ("SkeinMarket", "allLots", "Ljava/util/ArrayList;", true)
  | 1 => ("SkeinMarket", "allBids", "Ljava/util/ArrayList;", true)
  | 2 => ("SkeinMarket", "rules", "Ljava/util/ArrayList;", true)
  | 3 => ("SkeinMarket", "floor", "LSkeinMarket$Floor;", true)
  | 4 => ("SkeinMarket", "search", "LSkeinMarket$Search;", true)
  | 5 => ("SkeinMarket", "openLotCount", "I", false)
  | 6 => ("SkeinMarket", "openBidCount", "I", false)
  | 7 => ("SkeinMarket", "soldCount", "I", false)
  | 8 => ("SkeinMarket", "wonCount", "I", false)
  | _ => ("SkeinMarket", "paidSum", "J", false)
def tyX6 : Nat → FieldType := fun k => match k with
  | 0 => .object "java/util/ArrayList"
  | 1 => .object "java/util/ArrayList"
  | 2 => .object "java/util/ArrayList"
  | 3 => .object "SkeinMarket$Floor"
  | 4 => .object "SkeinMarket$Search"
  | 5 => .int
  | 6 => .int
  | 7 => .int
  | 8 => .int
  | _ => .long
abbrev wsX60 : List Cond := u_ws RX6 TX6 10
theorem nmX6 : ∀ a, a < 10 → ∀ b, b < 10 → a ≠ b → (TX6 a).2.1 ≠ (TX6 b).2.1 := by decide +kernel
theorem tyX6_ok : ∀ k, k < 10 → parseFieldDescriptor (TX6 k).2.2.1 = some (tyX6 k) := by decide +kernel
abbrev cX6_init : ByteArray := prog_1_method_1_code
def yX6_init : MethodName := ⟨RX6, "<init>", "()V"⟩
abbrev cX6_offer : ByteArray := prog_1_method_2_code
def yX6_offer : MethodName := ⟨RX6, "offer", "(ICI)I"⟩
abbrev cX6_withdraw : ByteArray := prog_1_method_3_code
def yX6_withdraw : MethodName := ⟨RX6, "withdraw", "(I)I"⟩
abbrev cX6_allow : ByteArray := prog_1_method_4_code
def yX6_allow : MethodName := ⟨RX6, "allow", "(III)I"⟩
abbrev cX6_forbid : ByteArray := prog_1_method_5_code
def yX6_forbid : MethodName := ⟨RX6, "forbid", "()I"⟩
abbrev cX6_bid : ByteArray := prog_1_method_6_code
def yX6_bid : MethodName := ⟨RX6, "bid", "(II)I"⟩
abbrev cX6_ask : ByteArray := prog_1_method_7_code
def yX6_ask : MethodName := ⟨RX6, "ask", "(IIC)I"⟩
abbrev cX6_raise : ByteArray := prog_1_method_8_code
def yX6_raise : MethodName := ⟨RX6, "raise", "(II)I"⟩
abbrev cX6_cancel : ByteArray := prog_1_method_9_code
def yX6_cancel : MethodName := ⟨RX6, "cancel", "(I)I"⟩
abbrev cX6_close : ByteArray := prog_1_method_10_code
def yX6_close : MethodName := ⟨RX6, "close", "()I"⟩
abbrev cX6_lots : ByteArray := prog_1_method_11_code
def yX6_lots : MethodName := ⟨RX6, "lots", "()I"⟩
abbrev cX6_bids : ByteArray := prog_1_method_12_code
def yX6_bids : MethodName := ⟨RX6, "bids", "()I"⟩
abbrev cX6_openLots : ByteArray := prog_1_method_13_code
def yX6_openLots : MethodName := ⟨RX6, "openLots", "()I"⟩
abbrev cX6_openBids : ByteArray := prog_1_method_14_code
def yX6_openBids : MethodName := ⟨RX6, "openBids", "()I"⟩
abbrev cX6_fibreOf : ByteArray := prog_1_method_15_code
def yX6_fibreOf : MethodName := ⟨RX6, "fibreOf", "(I)I"⟩
abbrev cX6_gradeOf : ByteArray := prog_1_method_16_code
def yX6_gradeOf : MethodName := ⟨RX6, "gradeOf", "(I)C"⟩
abbrev cX6_reserveOf : ByteArray := prog_1_method_17_code
def yX6_reserveOf : MethodName := ⟨RX6, "reserveOf", "(I)I"⟩
abbrev cX6_lotState : ByteArray := prog_1_method_18_code
def yX6_lotState : MethodName := ⟨RX6, "lotState", "(I)C"⟩
abbrev cX6_soldTo : ByteArray := prog_1_method_19_code
def yX6_soldTo : MethodName := ⟨RX6, "soldTo", "(I)I"⟩
abbrev cX6_countOf : ByteArray := prog_1_method_20_code
def yX6_countOf : MethodName := ⟨RX6, "countOf", "(IC)I"⟩
abbrev cX6_items : ByteArray := prog_1_method_21_code
def yX6_items : MethodName := ⟨RX6, "items", "(I)I"⟩
abbrev cX6_fits : ByteArray := prog_1_method_22_code
def yX6_fits : MethodName := ⟨RX6, "fits", "(III)Z"⟩
abbrev cX6_fitting : ByteArray := prog_1_method_23_code
def yX6_fitting : MethodName := ⟨RX6, "fitting", "(II)I"⟩
abbrev cX6_priceOf : ByteArray := prog_1_method_24_code
def yX6_priceOf : MethodName := ⟨RX6, "priceOf", "(I)I"⟩
abbrev cX6_stateOf : ByteArray := prog_1_method_25_code
def yX6_stateOf : MethodName := ⟨RX6, "stateOf", "(I)C"⟩
abbrev cX6_reason : ByteArray := prog_1_method_26_code
def yX6_reason : MethodName := ⟨RX6, "reason", "(I)C"⟩
abbrev cX6_rival : ByteArray := prog_1_method_27_code
def yX6_rival : MethodName := ⟨RX6, "rival", "(I)I"⟩
abbrev cX6_lotOf : ByteArray := prog_1_method_28_code
def yX6_lotOf : MethodName := ⟨RX6, "lotOf", "(II)I"⟩
abbrev cX6_paid : ByteArray := prog_1_method_29_code
def yX6_paid : MethodName := ⟨RX6, "paid", "(I)I"⟩
abbrev cX6_costOf : ByteArray := prog_1_method_30_code
def yX6_costOf : MethodName := ⟨RX6, "costOf", "(I)I"⟩
abbrev cX6_surplus : ByteArray := prog_1_method_31_code
def yX6_surplus : MethodName := ⟨RX6, "surplus", "()I"⟩
abbrev cX6_surplusBySets : ByteArray := prog_1_method_32_code
def yX6_surplusBySets : MethodName := ⟨RX6, "surplusBySets", "()I"⟩
abbrev cX6_surplusWithout : ByteArray := prog_1_method_33_code
def yX6_surplusWithout : MethodName := ⟨RX6, "surplusWithout", "(I)I"⟩
abbrev cX6_wouldWin : ByteArray := prog_1_method_34_code
def yX6_wouldWin : MethodName := ⟨RX6, "wouldWin", "(I)Z"⟩
abbrev cX6_wouldWinBySets : ByteArray := prog_1_method_35_code
def yX6_wouldWinBySets : MethodName := ⟨RX6, "wouldWinBySets", "(I)Z"⟩
abbrev cX6_lotFor : ByteArray := prog_1_method_36_code
def yX6_lotFor : MethodName := ⟨RX6, "lotFor", "(II)I"⟩
abbrev cX6_payment : ByteArray := prog_1_method_37_code
def yX6_payment : MethodName := ⟨RX6, "payment", "(I)I"⟩
abbrev cX6_takings : ByteArray := prog_1_method_38_code
def yX6_takings : MethodName := ⟨RX6, "takings", "()J"⟩
abbrev cX6_soldShare : ByteArray := prog_1_method_39_code
def yX6_soldShare : MethodName := ⟨RX6, "soldShare", "()F"⟩
abbrev cX6_meanPaid : ByteArray := prog_1_method_40_code
def yX6_meanPaid : MethodName := ⟨RX6, "meanPaid", "()D"⟩
abbrev cX6_isFibre : ByteArray := prog_1_method_41_code
def yX6_isFibre : MethodName := ⟨RX6, "isFibre", "(I)Z"⟩
abbrev cX6_isGrade : ByteArray := prog_1_method_42_code
def yX6_isGrade : MethodName := ⟨RX6, "isGrade", "(C)Z"⟩
abbrev cX6_isBidder : ByteArray := prog_1_method_43_code
def yX6_isBidder : MethodName := ⟨RX6, "isBidder", "(I)Z"⟩
abbrev cX6_isLot : ByteArray := prog_1_method_44_code
def yX6_isLot : MethodName := ⟨RX6, "isLot", "(I)Z"⟩
abbrev cX6_isBid : ByteArray := prog_1_method_45_code
def yX6_isBid : MethodName := ⟨RX6, "isBid", "(I)Z"⟩
abbrev cX6_knownLot : ByteArray := prog_1_method_46_code
def yX6_knownLot : MethodName := ⟨RX6, "knownLot", "(I)LSkeinMarket$Lot;"⟩
abbrev cX6_knownBid : ByteArray := prog_1_method_47_code
def yX6_knownBid : MethodName := ⟨RX6, "knownBid", "(I)LSkeinMarket$Bid;"⟩
abbrev cX6_knownOpenBid : ByteArray := prog_1_method_48_code
def yX6_knownOpenBid : MethodName := ⟨RX6, "knownOpenBid", "(I)LSkeinMarket$Bid;"⟩
abbrev cX6_knownItem : ByteArray := prog_1_method_49_code
def yX6_knownItem : MethodName := ⟨RX6, "knownItem", "(LSkeinMarket$Bid;I)LSkeinMarket$Item;"⟩
abbrev cX6_isFit : ByteArray := prog_1_method_50_code
def yX6_isFit : MethodName := ⟨RX6, "isFit", "(LSkeinMarket$Lot;LSkeinMarket$Item;)Z"⟩
abbrev cX6_fillFloor : ByteArray := prog_1_method_51_code
def yX6_fillFloor : MethodName := ⟨RX6, "fillFloor", "()V"⟩
abbrev cX6_addItemsToFloor : ByteArray := prog_1_method_52_code
def yX6_addItemsToFloor : MethodName := ⟨RX6, "addItemsToFloor", "(LSkeinMarket$Bid;)V"⟩
abbrev cX6_fittingOnFloor : ByteArray := prog_1_method_53_code
def yX6_fittingOnFloor : MethodName := ⟨RX6, "fittingOnFloor", "(LSkeinMarket$Item;)I"⟩
abbrev cX6_isInBestSet : ByteArray := prog_1_method_54_code
def yX6_isInBestSet : MethodName := ⟨RX6, "isInBestSet", "(I)Z"⟩
abbrev cX6_settlePayments : ByteArray := prog_1_method_55_code
def yX6_settlePayments : MethodName := ⟨RX6, "settlePayments", "(II)V"⟩
abbrev cX6_handOutLots : ByteArray := prog_1_method_56_code
def yX6_handOutLots : MethodName := ⟨RX6, "handOutLots", "(I)I"⟩
abbrev cX6_handOutLotsTo : ByteArray := prog_1_method_57_code
def yX6_handOutLotsTo : MethodName := ⟨RX6, "handOutLotsTo", "(II)I"⟩
abbrev cX6_settleLosers : ByteArray := prog_1_method_58_code
def yX6_settleLosers : MethodName := ⟨RX6, "settleLosers", "(I)V"⟩
abbrev cX6_reasonToLose : ByteArray := prog_1_method_59_code
def yX6_reasonToLose : MethodName := ⟨RX6, "reasonToLose", "(LSkeinMarket$Bid;I)C"⟩
def RX7 : String := "SkeinMarketModel"
def TX7 : u_T := fun k => match k with
  | 0 => ("SkeinMarketModel", "thrown", "I", false)
  | 1 => ("SkeinMarketModel", "lots", "I", false)
  | 2 => ("SkeinMarketModel", "bids", "I", false)
  | 3 => ("SkeinMarketModel", "rules", "I", false)
  | 4 => ("SkeinMarketModel", "openLots", "I", false)
  | 5 => ("SkeinMarketModel", "openBids", "I", false)
  | 6 => ("SkeinMarketModel", "takings", "J", false)
  | 7 => ("SkeinMarketModel", "fibre", "[I", true)
  | 8 => ("SkeinMarketModel", "grade", "[I", true)
  | 9 => ("SkeinMarketModel", "reserve", "[I", true)
  | 10 => ("SkeinMarketModel", "buyer", "[I", true)
  | 11 => ("SkeinMarketModel", "lotState", "[C", true)
  | 12 => ("SkeinMarketModel", "state", "[C", true)
  | 13 => ("SkeinMarketModel", "reason", "[C", true)
  | 14 => ("SkeinMarketModel", "bidder", "[I", true)
  | 15 => ("SkeinMarketModel", "price", "[I", true)
  | 16 => ("SkeinMarketModel", "items", "[I", true)
  | 17 => ("SkeinMarketModel", "askFibre", "[I", true)
  | 18 => ("SkeinMarketModel", "askGrade", "[I", true)
  | 19 => ("SkeinMarketModel", "got", "[I", true)
  | 20 => ("SkeinMarketModel", "paid", "[I", true)
  | 21 => ("SkeinMarketModel", "rival", "[I", true)
  | 22 => ("SkeinMarketModel", "ruleFibre", "[I", true)
  | 23 => ("SkeinMarketModel", "ruleOther", "[I", true)
  | 24 => ("SkeinMarketModel", "ruleSteps", "[I", true)
  | 25 => ("SkeinMarketModel", "lotAt", "[I", true)
  | 26 => ("SkeinMarketModel", "bidAt", "[I", true)
  | 27 => ("SkeinMarketModel", "value", "[I", true)
  | 28 => ("SkeinMarketModel", "costs", "[I", true)
  | 29 => ("SkeinMarketModel", "row", "[I", true)
  | 30 => ("SkeinMarketModel", "ahead", "[I", true)
  | 31 => ("SkeinMarketModel", "want", "[I", true)
  | _ => ("SkeinMarketModel", "give", "[I", true)
def tyX7 : Nat → FieldType := fun k => match k with
  | 0 => .int
  | 1 => .int
  | 2 => .int
  | 3 => .int
  | 4 => .int
  | 5 => .int
  | 6 => .long
  | 7 => .array .int
  | 8 => .array .int
  | 9 => .array .int
  | 10 => .array .int
  | 11 => .array .char
  | 12 => .array .char
  | 13 => .array .char
  | 14 => .array .int
  | 15 => .array .int
  | 16 => .array .int
  | 17 => .array .int
  | 18 => .array .int
  | 19 => .array .int
  | 20 => .array .int
  | 21 => .array .int
  | 22 => .array .int
  | 23 => .array .int
  | 24 => .array .int
  | 25 => .array .int
  | 26 => .array .int
  | 27 => .array .int
  | 28 => .array .int
  | 29 => .array .int
  | 30 => .array .int
  | 31 => .array .int
  | _ => .array .int
abbrev wsX70 : List Cond := u_ws RX7 TX7 33
theorem nmX7 : ∀ a, a < 33 → ∀ b, b < 33 → a ≠ b → (TX7 a).2.1 ≠ (TX7 b).2.1 := by decide +kernel
theorem tyX7_ok : ∀ k, k < 33 → parseFieldDescriptor (TX7 k).2.2.1 = some (tyX7 k) := by decide +kernel
abbrev cX7_init : ByteArray := prog_9_method_1_code
def yX7_init : MethodName := ⟨RX7, "<init>", "()V"⟩
abbrev cX7_thrown : ByteArray := prog_9_method_2_code
def yX7_thrown : MethodName := ⟨RX7, "thrown", "()I"⟩
abbrev cX7_fail : ByteArray := prog_9_method_3_code
def yX7_fail : MethodName := ⟨RX7, "fail", "(I)I"⟩
abbrev cX7_isIn : ByteArray := prog_9_method_4_code
def yX7_isIn : MethodName := ⟨RX7, "isIn", "(III)Z"⟩
abbrev cX7_isGrade : ByteArray := prog_9_method_5_code
def yX7_isGrade : MethodName := ⟨RX7, "isGrade", "(C)Z"⟩
abbrev cX7_isLot : ByteArray := prog_9_method_6_code
def yX7_isLot : MethodName := ⟨RX7, "isLot", "(I)Z"⟩
abbrev cX7_isBid : ByteArray := prog_9_method_7_code
def yX7_isBid : MethodName := ⟨RX7, "isBid", "(I)Z"⟩
abbrev cX7_offer : ByteArray := prog_9_method_8_code
def yX7_offer : MethodName := ⟨RX7, "offer", "(ICI)I"⟩
abbrev cX7_withdraw : ByteArray := prog_9_method_9_code
def yX7_withdraw : MethodName := ⟨RX7, "withdraw", "(I)I"⟩
abbrev cX7_allow : ByteArray := prog_9_method_10_code
def yX7_allow : MethodName := ⟨RX7, "allow", "(III)I"⟩
abbrev cX7_forbid : ByteArray := prog_9_method_11_code
def yX7_forbid : MethodName := ⟨RX7, "forbid", "()I"⟩
abbrev cX7_bid : ByteArray := prog_9_method_12_code
def yX7_bid : MethodName := ⟨RX7, "bid", "(II)I"⟩
abbrev cX7_ask : ByteArray := prog_9_method_13_code
def yX7_ask : MethodName := ⟨RX7, "ask", "(IIC)I"⟩
abbrev cX7_raise : ByteArray := prog_9_method_14_code
def yX7_raise : MethodName := ⟨RX7, "raise", "(II)I"⟩
abbrev cX7_cancel : ByteArray := prog_9_method_15_code
def yX7_cancel : MethodName := ⟨RX7, "cancel", "(I)I"⟩
abbrev cX7_suits : ByteArray := prog_9_method_16_code
def yX7_suits : MethodName := ⟨RX7, "suits", "(II)Z"⟩
abbrev cX7_gather : ByteArray := prog_9_method_17_code
def yX7_gather : MethodName := ⟨RX7, "gather", "()V"⟩
abbrev cX7_adds : ByteArray := prog_9_method_18_code
def yX7_adds : MethodName := ⟨RX7, "adds", "(II)Z"⟩
abbrev cX7_least : ByteArray := prog_9_method_19_code
def yX7_least : MethodName := ⟨RX7, "least", "(I)I"⟩
abbrev cX7_walk : ByteArray := prog_9_method_20_code
def yX7_walk : MethodName := ⟨RX7, "walk", "(IIIII)V"⟩
abbrev cX7_all : ByteArray := prog_9_method_21_code
def yX7_all : MethodName := ⟨RX7, "all", "()V"⟩
abbrev cX7_isAhead : ByteArray := prog_9_method_22_code
def yX7_isAhead : MethodName := ⟨RX7, "isAhead", "(II)Z"⟩
abbrev cX7_best : ByteArray := prog_9_method_23_code
def yX7_best : MethodName := ⟨RX7, "best", "(I)I"⟩
abbrev cX7_pays : ByteArray := prog_9_method_24_code
def yX7_pays : MethodName := ⟨RX7, "pays", "(II)I"⟩
abbrev cX7_isInSet : ByteArray := prog_9_method_25_code
def yX7_isInSet : MethodName := ⟨RX7, "isInSet", "(II)Z"⟩
abbrev cX7_gives : ByteArray := prog_9_method_26_code
def yX7_gives : MethodName := ⟨RX7, "gives", "(I)I"⟩
abbrev cX7_close : ByteArray := prog_9_method_27_code
def yX7_close : MethodName := ⟨RX7, "close", "()I"⟩
abbrev cX7_why : ByteArray := prog_9_method_28_code
def yX7_why : MethodName := ⟨RX7, "why", "(II)C"⟩
abbrev cX7_lots : ByteArray := prog_9_method_29_code
def yX7_lots : MethodName := ⟨RX7, "lots", "()I"⟩
abbrev cX7_bids : ByteArray := prog_9_method_30_code
def yX7_bids : MethodName := ⟨RX7, "bids", "()I"⟩
abbrev cX7_openLots : ByteArray := prog_9_method_31_code
def yX7_openLots : MethodName := ⟨RX7, "openLots", "()I"⟩
abbrev cX7_openBids : ByteArray := prog_9_method_32_code
def yX7_openBids : MethodName := ⟨RX7, "openBids", "()I"⟩
abbrev cX7_noLot : ByteArray := prog_9_method_33_code
def yX7_noLot : MethodName := ⟨RX7, "noLot", "(I)Z"⟩
abbrev cX7_fibreOf : ByteArray := prog_9_method_34_code
def yX7_fibreOf : MethodName := ⟨RX7, "fibreOf", "(I)I"⟩
abbrev cX7_gradeOf : ByteArray := prog_9_method_35_code
def yX7_gradeOf : MethodName := ⟨RX7, "gradeOf", "(I)C"⟩
abbrev cX7_reserveOf : ByteArray := prog_9_method_36_code
def yX7_reserveOf : MethodName := ⟨RX7, "reserveOf", "(I)I"⟩
abbrev cX7_lotState : ByteArray := prog_9_method_37_code
def yX7_lotState : MethodName := ⟨RX7, "lotState", "(I)C"⟩
abbrev cX7_soldTo : ByteArray := prog_9_method_38_code
def yX7_soldTo : MethodName := ⟨RX7, "soldTo", "(I)I"⟩
abbrev cX7_countOf : ByteArray := prog_9_method_39_code
def yX7_countOf : MethodName := ⟨RX7, "countOf", "(IC)I"⟩
abbrev cX7_noBid : ByteArray := prog_9_method_40_code
def yX7_noBid : MethodName := ⟨RX7, "noBid", "(I)Z"⟩
abbrev cX7_items : ByteArray := prog_9_method_41_code
def yX7_items : MethodName := ⟨RX7, "items", "(I)I"⟩
abbrev cX7_fits : ByteArray := prog_9_method_42_code
def yX7_fits : MethodName := ⟨RX7, "fits", "(III)Z"⟩
abbrev cX7_fitting : ByteArray := prog_9_method_43_code
def yX7_fitting : MethodName := ⟨RX7, "fitting", "(II)I"⟩
abbrev cX7_priceOf : ByteArray := prog_9_method_44_code
def yX7_priceOf : MethodName := ⟨RX7, "priceOf", "(I)I"⟩
abbrev cX7_stateOf : ByteArray := prog_9_method_45_code
def yX7_stateOf : MethodName := ⟨RX7, "stateOf", "(I)C"⟩
abbrev cX7_reason : ByteArray := prog_9_method_46_code
def yX7_reason : MethodName := ⟨RX7, "reason", "(I)C"⟩
abbrev cX7_rival : ByteArray := prog_9_method_47_code
def yX7_rival : MethodName := ⟨RX7, "rival", "(I)I"⟩
abbrev cX7_lotOf : ByteArray := prog_9_method_48_code
def yX7_lotOf : MethodName := ⟨RX7, "lotOf", "(II)I"⟩
abbrev cX7_paid : ByteArray := prog_9_method_49_code
def yX7_paid : MethodName := ⟨RX7, "paid", "(I)I"⟩
abbrev cX7_costOf : ByteArray := prog_9_method_50_code
def yX7_costOf : MethodName := ⟨RX7, "costOf", "(I)I"⟩
abbrev cX7_surplus : ByteArray := prog_9_method_51_code
def yX7_surplus : MethodName := ⟨RX7, "surplus", "()I"⟩
abbrev cX7_surplusBySets : ByteArray := prog_9_method_52_code
def yX7_surplusBySets : MethodName := ⟨RX7, "surplusBySets", "()I"⟩
abbrev cX7_surplusWithout : ByteArray := prog_9_method_53_code
def yX7_surplusWithout : MethodName := ⟨RX7, "surplusWithout", "(I)I"⟩
abbrev cX7_wouldWin : ByteArray := prog_9_method_54_code
def yX7_wouldWin : MethodName := ⟨RX7, "wouldWin", "(I)Z"⟩
abbrev cX7_wouldWinBySets : ByteArray := prog_9_method_55_code
def yX7_wouldWinBySets : MethodName := ⟨RX7, "wouldWinBySets", "(I)Z"⟩
abbrev cX7_lotFor : ByteArray := prog_9_method_56_code
def yX7_lotFor : MethodName := ⟨RX7, "lotFor", "(II)I"⟩
abbrev cX7_payment : ByteArray := prog_9_method_57_code
def yX7_payment : MethodName := ⟨RX7, "payment", "(I)I"⟩
abbrev cX7_takings : ByteArray := prog_9_method_58_code
def yX7_takings : MethodName := ⟨RX7, "takings", "()J"⟩
abbrev cX7_soldShare : ByteArray := prog_9_method_59_code
def yX7_soldShare : MethodName := ⟨RX7, "soldShare", "()F"⟩
abbrev cX7_meanPaid : ByteArray := prog_9_method_60_code
def yX7_meanPaid : MethodName := ⟨RX7, "meanPaid", "()D"⟩
def RJx145de : String := "java/io/Serializable"
def TJx145de : u_T := fun k => match k with
  | _ => ("", "", "", false)
def tyJx145de : Nat → FieldType := fun k => match k with
  | _ => .int
abbrev wsJx145de0 : List Cond := u_ws RJx145de TJx145de 0
theorem nmJx145de : ∀ a, a < 0 → ∀ b, b < 0 → a ≠ b → (TJx145de a).2.1 ≠ (TJx145de b).2.1 := by decide +kernel
theorem tyJx145de_ok : ∀ k, k < 0 → parseFieldDescriptor (TJx145de k).2.2.1 = some (tyJx145de k) := by decide +kernel
def RJx00060 : String := "java/lang/ArrayIndexOutOfBoundsException"
def TJx00060 : u_T := fun k => match k with
  | 0 => ("java/lang/Throwable", "backtrace", "Ljava/lang/Object;", false)
  | 1 => ("java/lang/Throwable", "detailMessage", "Ljava/lang/String;", false)
  | 2 => ("java/lang/Throwable", "cause", "Ljava/lang/Throwable;", false)
  | 3 => ("java/lang/Throwable", "stackTrace", "[Ljava/lang/StackTraceElement;", false)
  | 4 => ("java/lang/Throwable", "depth", "I", false)
  | _ => ("java/lang/Throwable", "suppressedExceptions", "Ljava/util/List;", false)
def tyJx00060 : Nat → FieldType := fun k => match k with
  | 0 => .object "java/lang/Object"
  | 1 => .object "java/lang/String"
  | 2 => .object "java/lang/Throwable"
  | 3 => .array (.object "java/lang/StackTraceElement")
  | 4 => .int
  | _ => .object "java/util/List"
abbrev wsJx000600 : List Cond := u_ws RJx00060 TJx00060 6
theorem nmJx00060 : ∀ a, a < 6 → ∀ b, b < 6 → a ≠ b → (TJx00060 a).2.1 ≠ (TJx00060 b).2.1 := by decide +kernel
theorem tyJx00060_ok : ∀ k, k < 6 → parseFieldDescriptor (TJx00060 k).2.2.1 = some (tyJx00060 k) := by decide +kernel
abbrev cJx00060_init_a7421 : ByteArray := prog_12_method_2_code
def yJx00060_init_a7421 : MethodName := ⟨RJx00060, "<init>", "(Ljava/lang/String;)V"⟩
def RJx8e188 : String := "java/lang/Cloneable"
def TJx8e188 : u_T := fun k => match k with
  | _ => ("", "", "", false)
def tyJx8e188 : Nat → FieldType := fun k => match k with
  | _ => .int
abbrev wsJx8e1880 : List Cond := u_ws RJx8e188 TJx8e188 0
theorem nmJx8e188 : ∀ a, a < 0 → ∀ b, b < 0 → a ≠ b → (TJx8e188 a).2.1 ≠ (TJx8e188 b).2.1 := by decide +kernel
theorem tyJx8e188_ok : ∀ k, k < 0 → parseFieldDescriptor (TJx8e188 k).2.2.1 = some (tyJx8e188 k) := by decide +kernel
def RJ6 : String := "java/lang/Integer"
def TJ6 : u_T := fun k => match k with
  | _ => ("", "", "", false)
def tyJ6 : Nat → FieldType := fun k => match k with
  | _ => .int
abbrev wsJ60 : List Cond := u_ws RJ6 TJ6 0
theorem nmJ6 : ∀ a, a < 0 → ∀ b, b < 0 → a ≠ b → (TJ6 a).2.1 ≠ (TJ6 b).2.1 := by decide +kernel
theorem tyJ6_ok : ∀ k, k < 0 → parseFieldDescriptor (TJ6 k).2.2.1 = some (tyJ6 k) := by decide +kernel
abbrev cJ6_bitCount_0f7a4 : ByteArray := prog_18_method_49_code
def yJ6_bitCount_0f7a4 : MethodName := ⟨RJ6, "bitCount", "(I)I"⟩
def RJxab1ab : String := "java/lang/Iterable"
def TJxab1ab : u_T := fun k => match k with
  | _ => ("", "", "", false)
def tyJxab1ab : Nat → FieldType := fun k => match k with
  | _ => .int
abbrev wsJxab1ab0 : List Cond := u_ws RJxab1ab TJxab1ab 0
theorem nmJxab1ab : ∀ a, a < 0 → ∀ b, b < 0 → a ≠ b → (TJxab1ab a).2.1 ≠ (TJxab1ab b).2.1 := by decide +kernel
theorem tyJxab1ab_ok : ∀ k, k < 0 → parseFieldDescriptor (TJxab1ab k).2.2.1 = some (tyJxab1ab k) := by decide +kernel
def RJ9 : String := "java/lang/Math"
def TJ9 : u_T := fun k => match k with
  | _ => ("", "", "", false)
def tyJ9 : Nat → FieldType := fun k => match k with
  | _ => .int
abbrev wsJ90 : List Cond := u_ws RJ9 TJ9 0
theorem nmJ9 : ∀ a, a < 0 → ∀ b, b < 0 → a ≠ b → (TJ9 a).2.1 ≠ (TJ9 b).2.1 := by decide +kernel
theorem tyJ9_ok : ∀ k, k < 0 → parseFieldDescriptor (TJ9 k).2.2.1 = some (tyJ9 k) := by decide +kernel
abbrev cJ9_max_7cf53 : ByteArray := prog_20_method_65_code
def yJ9_max_7cf53 : MethodName := ⟨RJ9, "max", "(II)I"⟩
abbrev cJ9_min_7cf53 : ByteArray := prog_20_method_69_code
def yJ9_min_7cf53 : MethodName := ⟨RJ9, "min", "(II)I"⟩
def RJ0 : String := "java/lang/String"
def TJ0 : u_T := fun k => match k with
  | 0 => ("java/lang/String", "value", "[B", true)
  | _ => ("java/lang/String", "coder", "B", true)
def tyJ0 : Nat → FieldType := fun k => match k with
  | 0 => .array .byte
  | _ => .byte
abbrev wsJ00 : List Cond := u_ws RJ0 TJ0 2
theorem nmJ0 : ∀ a, a < 2 → ∀ b, b < 2 → a ≠ b → (TJ0 a).2.1 ≠ (TJ0 b).2.1 := by decide +kernel
theorem tyJ0_ok : ∀ k, k < 2 → parseFieldDescriptor (TJ0 k).2.2.1 = some (tyJ0 k) := by decide +kernel
def RJ10 : String := "java/lang/System"
def TJ10 : u_T := fun k => match k with
  | _ => ("", "", "", false)
def tyJ10 : Nat → FieldType := fun k => match k with
  | _ => .int
abbrev wsJ100 : List Cond := u_ws RJ10 TJ10 0
theorem nmJ10 : ∀ a, a < 0 → ∀ b, b < 0 → a ≠ b → (TJ10 a).2.1 ≠ (TJ10 b).2.1 := by decide +kernel
theorem tyJ10_ok : ∀ k, k < 0 → parseFieldDescriptor (TJ10 k).2.2.1 = some (tyJ10 k) := by decide +kernel
def RJxa1e45 : String := "java/util/AbstractCollection"
def TJxa1e45 : u_T := fun k => match k with
  | _ => ("", "", "", false)
def tyJxa1e45 : Nat → FieldType := fun k => match k with
  | _ => .int
abbrev wsJxa1e450 : List Cond := u_ws RJxa1e45 TJxa1e45 0
theorem nmJxa1e45 : ∀ a, a < 0 → ∀ b, b < 0 → a ≠ b → (TJxa1e45 a).2.1 ≠ (TJxa1e45 b).2.1 := by decide +kernel
theorem tyJxa1e45_ok : ∀ k, k < 0 → parseFieldDescriptor (TJxa1e45 k).2.2.1 = some (tyJxa1e45 k) := by decide +kernel
abbrev cJxa1e45_init_da8c8 : ByteArray := prog_26_method_1_code
def yJxa1e45_init_da8c8 : MethodName := ⟨RJxa1e45, "<init>", "()V"⟩
def RJxc12de : String := "java/util/AbstractList"
def TJxc12de : u_T := fun k => match k with
  | _ => ("", "", "", false)
def tyJxc12de : Nat → FieldType := fun k => match k with
  | _ => .int
abbrev wsJxc12de0 : List Cond := u_ws RJxc12de TJxc12de 0
theorem nmJxc12de : ∀ a, a < 0 → ∀ b, b < 0 → a ≠ b → (TJxc12de a).2.1 ≠ (TJxc12de b).2.1 := by decide +kernel
theorem tyJxc12de_ok : ∀ k, k < 0 → parseFieldDescriptor (TJxc12de k).2.2.1 = some (tyJxc12de k) := by decide +kernel
abbrev cJxc12de_init_da8c8 : ByteArray := prog_27_method_1_code
def yJxc12de_init_da8c8 : MethodName := ⟨RJxc12de, "<init>", "()V"⟩
def RJx4a65c : String := "java/util/ArrayList"
def TJx4a65c : u_T := fun k => match k with
  | 0 => ("java/util/AbstractList", "modCount", "I", false)
  | 1 => ("java/util/ArrayList", "elementData", "[Ljava/lang/Object;", false)
  | _ => ("java/util/ArrayList", "size", "I", false)
def tyJx4a65c : Nat → FieldType := fun k => match k with
  | 0 => .int
  | 1 => .array (.object "java/lang/Object")
  | _ => .int
abbrev wsJx4a65c0 : List Cond := u_ws RJx4a65c TJx4a65c 3
theorem nmJx4a65c : ∀ a, a < 3 → ∀ b, b < 3 → a ≠ b → (TJx4a65c a).2.1 ≠ (TJx4a65c b).2.1 := by decide +kernel
theorem tyJx4a65c_ok : ∀ k, k < 3 → parseFieldDescriptor (TJx4a65c k).2.2.1 = some (tyJx4a65c k) := by decide +kernel
abbrev cJx4a65c_init_da8c8 : ByteArray := prog_28_method_2_code
def yJx4a65c_init_da8c8 : MethodName := ⟨RJx4a65c, "<init>", "()V"⟩
abbrev cJx4a65c_grow_92f84 : ByteArray := prog_28_method_6_code
def yJx4a65c_grow_92f84 : MethodName := ⟨RJx4a65c, "grow", "(I)[Ljava/lang/Object;"⟩
abbrev cJx4a65c_grow_d5877 : ByteArray := prog_28_method_7_code
def yJx4a65c_grow_d5877 : MethodName := ⟨RJx4a65c, "grow", "()[Ljava/lang/Object;"⟩
abbrev cJx4a65c_size_8abf5 : ByteArray := prog_28_method_8_code
def yJx4a65c_size_8abf5 : MethodName := ⟨RJx4a65c, "size", "()I"⟩
abbrev cJx4a65c_isEmpty_aae02 : ByteArray := prog_28_method_9_code
def yJx4a65c_isEmpty_aae02 : MethodName := ⟨RJx4a65c, "isEmpty", "()Z"⟩
abbrev cJx4a65c_elementData_915e3 : ByteArray := prog_28_method_18_code
def yJx4a65c_elementData_915e3 : MethodName := ⟨RJx4a65c, "elementData", "(I)Ljava/lang/Object;"⟩
abbrev cJx4a65c_get_915e3 : ByteArray := prog_28_method_20_code
def yJx4a65c_get_915e3 : MethodName := ⟨RJx4a65c, "get", "(I)Ljava/lang/Object;"⟩
abbrev cJx4a65c_add_72be8 : ByteArray := prog_28_method_24_code
def yJx4a65c_add_72be8 : MethodName := ⟨RJx4a65c, "add", "(Ljava/lang/Object;[Ljava/lang/Object;I)V"⟩
abbrev cJx4a65c_add_9ea2d : ByteArray := prog_28_method_25_code
def yJx4a65c_add_9ea2d : MethodName := ⟨RJx4a65c, "add", "(Ljava/lang/Object;)Z"⟩
abbrev cJx4a65c_remove_915e3 : ByteArray := prog_28_method_29_code
def yJx4a65c_remove_915e3 : MethodName := ⟨RJx4a65c, "remove", "(I)Ljava/lang/Object;"⟩
abbrev cJx4a65c_fastRemove_b59b0 : ByteArray := prog_28_method_39_code
def yJx4a65c_fastRemove_b59b0 : MethodName := ⟨RJx4a65c, "fastRemove", "([Ljava/lang/Object;I)V"⟩
def RJ7 : String := "java/util/Arrays"
def TJ7 : u_T := fun k => match k with
  | _ => ("", "", "", false)
def tyJ7 : Nat → FieldType := fun k => match k with
  | _ => .int
abbrev wsJ70 : List Cond := u_ws RJ7 TJ7 0
theorem nmJ7 : ∀ a, a < 0 → ∀ b, b < 0 → a ≠ b → (TJ7 a).2.1 ≠ (TJ7 b).2.1 := by decide +kernel
theorem tyJ7_ok : ∀ k, k < 0 → parseFieldDescriptor (TJ7 k).2.2.1 = some (tyJ7 k) := by decide +kernel
abbrev cJ7_copyOf_1904c : ByteArray := prog_29_method_119_code
def yJ7_copyOf_1904c : MethodName := ⟨RJ7, "copyOf", "([Ljava/lang/Object;I)[Ljava/lang/Object;"⟩
abbrev cJ7_copyOf_6403c : ByteArray := prog_29_method_120_code
def yJ7_copyOf_6403c : MethodName := ⟨RJ7, "copyOf", "([Ljava/lang/Object;ILjava/lang/Class;)[Ljava/lang/Object;"⟩
def RJx5ef63 : String := "java/util/Collection"
def TJx5ef63 : u_T := fun k => match k with
  | _ => ("", "", "", false)
def tyJx5ef63 : Nat → FieldType := fun k => match k with
  | _ => .int
abbrev wsJx5ef630 : List Cond := u_ws RJx5ef63 TJx5ef63 0
theorem nmJx5ef63 : ∀ a, a < 0 → ∀ b, b < 0 → a ≠ b → (TJx5ef63 a).2.1 ≠ (TJx5ef63 b).2.1 := by decide +kernel
theorem tyJx5ef63_ok : ∀ k, k < 0 → parseFieldDescriptor (TJx5ef63 k).2.2.1 = some (tyJx5ef63 k) := by decide +kernel
def RJxbd725 : String := "java/util/List"
def TJxbd725 : u_T := fun k => match k with
  | _ => ("", "", "", false)
def tyJxbd725 : Nat → FieldType := fun k => match k with
  | _ => .int
abbrev wsJxbd7250 : List Cond := u_ws RJxbd725 TJxbd725 0
theorem nmJxbd725 : ∀ a, a < 0 → ∀ b, b < 0 → a ≠ b → (TJxbd725 a).2.1 ≠ (TJxbd725 b).2.1 := by decide +kernel
theorem tyJxbd725_ok : ∀ k, k < 0 → parseFieldDescriptor (TJxbd725 k).2.2.1 = some (tyJxbd725 k) := by decide +kernel
def RJ15 : String := "java/util/Objects"
def TJ15 : u_T := fun k => match k with
  | _ => ("", "", "", false)
def tyJ15 : Nat → FieldType := fun k => match k with
  | _ => .int
abbrev wsJ150 : List Cond := u_ws RJ15 TJ15 0
theorem nmJ15 : ∀ a, a < 0 → ∀ b, b < 0 → a ≠ b → (TJ15 a).2.1 ≠ (TJ15 b).2.1 := by decide +kernel
theorem tyJ15_ok : ∀ k, k < 0 → parseFieldDescriptor (TJ15 k).2.2.1 = some (tyJ15 k) := by decide +kernel
abbrev cJ15_checkIndex_7cf53 : ByteArray := prog_33_method_17_code
def yJ15_checkIndex_7cf53 : MethodName := ⟨RJ15, "checkIndex", "(II)I"⟩
def RJxf0a74 : String := "java/util/RandomAccess"
def TJxf0a74 : u_T := fun k => match k with
  | _ => ("", "", "", false)
def tyJxf0a74 : Nat → FieldType := fun k => match k with
  | _ => .int
abbrev wsJxf0a740 : List Cond := u_ws RJxf0a74 TJxf0a74 0
theorem nmJxf0a74 : ∀ a, a < 0 → ∀ b, b < 0 → a ≠ b → (TJxf0a74 a).2.1 ≠ (TJxf0a74 b).2.1 := by decide +kernel
theorem tyJxf0a74_ok : ∀ k, k < 0 → parseFieldDescriptor (TJxf0a74 k).2.2.1 = some (tyJxf0a74 k) := by decide +kernel
def RJxa66e6 : String := "java/util/SequencedCollection"
def TJxa66e6 : u_T := fun k => match k with
  | _ => ("", "", "", false)
def tyJxa66e6 : Nat → FieldType := fun k => match k with
  | _ => .int
abbrev wsJxa66e60 : List Cond := u_ws RJxa66e6 TJxa66e6 0
theorem nmJxa66e6 : ∀ a, a < 0 → ∀ b, b < 0 → a ≠ b → (TJxa66e6 a).2.1 ≠ (TJxa66e6 b).2.1 := by decide +kernel
theorem tyJxa66e6_ok : ∀ k, k < 0 → parseFieldDescriptor (TJxa66e6 k).2.2.1 = some (tyJxa66e6 k) := by decide +kernel
def RJ8 : String := "jdk/internal/util/ArraysSupport"
def TJ8 : u_T := fun k => match k with
  | _ => ("", "", "", false)
def tyJ8 : Nat → FieldType := fun k => match k with
  | _ => .int
abbrev wsJ80 : List Cond := u_ws RJ8 TJ8 0
theorem nmJ8 : ∀ a, a < 0 → ∀ b, b < 0 → a ≠ b → (TJ8 a).2.1 ≠ (TJ8 b).2.1 := by decide +kernel
theorem tyJ8_ok : ∀ k, k < 0 → parseFieldDescriptor (TJ8 k).2.2.1 = some (tyJ8 k) := by decide +kernel
abbrev cJ8_newLength_cabcc : ByteArray := prog_36_method_27_code
def yJ8_newLength_cabcc : MethodName := ⟨RJ8, "newLength", "(III)I"⟩
abbrev cJ8_hugeLength_7cf53 : ByteArray := prog_36_method_28_code
def yJ8_hugeLength_7cf53 : MethodName := ⟨RJ8, "hugeLength", "(II)I"⟩
def RJ3 : String := "jdk/internal/util/Preconditions"
def TJ3 : u_T := fun k => match k with
  | _ => ("", "", "", false)
def tyJ3 : Nat → FieldType := fun k => match k with
  | _ => .int
abbrev wsJ30 : List Cond := u_ws RJ3 TJ3 0
theorem nmJ3 : ∀ a, a < 0 → ∀ b, b < 0 → a ≠ b → (TJ3 a).2.1 ≠ (TJ3 b).2.1 := by decide +kernel
theorem tyJ3_ok : ∀ k, k < 0 → parseFieldDescriptor (TJ3 k).2.2.1 = some (tyJ3 k) := by decide +kernel
abbrev cJ3_checkIndex_8e157 : ByteArray := prog_37_method_11_code
def yJ3_checkIndex_8e157 : MethodName := ⟨RJ3, "checkIndex", "(IILjava/util/function/BiFunction;)I"⟩
def RL : String := "SkeinMarketLaw"
abbrev cL_offer : ByteArray := method_3_code
def yL_offer : MethodName := ⟨RL, "offer", "(LSkeinMarket;ICI[J)I"⟩
abbrev cL_withdraw : ByteArray := method_4_code
def yL_withdraw : MethodName := ⟨RL, "withdraw", "(LSkeinMarket;I[J)I"⟩
abbrev cL_allow : ByteArray := method_5_code
def yL_allow : MethodName := ⟨RL, "allow", "(LSkeinMarket;III[J)I"⟩
abbrev cL_forbid : ByteArray := method_6_code
def yL_forbid : MethodName := ⟨RL, "forbid", "(LSkeinMarket;[J)I"⟩
abbrev cL_bid : ByteArray := method_7_code
def yL_bid : MethodName := ⟨RL, "bid", "(LSkeinMarket;II[J)I"⟩
abbrev cL_ask : ByteArray := method_8_code
def yL_ask : MethodName := ⟨RL, "ask", "(LSkeinMarket;IIC[J)I"⟩
abbrev cL_raise : ByteArray := method_9_code
def yL_raise : MethodName := ⟨RL, "raise", "(LSkeinMarket;II[J)I"⟩
abbrev cL_cancel : ByteArray := method_10_code
def yL_cancel : MethodName := ⟨RL, "cancel", "(LSkeinMarket;I[J)I"⟩
abbrev cL_close : ByteArray := method_11_code
def yL_close : MethodName := ⟨RL, "close", "(LSkeinMarket;[J)I"⟩
abbrev cL_fibreOf : ByteArray := method_12_code
def yL_fibreOf : MethodName := ⟨RL, "fibreOf", "(LSkeinMarket;I[J)I"⟩
abbrev cL_gradeOf : ByteArray := method_13_code
def yL_gradeOf : MethodName := ⟨RL, "gradeOf", "(LSkeinMarket;I[J)I"⟩
abbrev cL_reserveOf : ByteArray := method_14_code
def yL_reserveOf : MethodName := ⟨RL, "reserveOf", "(LSkeinMarket;I[J)I"⟩
abbrev cL_lotState : ByteArray := method_15_code
def yL_lotState : MethodName := ⟨RL, "lotState", "(LSkeinMarket;I[J)I"⟩
abbrev cL_soldTo : ByteArray := method_16_code
def yL_soldTo : MethodName := ⟨RL, "soldTo", "(LSkeinMarket;I[J)I"⟩
abbrev cL_countOf : ByteArray := method_17_code
def yL_countOf : MethodName := ⟨RL, "countOf", "(LSkeinMarket;IC[J)I"⟩
abbrev cL_items : ByteArray := method_18_code
def yL_items : MethodName := ⟨RL, "items", "(LSkeinMarket;I[J)I"⟩
abbrev cL_fits : ByteArray := method_19_code
def yL_fits : MethodName := ⟨RL, "fits", "(LSkeinMarket;III[J)I"⟩
abbrev cL_fitting : ByteArray := method_20_code
def yL_fitting : MethodName := ⟨RL, "fitting", "(LSkeinMarket;II[J)I"⟩
abbrev cL_priceOf : ByteArray := method_21_code
def yL_priceOf : MethodName := ⟨RL, "priceOf", "(LSkeinMarket;I[J)I"⟩
abbrev cL_stateOf : ByteArray := method_22_code
def yL_stateOf : MethodName := ⟨RL, "stateOf", "(LSkeinMarket;I[J)I"⟩
abbrev cL_reason : ByteArray := method_23_code
def yL_reason : MethodName := ⟨RL, "reason", "(LSkeinMarket;I[J)I"⟩
abbrev cL_rival : ByteArray := method_24_code
def yL_rival : MethodName := ⟨RL, "rival", "(LSkeinMarket;I[J)I"⟩
abbrev cL_lotOf : ByteArray := method_25_code
def yL_lotOf : MethodName := ⟨RL, "lotOf", "(LSkeinMarket;II[J)I"⟩
abbrev cL_paid : ByteArray := method_26_code
def yL_paid : MethodName := ⟨RL, "paid", "(LSkeinMarket;I[J)I"⟩
abbrev cL_costOf : ByteArray := method_27_code
def yL_costOf : MethodName := ⟨RL, "costOf", "(LSkeinMarket;I[J)I"⟩
abbrev cL_surplusWithout : ByteArray := method_28_code
def yL_surplusWithout : MethodName := ⟨RL, "surplusWithout", "(LSkeinMarket;I[J)I"⟩
abbrev cL_wouldWin : ByteArray := method_29_code
def yL_wouldWin : MethodName := ⟨RL, "wouldWin", "(LSkeinMarket;I[J)I"⟩
abbrev cL_wouldWinBySets : ByteArray := method_30_code
def yL_wouldWinBySets : MethodName := ⟨RL, "wouldWinBySets", "(LSkeinMarket;I[J)I"⟩
abbrev cL_lotFor : ByteArray := method_31_code
def yL_lotFor : MethodName := ⟨RL, "lotFor", "(LSkeinMarket;II[J)I"⟩
abbrev cL_payment : ByteArray := method_32_code
def yL_payment : MethodName := ⟨RL, "payment", "(LSkeinMarket;I[J)I"⟩
abbrev cL_soldShare : ByteArray := method_33_code
def yL_soldShare : MethodName := ⟨RL, "soldShare", "(LSkeinMarket;[D)I"⟩
abbrev cL_meanPaid : ByteArray := method_34_code
def yL_meanPaid : MethodName := ⟨RL, "meanPaid", "(LSkeinMarket;[D)I"⟩
abbrev cL_law : ByteArray := code
def yL_law : MethodName := ⟨RL, "law", "([I)Z"⟩
abbrev vwCl : List vw_C := [(RJ0, TJ0, 2), (RJx00060, TJx00060, 6), (RJx4a65c, TJx4a65c, 3), (RX0, TX0, 7), (RX1, TX1, 14), (RX2, TX2, 3), (RX3, TX3, 5), (RX4, TX4, 3), (RX5, TX5, 5), (RX6, TX6, 10), (RX7, TX7, 33)]
end
section
theorem dX0_init_0 : decode cX0_init 0 = .ok (.aload_n 0, 1) := by decide +kernel
theorem dX0_init_1 : decode cX0_init 1 = .ok (.invokespecial 3, 3) := by decide +kernel
theorem dX0_init_4 : decode cX0_init 4 = .ok (.aload_n 0, 1) := by decide +kernel
theorem dX0_init_5 : decode cX0_init 5 = .ok (.new 9, 3) := by decide +kernel
theorem dX0_init_8 : decode cX0_init 8 = .ok (.dup, 1) := by decide +kernel
theorem dX0_init_9 : decode cX0_init 9 = .ok (.invokespecial 11, 3) := by decide +kernel
theorem dX0_init_12 : decode cX0_init 12 = .ok (.putfield 12, 3) := by decide +kernel
theorem dX0_init_15 : decode cX0_init 15 = .ok (.aload_n 0, 1) := by decide +kernel
theorem dX0_init_16 : decode cX0_init 16 = .ok (.bipush 111, 2) := by decide +kernel
theorem dX0_init_18 : decode cX0_init 18 = .ok (.putfield 18, 3) := by decide +kernel
theorem dX0_init_21 : decode cX0_init 21 = .ok (.aload_n 0, 1) := by decide +kernel
theorem dX0_init_22 : decode cX0_init 22 = .ok (.bipush 109, 2) := by decide +kernel
theorem dX0_init_24 : decode cX0_init 24 = .ok (.putfield 22, 3) := by decide +kernel
theorem dX0_init_27 : decode cX0_init 27 = .ok (.aload_n 0, 1) := by decide +kernel
theorem dX0_init_28 : decode cX0_init 28 = .ok (.iconst (-1), 1) := by decide +kernel
theorem dX0_init_29 : decode cX0_init 29 = .ok (.putfield 25, 3) := by decide +kernel
theorem dX0_init_32 : decode cX0_init 32 = .ok (.aload_n 0, 1) := by decide +kernel
theorem dX0_init_33 : decode cX0_init 33 = .ok (.iload_n 1, 1) := by decide +kernel
theorem dX0_init_34 : decode cX0_init 34 = .ok (.putfield 29, 3) := by decide +kernel
theorem dX0_init_37 : decode cX0_init 37 = .ok (.aload_n 0, 1) := by decide +kernel
theorem dX0_init_38 : decode cX0_init 38 = .ok (.iload_n 2, 1) := by decide +kernel
theorem dX0_init_39 : decode cX0_init 39 = .ok (.putfield 32, 3) := by decide +kernel
theorem dX0_init_42 : decode cX0_init 42 = .ok (.return_, 1) := by decide +kernel
theorem dX1_init_0 : decode cX1_init 0 = .ok (.aload_n 0, 1) := by decide +kernel
theorem dX1_init_1 : decode cX1_init 1 = .ok (.invokespecial 3, 3) := by decide +kernel
theorem dX1_init_4 : decode cX1_init 4 = .ok (.aload_n 0, 1) := by decide +kernel
theorem dX1_init_5 : decode cX1_init 5 = .ok (.bipush 8, 2) := by decide +kernel
theorem dX1_init_7 : decode cX1_init 7 = .ok (.newarray .int, 2) := by decide +kernel
theorem dX1_init_9 : decode cX1_init 9 = .ok (.putfield 9, 3) := by decide +kernel
theorem dX1_init_12 : decode cX1_init 12 = .ok (.aload_n 0, 1) := by decide +kernel
theorem dX1_init_13 : decode cX1_init 13 = .ok (.bipush 8, 2) := by decide +kernel
theorem dX1_init_15 : decode cX1_init 15 = .ok (.newarray .int, 2) := by decide +kernel
theorem dX1_init_17 : decode cX1_init 17 = .ok (.putfield 15, 3) := by decide +kernel
theorem dX1_init_20 : decode cX1_init 20 = .ok (.aload_n 0, 1) := by decide +kernel
theorem dX1_init_21 : decode cX1_init 21 = .ok (.sipush 256, 3) := by decide +kernel
theorem dX1_init_24 : decode cX1_init 24 = .ok (.newarray .int, 2) := by decide +kernel
theorem dX1_init_26 : decode cX1_init 26 = .ok (.putfield 18, 3) := by decide +kernel
theorem dX1_init_29 : decode cX1_init 29 = .ok (.aload_n 0, 1) := by decide +kernel
theorem dX1_init_30 : decode cX1_init 30 = .ok (.bipush 8, 2) := by decide +kernel
theorem dX1_init_32 : decode cX1_init 32 = .ok (.newarray .int, 2) := by decide +kernel
theorem dX1_init_34 : decode cX1_init 34 = .ok (.putfield 21, 3) := by decide +kernel
theorem dX1_init_37 : decode cX1_init 37 = .ok (.aload_n 0, 1) := by decide +kernel
theorem dX1_init_38 : decode cX1_init 38 = .ok (.bipush 8, 2) := by decide +kernel
theorem dX1_init_40 : decode cX1_init 40 = .ok (.newarray .int, 2) := by decide +kernel
theorem dX1_init_42 : decode cX1_init 42 = .ok (.putfield 24, 3) := by decide +kernel
theorem dX1_init_45 : decode cX1_init 45 = .ok (.aload_n 0, 1) := by decide +kernel
theorem dX1_init_46 : decode cX1_init 46 = .ok (.bipush 8, 2) := by decide +kernel
theorem dX1_init_48 : decode cX1_init 48 = .ok (.newarray .int, 2) := by decide +kernel
theorem dX1_init_50 : decode cX1_init 50 = .ok (.putfield 27, 3) := by decide +kernel
theorem dX1_init_53 : decode cX1_init 53 = .ok (.aload_n 0, 1) := by decide +kernel
theorem dX1_init_54 : decode cX1_init 54 = .ok (.bipush 8, 2) := by decide +kernel
theorem dX1_init_56 : decode cX1_init 56 = .ok (.newarray .int, 2) := by decide +kernel
theorem dX1_init_58 : decode cX1_init 58 = .ok (.putfield 30, 3) := by decide +kernel
theorem dX1_init_61 : decode cX1_init 61 = .ok (.aload_n 0, 1) := by decide +kernel
theorem dX1_init_62 : decode cX1_init 62 = .ok (.bipush 24, 2) := by decide +kernel
theorem dX1_init_64 : decode cX1_init 64 = .ok (.newarray .int, 2) := by decide +kernel
theorem dX1_init_66 : decode cX1_init 66 = .ok (.putfield 33, 3) := by decide +kernel
theorem dX1_init_69 : decode cX1_init 69 = .ok (.aload_n 0, 1) := by decide +kernel
theorem dX1_init_70 : decode cX1_init 70 = .ok (.bipush 8, 2) := by decide +kernel
theorem dX1_init_72 : decode cX1_init 72 = .ok (.newarray .int, 2) := by decide +kernel
theorem dX1_init_74 : decode cX1_init 74 = .ok (.putfield 36, 3) := by decide +kernel
theorem dX1_init_77 : decode cX1_init 77 = .ok (.aload_n 0, 1) := by decide +kernel
theorem dX1_init_78 : decode cX1_init 78 = .ok (.sipush 256, 3) := by decide +kernel
theorem dX1_init_81 : decode cX1_init 81 = .ok (.newarray .int, 2) := by decide +kernel
theorem dX1_init_83 : decode cX1_init 83 = .ok (.putfield 39, 3) := by decide +kernel
theorem dX1_init_86 : decode cX1_init 86 = .ok (.aload_n 0, 1) := by decide +kernel
theorem dX1_init_87 : decode cX1_init 87 = .ok (.bipush 8, 2) := by decide +kernel
theorem dX1_init_89 : decode cX1_init 89 = .ok (.newarray .int, 2) := by decide +kernel
theorem dX1_init_91 : decode cX1_init 91 = .ok (.putfield 42, 3) := by decide +kernel
theorem dX1_init_94 : decode cX1_init 94 = .ok (.return_, 1) := by decide +kernel
theorem dX1_clearAll_0 : decode cX1_clearAll 0 = .ok (.aload_n 0, 1) := by decide +kernel
theorem dX1_clearAll_1 : decode cX1_clearAll 1 = .ok (.iconst 0, 1) := by decide +kernel
theorem dX1_clearAll_2 : decode cX1_clearAll 2 = .ok (.putfield 45, 3) := by decide +kernel
theorem dX1_clearAll_5 : decode cX1_clearAll 5 = .ok (.aload_n 0, 1) := by decide +kernel
theorem dX1_clearAll_6 : decode cX1_clearAll 6 = .ok (.iconst 0, 1) := by decide +kernel
theorem dX1_clearAll_7 : decode cX1_clearAll 7 = .ok (.putfield 49, 3) := by decide +kernel
theorem dX1_clearAll_10 : decode cX1_clearAll 10 = .ok (.aload_n 0, 1) := by decide +kernel
theorem dX1_clearAll_11 : decode cX1_clearAll 11 = .ok (.iconst 0, 1) := by decide +kernel
theorem dX1_clearAll_12 : decode cX1_clearAll 12 = .ok (.putfield 52, 3) := by decide +kernel
theorem dX1_clearAll_15 : decode cX1_clearAll 15 = .ok (.return_, 1) := by decide +kernel
theorem dX1_addLot_0 : decode cX1_addLot 0 = .ok (.aload_n 0, 1) := by decide +kernel
theorem dX1_addLot_1 : decode cX1_addLot 1 = .ok (.getfield 45, 3) := by decide +kernel
theorem dX1_addLot_4 : decode cX1_addLot 4 = .ok (.bipush 8, 2) := by decide +kernel
theorem dX1_addLot_6 : decode cX1_addLot 6 = .ok (.if_icmp .lt 4, 3) := by decide +kernel
theorem dX1_addLot_9 : decode cX1_addLot 9 = .ok (.return_, 1) := by decide +kernel
theorem dX1_addLot_10 : decode cX1_addLot 10 = .ok (.iconst 1, 1) := by decide +kernel
theorem dX1_addLot_11 : decode cX1_addLot 11 = .ok (.aload_n 0, 1) := by decide +kernel
theorem dX1_addLot_12 : decode cX1_addLot 12 = .ok (.getfield 45, 3) := by decide +kernel
theorem dX1_addLot_15 : decode cX1_addLot 15 = .ok (.ishl, 1) := by decide +kernel
theorem dX1_addLot_16 : decode cX1_addLot 16 = .ok (.istore_n 3, 1) := by decide +kernel
theorem dX1_addLot_17 : decode cX1_addLot 17 = .ok (.iconst 0, 1) := by decide +kernel
theorem dX1_addLot_18 : decode cX1_addLot 18 = .ok (.istore 4, 2) := by decide +kernel
theorem dX1_addLot_20 : decode cX1_addLot 20 = .ok (.iload 4, 2) := by decide +kernel
theorem dX1_addLot_22 : decode cX1_addLot 22 = .ok (.iload_n 3, 1) := by decide +kernel
theorem dX1_addLot_23 : decode cX1_addLot 23 = .ok (.if_icmp .ge 27, 3) := by decide +kernel
theorem dX1_addLot_26 : decode cX1_addLot 26 = .ok (.aload_n 0, 1) := by decide +kernel
theorem dX1_addLot_27 : decode cX1_addLot 27 = .ok (.getfield 18, 3) := by decide +kernel
theorem dX1_addLot_30 : decode cX1_addLot 30 = .ok (.iload_n 3, 1) := by decide +kernel
theorem dX1_addLot_31 : decode cX1_addLot 31 = .ok (.iload 4, 2) := by decide +kernel
theorem dX1_addLot_33 : decode cX1_addLot 33 = .ok (.ior, 1) := by decide +kernel
theorem dX1_addLot_34 : decode cX1_addLot 34 = .ok (.aload_n 0, 1) := by decide +kernel
theorem dX1_addLot_35 : decode cX1_addLot 35 = .ok (.getfield 18, 3) := by decide +kernel
theorem dX1_addLot_38 : decode cX1_addLot 38 = .ok (.iload 4, 2) := by decide +kernel
theorem dX1_addLot_40 : decode cX1_addLot 40 = .ok (.iaload, 1) := by decide +kernel
theorem dX1_addLot_41 : decode cX1_addLot 41 = .ok (.iload_n 2, 1) := by decide +kernel
theorem dX1_addLot_42 : decode cX1_addLot 42 = .ok (.iadd, 1) := by decide +kernel
theorem dX1_addLot_43 : decode cX1_addLot 43 = .ok (.iastore, 1) := by decide +kernel
theorem dX1_addLot_44 : decode cX1_addLot 44 = .ok (.iinc 4 1, 3) := by decide +kernel
theorem dX1_addLot_47 : decode cX1_addLot 47 = .ok (.goto (-27), 3) := by decide +kernel
theorem dX1_addLot_50 : decode cX1_addLot 50 = .ok (.aload_n 0, 1) := by decide +kernel
theorem dX1_addLot_51 : decode cX1_addLot 51 = .ok (.getfield 9, 3) := by decide +kernel
theorem dX1_addLot_54 : decode cX1_addLot 54 = .ok (.aload_n 0, 1) := by decide +kernel
theorem dX1_addLot_55 : decode cX1_addLot 55 = .ok (.getfield 45, 3) := by decide +kernel
theorem dX1_addLot_58 : decode cX1_addLot 58 = .ok (.iload_n 1, 1) := by decide +kernel
theorem dX1_addLot_59 : decode cX1_addLot 59 = .ok (.iastore, 1) := by decide +kernel
theorem dX1_addLot_60 : decode cX1_addLot 60 = .ok (.aload_n 0, 1) := by decide +kernel
theorem dX1_addLot_61 : decode cX1_addLot 61 = .ok (.getfield 15, 3) := by decide +kernel
theorem dX1_addLot_64 : decode cX1_addLot 64 = .ok (.aload_n 0, 1) := by decide +kernel
theorem dX1_addLot_65 : decode cX1_addLot 65 = .ok (.getfield 45, 3) := by decide +kernel
theorem dX1_addLot_68 : decode cX1_addLot 68 = .ok (.iload_n 2, 1) := by decide +kernel
theorem dX1_addLot_69 : decode cX1_addLot 69 = .ok (.iastore, 1) := by decide +kernel
theorem dX1_addLot_70 : decode cX1_addLot 70 = .ok (.aload_n 0, 1) := by decide +kernel
theorem dX1_addLot_71 : decode cX1_addLot 71 = .ok (.dup, 1) := by decide +kernel
theorem dX1_addLot_72 : decode cX1_addLot 72 = .ok (.getfield 45, 3) := by decide +kernel
theorem dX1_addLot_75 : decode cX1_addLot 75 = .ok (.iconst 1, 1) := by decide +kernel
theorem dX1_addLot_76 : decode cX1_addLot 76 = .ok (.iadd, 1) := by decide +kernel
theorem dX1_addLot_77 : decode cX1_addLot 77 = .ok (.putfield 45, 3) := by decide +kernel
theorem dX1_addLot_80 : decode cX1_addLot 80 = .ok (.return_, 1) := by decide +kernel
theorem dX1_addBid_0 : decode cX1_addBid 0 = .ok (.aload_n 0, 1) := by decide +kernel
theorem dX1_addBid_1 : decode cX1_addBid 1 = .ok (.getfield 49, 3) := by decide +kernel
theorem dX1_addBid_4 : decode cX1_addBid 4 = .ok (.bipush 8, 2) := by decide +kernel
theorem dX1_addBid_6 : decode cX1_addBid 6 = .ok (.if_icmp .lt 4, 3) := by decide +kernel
theorem dX1_addBid_9 : decode cX1_addBid 9 = .ok (.return_, 1) := by decide +kernel
theorem dX1_addBid_10 : decode cX1_addBid 10 = .ok (.aload_n 0, 1) := by decide +kernel
theorem dX1_addBid_11 : decode cX1_addBid 11 = .ok (.getfield 21, 3) := by decide +kernel
theorem dX1_addBid_14 : decode cX1_addBid 14 = .ok (.aload_n 0, 1) := by decide +kernel
theorem dX1_addBid_15 : decode cX1_addBid 15 = .ok (.getfield 49, 3) := by decide +kernel
theorem dX1_addBid_18 : decode cX1_addBid 18 = .ok (.iload_n 1, 1) := by decide +kernel
theorem dX1_addBid_19 : decode cX1_addBid 19 = .ok (.iastore, 1) := by decide +kernel
theorem dX1_addBid_20 : decode cX1_addBid 20 = .ok (.aload_n 0, 1) := by decide +kernel
theorem dX1_addBid_21 : decode cX1_addBid 21 = .ok (.getfield 24, 3) := by decide +kernel
theorem dX1_addBid_24 : decode cX1_addBid 24 = .ok (.aload_n 0, 1) := by decide +kernel
theorem dX1_addBid_25 : decode cX1_addBid 25 = .ok (.getfield 49, 3) := by decide +kernel
theorem dX1_addBid_28 : decode cX1_addBid 28 = .ok (.iload_n 2, 1) := by decide +kernel
theorem dX1_addBid_29 : decode cX1_addBid 29 = .ok (.iastore, 1) := by decide +kernel
theorem dX1_addBid_30 : decode cX1_addBid 30 = .ok (.aload_n 0, 1) := by decide +kernel
theorem dX1_addBid_31 : decode cX1_addBid 31 = .ok (.getfield 27, 3) := by decide +kernel
theorem dX1_addBid_34 : decode cX1_addBid 34 = .ok (.aload_n 0, 1) := by decide +kernel
theorem dX1_addBid_35 : decode cX1_addBid 35 = .ok (.getfield 49, 3) := by decide +kernel
theorem dX1_addBid_38 : decode cX1_addBid 38 = .ok (.iload_n 3, 1) := by decide +kernel
theorem dX1_addBid_39 : decode cX1_addBid 39 = .ok (.iastore, 1) := by decide +kernel
theorem dX1_addBid_40 : decode cX1_addBid 40 = .ok (.aload_n 0, 1) := by decide +kernel
theorem dX1_addBid_41 : decode cX1_addBid 41 = .ok (.getfield 30, 3) := by decide +kernel
theorem dX1_addBid_44 : decode cX1_addBid 44 = .ok (.aload_n 0, 1) := by decide +kernel
theorem dX1_addBid_45 : decode cX1_addBid 45 = .ok (.getfield 49, 3) := by decide +kernel
theorem dX1_addBid_48 : decode cX1_addBid 48 = .ok (.iconst 0, 1) := by decide +kernel
theorem dX1_addBid_49 : decode cX1_addBid 49 = .ok (.iastore, 1) := by decide +kernel
theorem dX1_addBid_50 : decode cX1_addBid 50 = .ok (.aload_n 0, 1) := by decide +kernel
theorem dX1_addBid_51 : decode cX1_addBid 51 = .ok (.dup, 1) := by decide +kernel
theorem dX1_addBid_52 : decode cX1_addBid 52 = .ok (.getfield 49, 3) := by decide +kernel
theorem dX1_addBid_55 : decode cX1_addBid 55 = .ok (.iconst 1, 1) := by decide +kernel
theorem dX1_addBid_56 : decode cX1_addBid 56 = .ok (.iadd, 1) := by decide +kernel
theorem dX1_addBid_57 : decode cX1_addBid 57 = .ok (.putfield 49, 3) := by decide +kernel
theorem dX1_addBid_60 : decode cX1_addBid 60 = .ok (.return_, 1) := by decide +kernel
theorem dX1_addItem_0 : decode cX1_addItem 0 = .ok (.aload_n 0, 1) := by decide +kernel
theorem dX1_addItem_1 : decode cX1_addItem 1 = .ok (.getfield 49, 3) := by decide +kernel
theorem dX1_addItem_4 : decode cX1_addItem 4 = .ok (.iconst 1, 1) := by decide +kernel
theorem dX1_addItem_5 : decode cX1_addItem 5 = .ok (.isub, 1) := by decide +kernel
theorem dX1_addItem_6 : decode cX1_addItem 6 = .ok (.istore_n 2, 1) := by decide +kernel
theorem dX1_addItem_7 : decode cX1_addItem 7 = .ok (.iload_n 2, 1) := by decide +kernel
theorem dX1_addItem_8 : decode cX1_addItem 8 = .ok (.ifCond .lt 13, 3) := by decide +kernel
theorem dX1_addItem_11 : decode cX1_addItem 11 = .ok (.aload_n 0, 1) := by decide +kernel
theorem dX1_addItem_12 : decode cX1_addItem 12 = .ok (.getfield 30, 3) := by decide +kernel
theorem dX1_addItem_15 : decode cX1_addItem 15 = .ok (.iload_n 2, 1) := by decide +kernel
theorem dX1_addItem_16 : decode cX1_addItem 16 = .ok (.iaload, 1) := by decide +kernel
theorem dX1_addItem_17 : decode cX1_addItem 17 = .ok (.iconst 3, 1) := by decide +kernel
theorem dX1_addItem_18 : decode cX1_addItem 18 = .ok (.if_icmp .lt 4, 3) := by decide +kernel
theorem dX1_addItem_21 : decode cX1_addItem 21 = .ok (.return_, 1) := by decide +kernel
theorem dX1_addItem_22 : decode cX1_addItem 22 = .ok (.aload_n 0, 1) := by decide +kernel
theorem dX1_addItem_23 : decode cX1_addItem 23 = .ok (.getfield 33, 3) := by decide +kernel
theorem dX1_addItem_26 : decode cX1_addItem 26 = .ok (.iload_n 2, 1) := by decide +kernel
theorem dX1_addItem_27 : decode cX1_addItem 27 = .ok (.iconst 3, 1) := by decide +kernel
theorem dX1_addItem_28 : decode cX1_addItem 28 = .ok (.imul, 1) := by decide +kernel
theorem dX1_addItem_29 : decode cX1_addItem 29 = .ok (.aload_n 0, 1) := by decide +kernel
theorem dX1_addItem_30 : decode cX1_addItem 30 = .ok (.getfield 30, 3) := by decide +kernel
theorem dX1_addItem_33 : decode cX1_addItem 33 = .ok (.iload_n 2, 1) := by decide +kernel
theorem dX1_addItem_34 : decode cX1_addItem 34 = .ok (.iaload, 1) := by decide +kernel
theorem dX1_addItem_35 : decode cX1_addItem 35 = .ok (.iadd, 1) := by decide +kernel
theorem dX1_addItem_36 : decode cX1_addItem 36 = .ok (.iload_n 1, 1) := by decide +kernel
theorem dX1_addItem_37 : decode cX1_addItem 37 = .ok (.iastore, 1) := by decide +kernel
theorem dX1_addItem_38 : decode cX1_addItem 38 = .ok (.aload_n 0, 1) := by decide +kernel
theorem dX1_addItem_39 : decode cX1_addItem 39 = .ok (.getfield 30, 3) := by decide +kernel
theorem dX1_addItem_42 : decode cX1_addItem 42 = .ok (.iload_n 2, 1) := by decide +kernel
theorem dX1_addItem_43 : decode cX1_addItem 43 = .ok (.dup2, 1) := by decide +kernel
theorem dX1_addItem_44 : decode cX1_addItem 44 = .ok (.iaload, 1) := by decide +kernel
theorem dX1_addItem_45 : decode cX1_addItem 45 = .ok (.iconst 1, 1) := by decide +kernel
theorem dX1_addItem_46 : decode cX1_addItem 46 = .ok (.iadd, 1) := by decide +kernel
theorem dX1_addItem_47 : decode cX1_addItem 47 = .ok (.iastore, 1) := by decide +kernel
theorem dX1_addItem_48 : decode cX1_addItem 48 = .ok (.return_, 1) := by decide +kernel
theorem dX1_placeOf_0 : decode cX1_placeOf 0 = .ok (.iconst 0, 1) := by decide +kernel
theorem dX1_placeOf_1 : decode cX1_placeOf 1 = .ok (.istore_n 2, 1) := by decide +kernel
theorem dX1_placeOf_2 : decode cX1_placeOf 2 = .ok (.iload_n 2, 1) := by decide +kernel
theorem dX1_placeOf_3 : decode cX1_placeOf 3 = .ok (.aload_n 0, 1) := by decide +kernel
theorem dX1_placeOf_4 : decode cX1_placeOf 4 = .ok (.getfield 49, 3) := by decide +kernel
theorem dX1_placeOf_7 : decode cX1_placeOf 7 = .ok (.if_icmp .ge 21, 3) := by decide +kernel
theorem dX1_placeOf_10 : decode cX1_placeOf 10 = .ok (.aload_n 0, 1) := by decide +kernel
theorem dX1_placeOf_11 : decode cX1_placeOf 11 = .ok (.getfield 21, 3) := by decide +kernel
theorem dX1_placeOf_14 : decode cX1_placeOf 14 = .ok (.iload_n 2, 1) := by decide +kernel
theorem dX1_placeOf_15 : decode cX1_placeOf 15 = .ok (.iaload, 1) := by decide +kernel
theorem dX1_placeOf_16 : decode cX1_placeOf 16 = .ok (.iload_n 1, 1) := by decide +kernel
theorem dX1_placeOf_17 : decode cX1_placeOf 17 = .ok (.if_icmp .ne 5, 3) := by decide +kernel
theorem dX1_placeOf_20 : decode cX1_placeOf 20 = .ok (.iload_n 2, 1) := by decide +kernel
theorem dX1_placeOf_21 : decode cX1_placeOf 21 = .ok (.ireturn, 1) := by decide +kernel
theorem dX1_placeOf_22 : decode cX1_placeOf 22 = .ok (.iinc 2 1, 3) := by decide +kernel
theorem dX1_placeOf_25 : decode cX1_placeOf 25 = .ok (.goto (-23), 3) := by decide +kernel
theorem dX1_placeOf_28 : decode cX1_placeOf 28 = .ok (.iconst (-1), 1) := by decide +kernel
theorem dX1_placeOf_29 : decode cX1_placeOf 29 = .ok (.ireturn, 1) := by decide +kernel
theorem dX1_setOf_0 : decode cX1_setOf 0 = .ok (.aload_n 0, 1) := by decide +kernel
theorem dX1_setOf_1 : decode cX1_setOf 1 = .ok (.iload_n 1, 1) := by decide +kernel
theorem dX1_setOf_2 : decode cX1_setOf 2 = .ok (.invokevirtual 55, 3) := by decide +kernel
theorem dX1_setOf_5 : decode cX1_setOf 5 = .ok (.istore_n 2, 1) := by decide +kernel
theorem dX1_setOf_6 : decode cX1_setOf 6 = .ok (.iload_n 2, 1) := by decide +kernel
theorem dX1_setOf_7 : decode cX1_setOf 7 = .ok (.ifCond .ge 7, 3) := by decide +kernel
theorem dX1_setOf_10 : decode cX1_setOf 10 = .ok (.iconst 0, 1) := by decide +kernel
theorem dX1_setOf_11 : decode cX1_setOf 11 = .ok (.goto 6, 3) := by decide +kernel
theorem dX1_setOf_14 : decode cX1_setOf 14 = .ok (.iconst 1, 1) := by decide +kernel
theorem dX1_setOf_15 : decode cX1_setOf 15 = .ok (.iload_n 2, 1) := by decide +kernel
theorem dX1_setOf_16 : decode cX1_setOf 16 = .ok (.ishl, 1) := by decide +kernel
theorem dX1_setOf_17 : decode cX1_setOf 17 = .ok (.ireturn, 1) := by decide +kernel
theorem dX1_bidOfBidderIn_0 : decode cX1_bidOfBidderIn 0 = .ok (.iconst 0, 1) := by decide +kernel
theorem dX1_bidOfBidderIn_1 : decode cX1_bidOfBidderIn 1 = .ok (.istore_n 3, 1) := by decide +kernel
theorem dX1_bidOfBidderIn_2 : decode cX1_bidOfBidderIn 2 = .ok (.iload_n 3, 1) := by decide +kernel
theorem dX1_bidOfBidderIn_3 : decode cX1_bidOfBidderIn 3 = .ok (.aload_n 0, 1) := by decide +kernel
theorem dX1_bidOfBidderIn_4 : decode cX1_bidOfBidderIn 4 = .ok (.getfield 49, 3) := by decide +kernel
theorem dX1_bidOfBidderIn_7 : decode cX1_bidOfBidderIn 7 = .ok (.if_icmp .ge 34, 3) := by decide +kernel
theorem dX1_bidOfBidderIn_10 : decode cX1_bidOfBidderIn 10 = .ok (.iload_n 1, 1) := by decide +kernel
theorem dX1_bidOfBidderIn_11 : decode cX1_bidOfBidderIn 11 = .ok (.iconst 1, 1) := by decide +kernel
theorem dX1_bidOfBidderIn_12 : decode cX1_bidOfBidderIn 12 = .ok (.iload_n 3, 1) := by decide +kernel
theorem dX1_bidOfBidderIn_13 : decode cX1_bidOfBidderIn 13 = .ok (.ishl, 1) := by decide +kernel
theorem dX1_bidOfBidderIn_14 : decode cX1_bidOfBidderIn 14 = .ok (.iand, 1) := by decide +kernel
theorem dX1_bidOfBidderIn_15 : decode cX1_bidOfBidderIn 15 = .ok (.ifCond .eq 20, 3) := by decide +kernel
theorem dX1_bidOfBidderIn_18 : decode cX1_bidOfBidderIn 18 = .ok (.aload_n 0, 1) := by decide +kernel
theorem dX1_bidOfBidderIn_19 : decode cX1_bidOfBidderIn 19 = .ok (.getfield 24, 3) := by decide +kernel
theorem dX1_bidOfBidderIn_22 : decode cX1_bidOfBidderIn 22 = .ok (.iload_n 3, 1) := by decide +kernel
theorem dX1_bidOfBidderIn_23 : decode cX1_bidOfBidderIn 23 = .ok (.iaload, 1) := by decide +kernel
theorem dX1_bidOfBidderIn_24 : decode cX1_bidOfBidderIn 24 = .ok (.iload_n 2, 1) := by decide +kernel
theorem dX1_bidOfBidderIn_25 : decode cX1_bidOfBidderIn 25 = .ok (.if_icmp .ne 10, 3) := by decide +kernel
theorem dX1_bidOfBidderIn_28 : decode cX1_bidOfBidderIn 28 = .ok (.aload_n 0, 1) := by decide +kernel
theorem dX1_bidOfBidderIn_29 : decode cX1_bidOfBidderIn 29 = .ok (.getfield 21, 3) := by decide +kernel
theorem dX1_bidOfBidderIn_32 : decode cX1_bidOfBidderIn 32 = .ok (.iload_n 3, 1) := by decide +kernel
theorem dX1_bidOfBidderIn_33 : decode cX1_bidOfBidderIn 33 = .ok (.iaload, 1) := by decide +kernel
theorem dX1_bidOfBidderIn_34 : decode cX1_bidOfBidderIn 34 = .ok (.ireturn, 1) := by decide +kernel
theorem dX1_bidOfBidderIn_35 : decode cX1_bidOfBidderIn 35 = .ok (.iinc 3 1, 3) := by decide +kernel
theorem dX1_bidOfBidderIn_38 : decode cX1_bidOfBidderIn 38 = .ok (.goto (-36), 3) := by decide +kernel
theorem dX1_bidOfBidderIn_41 : decode cX1_bidOfBidderIn 41 = .ok (.iconst (-1), 1) := by decide +kernel
theorem dX1_bidOfBidderIn_42 : decode cX1_bidOfBidderIn 42 = .ok (.ireturn, 1) := by decide +kernel
theorem dX1_hasOneBidPerBidder_0 : decode cX1_hasOneBidPerBidder 0 = .ok (.iconst 0, 1) := by decide +kernel
theorem dX1_hasOneBidPerBidder_1 : decode cX1_hasOneBidPerBidder 1 = .ok (.istore_n 2, 1) := by decide +kernel
theorem dX1_hasOneBidPerBidder_2 : decode cX1_hasOneBidPerBidder 2 = .ok (.iconst 0, 1) := by decide +kernel
theorem dX1_hasOneBidPerBidder_3 : decode cX1_hasOneBidPerBidder 3 = .ok (.istore_n 3, 1) := by decide +kernel
theorem dX1_hasOneBidPerBidder_4 : decode cX1_hasOneBidPerBidder 4 = .ok (.iload_n 3, 1) := by decide +kernel
theorem dX1_hasOneBidPerBidder_5 : decode cX1_hasOneBidPerBidder 5 = .ok (.aload_n 0, 1) := by decide +kernel
theorem dX1_hasOneBidPerBidder_6 : decode cX1_hasOneBidPerBidder 6 = .ok (.getfield 49, 3) := by decide +kernel
theorem dX1_hasOneBidPerBidder_9 : decode cX1_hasOneBidPerBidder 9 = .ok (.if_icmp .ge 41, 3) := by decide +kernel
theorem dX1_hasOneBidPerBidder_12 : decode cX1_hasOneBidPerBidder 12 = .ok (.iload_n 1, 1) := by decide +kernel
theorem dX1_hasOneBidPerBidder_13 : decode cX1_hasOneBidPerBidder 13 = .ok (.iconst 1, 1) := by decide +kernel
theorem dX1_hasOneBidPerBidder_14 : decode cX1_hasOneBidPerBidder 14 = .ok (.iload_n 3, 1) := by decide +kernel
theorem dX1_hasOneBidPerBidder_15 : decode cX1_hasOneBidPerBidder 15 = .ok (.ishl, 1) := by decide +kernel
theorem dX1_hasOneBidPerBidder_16 : decode cX1_hasOneBidPerBidder 16 = .ok (.iand, 1) := by decide +kernel
theorem dX1_hasOneBidPerBidder_17 : decode cX1_hasOneBidPerBidder 17 = .ok (.ifCond .eq 27, 3) := by decide +kernel
theorem dX1_hasOneBidPerBidder_20 : decode cX1_hasOneBidPerBidder 20 = .ok (.iconst 1, 1) := by decide +kernel
theorem dX1_hasOneBidPerBidder_21 : decode cX1_hasOneBidPerBidder 21 = .ok (.aload_n 0, 1) := by decide +kernel
theorem dX1_hasOneBidPerBidder_22 : decode cX1_hasOneBidPerBidder 22 = .ok (.getfield 24, 3) := by decide +kernel
theorem dX1_hasOneBidPerBidder_25 : decode cX1_hasOneBidPerBidder 25 = .ok (.iload_n 3, 1) := by decide +kernel
theorem dX1_hasOneBidPerBidder_26 : decode cX1_hasOneBidPerBidder 26 = .ok (.iaload, 1) := by decide +kernel
theorem dX1_hasOneBidPerBidder_27 : decode cX1_hasOneBidPerBidder 27 = .ok (.ishl, 1) := by decide +kernel
theorem dX1_hasOneBidPerBidder_28 : decode cX1_hasOneBidPerBidder 28 = .ok (.istore 4, 2) := by decide +kernel
theorem dX1_hasOneBidPerBidder_30 : decode cX1_hasOneBidPerBidder 30 = .ok (.iload_n 2, 1) := by decide +kernel
theorem dX1_hasOneBidPerBidder_31 : decode cX1_hasOneBidPerBidder 31 = .ok (.iload 4, 2) := by decide +kernel
theorem dX1_hasOneBidPerBidder_33 : decode cX1_hasOneBidPerBidder 33 = .ok (.iand, 1) := by decide +kernel
theorem dX1_hasOneBidPerBidder_34 : decode cX1_hasOneBidPerBidder 34 = .ok (.ifCond .eq 5, 3) := by decide +kernel
theorem dX1_hasOneBidPerBidder_37 : decode cX1_hasOneBidPerBidder 37 = .ok (.iconst 0, 1) := by decide +kernel
theorem dX1_hasOneBidPerBidder_38 : decode cX1_hasOneBidPerBidder 38 = .ok (.ireturn, 1) := by decide +kernel
theorem dX1_hasOneBidPerBidder_39 : decode cX1_hasOneBidPerBidder 39 = .ok (.iload_n 2, 1) := by decide +kernel
theorem dX1_hasOneBidPerBidder_40 : decode cX1_hasOneBidPerBidder 40 = .ok (.iload 4, 2) := by decide +kernel
theorem dX1_hasOneBidPerBidder_42 : decode cX1_hasOneBidPerBidder 42 = .ok (.ior, 1) := by decide +kernel
theorem dX1_hasOneBidPerBidder_43 : decode cX1_hasOneBidPerBidder 43 = .ok (.istore_n 2, 1) := by decide +kernel
theorem dX1_hasOneBidPerBidder_44 : decode cX1_hasOneBidPerBidder 44 = .ok (.iinc 3 1, 3) := by decide +kernel
theorem dX1_hasOneBidPerBidder_47 : decode cX1_hasOneBidPerBidder 47 = .ok (.goto (-43), 3) := by decide +kernel
theorem dX1_hasOneBidPerBidder_50 : decode cX1_hasOneBidPerBidder 50 = .ok (.iconst 1, 1) := by decide +kernel
theorem dX1_hasOneBidPerBidder_51 : decode cX1_hasOneBidPerBidder 51 = .ok (.ireturn, 1) := by decide +kernel
theorem dX1_priceSum_0 : decode cX1_priceSum 0 = .ok (.iconst 0, 1) := by decide +kernel
theorem dX1_priceSum_1 : decode cX1_priceSum 1 = .ok (.istore_n 2, 1) := by decide +kernel
theorem dX1_priceSum_2 : decode cX1_priceSum 2 = .ok (.iconst 0, 1) := by decide +kernel
theorem dX1_priceSum_3 : decode cX1_priceSum 3 = .ok (.istore_n 3, 1) := by decide +kernel
theorem dX1_priceSum_4 : decode cX1_priceSum 4 = .ok (.iload_n 3, 1) := by decide +kernel
theorem dX1_priceSum_5 : decode cX1_priceSum 5 = .ok (.aload_n 0, 1) := by decide +kernel
theorem dX1_priceSum_6 : decode cX1_priceSum 6 = .ok (.getfield 49, 3) := by decide +kernel
theorem dX1_priceSum_9 : decode cX1_priceSum 9 = .ok (.if_icmp .ge 26, 3) := by decide +kernel
theorem dX1_priceSum_12 : decode cX1_priceSum 12 = .ok (.iload_n 1, 1) := by decide +kernel
theorem dX1_priceSum_13 : decode cX1_priceSum 13 = .ok (.iconst 1, 1) := by decide +kernel
theorem dX1_priceSum_14 : decode cX1_priceSum 14 = .ok (.iload_n 3, 1) := by decide +kernel
theorem dX1_priceSum_15 : decode cX1_priceSum 15 = .ok (.ishl, 1) := by decide +kernel
theorem dX1_priceSum_16 : decode cX1_priceSum 16 = .ok (.iand, 1) := by decide +kernel
theorem dX1_priceSum_17 : decode cX1_priceSum 17 = .ok (.ifCond .eq 12, 3) := by decide +kernel
theorem dX1_priceSum_20 : decode cX1_priceSum 20 = .ok (.iload_n 2, 1) := by decide +kernel
theorem dX1_priceSum_21 : decode cX1_priceSum 21 = .ok (.aload_n 0, 1) := by decide +kernel
theorem dX1_priceSum_22 : decode cX1_priceSum 22 = .ok (.getfield 27, 3) := by decide +kernel
theorem dX1_priceSum_25 : decode cX1_priceSum 25 = .ok (.iload_n 3, 1) := by decide +kernel
theorem dX1_priceSum_26 : decode cX1_priceSum 26 = .ok (.iaload, 1) := by decide +kernel
theorem dX1_priceSum_27 : decode cX1_priceSum 27 = .ok (.iadd, 1) := by decide +kernel
theorem dX1_priceSum_28 : decode cX1_priceSum 28 = .ok (.istore_n 2, 1) := by decide +kernel
theorem dX1_priceSum_29 : decode cX1_priceSum 29 = .ok (.iinc 3 1, 3) := by decide +kernel
theorem dX1_priceSum_32 : decode cX1_priceSum 32 = .ok (.goto (-28), 3) := by decide +kernel
theorem dX1_priceSum_35 : decode cX1_priceSum 35 = .ok (.iload_n 2, 1) := by decide +kernel
theorem dX1_priceSum_36 : decode cX1_priceSum 36 = .ok (.ireturn, 1) := by decide +kernel
theorem dX1_leastCost_0 : decode cX1_leastCost 0 = .ok (.aload_n 0, 1) := by decide +kernel
theorem dX1_leastCost_1 : decode cX1_leastCost 1 = .ok (.iload_n 1, 1) := by decide +kernel
theorem dX1_leastCost_2 : decode cX1_leastCost 2 = .ok (.invokevirtual 59, 3) := by decide +kernel
theorem dX1_leastCost_5 : decode cX1_leastCost 5 = .ok (.ifCond .eq 11, 3) := by decide +kernel
theorem dX1_leastCost_8 : decode cX1_leastCost 8 = .ok (.aload_n 0, 1) := by decide +kernel
theorem dX1_leastCost_9 : decode cX1_leastCost 9 = .ok (.iload_n 1, 1) := by decide +kernel
theorem dX1_leastCost_10 : decode cX1_leastCost 10 = .ok (.invokevirtual 63, 3) := by decide +kernel
theorem dX1_leastCost_13 : decode cX1_leastCost 13 = .ok (.ifCond .ne 5, 3) := by decide +kernel
theorem dX1_leastCost_16 : decode cX1_leastCost 16 = .ok (.iconst (-1), 1) := by decide +kernel
theorem dX1_leastCost_17 : decode cX1_leastCost 17 = .ok (.ireturn, 1) := by decide +kernel
theorem dX1_leastCost_18 : decode cX1_leastCost 18 = .ok (.iconst 1, 1) := by decide +kernel
theorem dX1_leastCost_19 : decode cX1_leastCost 19 = .ok (.aload_n 0, 1) := by decide +kernel
theorem dX1_leastCost_20 : decode cX1_leastCost 20 = .ok (.getfield 45, 3) := by decide +kernel
theorem dX1_leastCost_23 : decode cX1_leastCost 23 = .ok (.ishl, 1) := by decide +kernel
theorem dX1_leastCost_24 : decode cX1_leastCost 24 = .ok (.iconst 1, 1) := by decide +kernel
theorem dX1_leastCost_25 : decode cX1_leastCost 25 = .ok (.isub, 1) := by decide +kernel
theorem dX1_leastCost_26 : decode cX1_leastCost 26 = .ok (.istore_n 2, 1) := by decide +kernel
theorem dX1_leastCost_27 : decode cX1_leastCost 27 = .ok (.iload_n 2, 1) := by decide +kernel
theorem dX1_leastCost_28 : decode cX1_leastCost 28 = .ok (.ifCond .lt 20, 3) := by decide +kernel
theorem dX1_leastCost_31 : decode cX1_leastCost 31 = .ok (.aload_n 0, 1) := by decide +kernel
theorem dX1_leastCost_32 : decode cX1_leastCost 32 = .ok (.getfield 39, 3) := by decide +kernel
theorem dX1_leastCost_35 : decode cX1_leastCost 35 = .ok (.iload_n 2, 1) := by decide +kernel
theorem dX1_leastCost_36 : decode cX1_leastCost 36 = .ok (.aload_n 0, 1) := by decide +kernel
theorem dX1_leastCost_37 : decode cX1_leastCost 37 = .ok (.iload_n 2, 1) := by decide +kernel
theorem dX1_leastCost_38 : decode cX1_leastCost 38 = .ok (.invokevirtual 66, 3) := by decide +kernel
theorem dX1_leastCost_41 : decode cX1_leastCost 41 = .ok (.iastore, 1) := by decide +kernel
theorem dX1_leastCost_42 : decode cX1_leastCost 42 = .ok (.iinc 2 (-1), 3) := by decide +kernel
theorem dX1_leastCost_45 : decode cX1_leastCost 45 = .ok (.goto (-18), 3) := by decide +kernel
theorem dX1_leastCost_48 : decode cX1_leastCost 48 = .ok (.aload_n 0, 1) := by decide +kernel
theorem dX1_leastCost_49 : decode cX1_leastCost 49 = .ok (.getfield 39, 3) := by decide +kernel
theorem dX1_leastCost_52 : decode cX1_leastCost 52 = .ok (.iconst 0, 1) := by decide +kernel
theorem dX1_leastCost_53 : decode cX1_leastCost 53 = .ok (.iaload, 1) := by decide +kernel
theorem dX1_leastCost_54 : decode cX1_leastCost 54 = .ok (.ldc 69, 2) := by decide +kernel
theorem dX1_leastCost_56 : decode cX1_leastCost 56 = .ok (.if_icmp .ge 12, 3) := by decide +kernel
theorem dX1_leastCost_59 : decode cX1_leastCost 59 = .ok (.aload_n 0, 1) := by decide +kernel
theorem dX1_leastCost_60 : decode cX1_leastCost 60 = .ok (.getfield 39, 3) := by decide +kernel
theorem dX1_leastCost_63 : decode cX1_leastCost 63 = .ok (.iconst 0, 1) := by decide +kernel
theorem dX1_leastCost_64 : decode cX1_leastCost 64 = .ok (.iaload, 1) := by decide +kernel
theorem dX1_leastCost_65 : decode cX1_leastCost 65 = .ok (.goto 4, 3) := by decide +kernel
theorem dX1_leastCost_68 : decode cX1_leastCost 68 = .ok (.iconst (-1), 1) := by decide +kernel
theorem dX1_leastCost_69 : decode cX1_leastCost 69 = .ok (.ireturn, 1) := by decide +kernel
theorem dX1_queueItems_0 : decode cX1_queueItems 0 = .ok (.aload_n 0, 1) := by decide +kernel
theorem dX1_queueItems_1 : decode cX1_queueItems 1 = .ok (.iconst 0, 1) := by decide +kernel
theorem dX1_queueItems_2 : decode cX1_queueItems 2 = .ok (.putfield 52, 3) := by decide +kernel
theorem dX1_queueItems_5 : decode cX1_queueItems 5 = .ok (.iconst 0, 1) := by decide +kernel
theorem dX1_queueItems_6 : decode cX1_queueItems 6 = .ok (.istore_n 2, 1) := by decide +kernel
theorem dX1_queueItems_7 : decode cX1_queueItems 7 = .ok (.iload_n 2, 1) := by decide +kernel
theorem dX1_queueItems_8 : decode cX1_queueItems 8 = .ok (.aload_n 0, 1) := by decide +kernel
theorem dX1_queueItems_9 : decode cX1_queueItems 9 = .ok (.getfield 49, 3) := by decide +kernel
theorem dX1_queueItems_12 : decode cX1_queueItems 12 = .ok (.if_icmp .ge 88, 3) := by decide +kernel
theorem dX1_queueItems_15 : decode cX1_queueItems 15 = .ok (.iload_n 1, 1) := by decide +kernel
theorem dX1_queueItems_16 : decode cX1_queueItems 16 = .ok (.iconst 1, 1) := by decide +kernel
theorem dX1_queueItems_17 : decode cX1_queueItems 17 = .ok (.iload_n 2, 1) := by decide +kernel
theorem dX1_queueItems_18 : decode cX1_queueItems 18 = .ok (.ishl, 1) := by decide +kernel
theorem dX1_queueItems_19 : decode cX1_queueItems 19 = .ok (.iand, 1) := by decide +kernel
theorem dX1_queueItems_20 : decode cX1_queueItems 20 = .ok (.ifCond .eq 74, 3) := by decide +kernel
theorem dX1_queueItems_23 : decode cX1_queueItems 23 = .ok (.aload_n 0, 1) := by decide +kernel
theorem dX1_queueItems_24 : decode cX1_queueItems 24 = .ok (.getfield 30, 3) := by decide +kernel
theorem dX1_queueItems_27 : decode cX1_queueItems 27 = .ok (.iload_n 2, 1) := by decide +kernel
theorem dX1_queueItems_28 : decode cX1_queueItems 28 = .ok (.iaload, 1) := by decide +kernel
theorem dX1_queueItems_29 : decode cX1_queueItems 29 = .ok (.istore_n 3, 1) := by decide +kernel
theorem dX1_queueItems_30 : decode cX1_queueItems 30 = .ok (.iload_n 3, 1) := by decide +kernel
theorem dX1_queueItems_31 : decode cX1_queueItems 31 = .ok (.ifCond .eq 16, 3) := by decide +kernel
theorem dX1_queueItems_34 : decode cX1_queueItems 34 = .ok (.aload_n 0, 1) := by decide +kernel
theorem dX1_queueItems_35 : decode cX1_queueItems 35 = .ok (.getfield 52, 3) := by decide +kernel
theorem dX1_queueItems_38 : decode cX1_queueItems 38 = .ok (.iload_n 3, 1) := by decide +kernel
theorem dX1_queueItems_39 : decode cX1_queueItems 39 = .ok (.iadd, 1) := by decide +kernel
theorem dX1_queueItems_40 : decode cX1_queueItems 40 = .ok (.aload_n 0, 1) := by decide +kernel
theorem dX1_queueItems_41 : decode cX1_queueItems 41 = .ok (.getfield 45, 3) := by decide +kernel
theorem dX1_queueItems_44 : decode cX1_queueItems 44 = .ok (.if_icmp .le 5, 3) := by decide +kernel
theorem dX1_queueItems_47 : decode cX1_queueItems 47 = .ok (.iconst 0, 1) := by decide +kernel
theorem dX1_queueItems_48 : decode cX1_queueItems 48 = .ok (.ireturn, 1) := by decide +kernel
theorem dX1_queueItems_49 : decode cX1_queueItems 49 = .ok (.iconst 0, 1) := by decide +kernel
theorem dX1_queueItems_50 : decode cX1_queueItems 50 = .ok (.istore 4, 2) := by decide +kernel
theorem dX1_queueItems_52 : decode cX1_queueItems 52 = .ok (.iload 4, 2) := by decide +kernel
theorem dX1_queueItems_54 : decode cX1_queueItems 54 = .ok (.iload_n 3, 1) := by decide +kernel
theorem dX1_queueItems_55 : decode cX1_queueItems 55 = .ok (.if_icmp .ge 39, 3) := by decide +kernel
theorem dX1_queueItems_58 : decode cX1_queueItems 58 = .ok (.aload_n 0, 1) := by decide +kernel
theorem dX1_queueItems_59 : decode cX1_queueItems 59 = .ok (.getfield 36, 3) := by decide +kernel
theorem dX1_queueItems_62 : decode cX1_queueItems 62 = .ok (.aload_n 0, 1) := by decide +kernel
theorem dX1_queueItems_63 : decode cX1_queueItems 63 = .ok (.getfield 52, 3) := by decide +kernel
theorem dX1_queueItems_66 : decode cX1_queueItems 66 = .ok (.aload_n 0, 1) := by decide +kernel
theorem dX1_queueItems_67 : decode cX1_queueItems 67 = .ok (.getfield 33, 3) := by decide +kernel
theorem dX1_queueItems_70 : decode cX1_queueItems 70 = .ok (.iload_n 2, 1) := by decide +kernel
theorem dX1_queueItems_71 : decode cX1_queueItems 71 = .ok (.iconst 3, 1) := by decide +kernel
theorem dX1_queueItems_72 : decode cX1_queueItems 72 = .ok (.imul, 1) := by decide +kernel
theorem dX1_queueItems_73 : decode cX1_queueItems 73 = .ok (.iload 4, 2) := by decide +kernel
theorem dX1_queueItems_75 : decode cX1_queueItems 75 = .ok (.iadd, 1) := by decide +kernel
theorem dX1_queueItems_76 : decode cX1_queueItems 76 = .ok (.iaload, 1) := by decide +kernel
theorem dX1_queueItems_77 : decode cX1_queueItems 77 = .ok (.iastore, 1) := by decide +kernel
theorem dX1_queueItems_78 : decode cX1_queueItems 78 = .ok (.aload_n 0, 1) := by decide +kernel
theorem dX1_queueItems_79 : decode cX1_queueItems 79 = .ok (.dup, 1) := by decide +kernel
theorem dX1_queueItems_80 : decode cX1_queueItems 80 = .ok (.getfield 52, 3) := by decide +kernel
theorem dX1_queueItems_83 : decode cX1_queueItems 83 = .ok (.iconst 1, 1) := by decide +kernel
theorem dX1_queueItems_84 : decode cX1_queueItems 84 = .ok (.iadd, 1) := by decide +kernel
theorem dX1_queueItems_85 : decode cX1_queueItems 85 = .ok (.putfield 52, 3) := by decide +kernel
theorem dX1_queueItems_88 : decode cX1_queueItems 88 = .ok (.iinc 4 1, 3) := by decide +kernel
theorem dX1_queueItems_91 : decode cX1_queueItems 91 = .ok (.goto (-39), 3) := by decide +kernel
theorem dX1_queueItems_94 : decode cX1_queueItems 94 = .ok (.iinc 2 1, 3) := by decide +kernel
theorem dX1_queueItems_97 : decode cX1_queueItems 97 = .ok (.goto (-90), 3) := by decide +kernel
theorem dX1_queueItems_100 : decode cX1_queueItems 100 = .ok (.iconst 1, 1) := by decide +kernel
theorem dX1_queueItems_101 : decode cX1_queueItems 101 = .ok (.ireturn, 1) := by decide +kernel
theorem dX1_restCost_0 : decode cX1_restCost 0 = .ok (.iload_n 1, 1) := by decide +kernel
theorem dX1_restCost_1 : decode cX1_restCost 1 = .ok (.invokestatic 70, 3) := by decide +kernel
theorem dX1_restCost_4 : decode cX1_restCost 4 = .ok (.istore_n 2, 1) := by decide +kernel
theorem dX1_restCost_5 : decode cX1_restCost 5 = .ok (.iload_n 2, 1) := by decide +kernel
theorem dX1_restCost_6 : decode cX1_restCost 6 = .ok (.aload_n 0, 1) := by decide +kernel
theorem dX1_restCost_7 : decode cX1_restCost 7 = .ok (.getfield 52, 3) := by decide +kernel
theorem dX1_restCost_10 : decode cX1_restCost 10 = .ok (.if_icmp .lt 5, 3) := by decide +kernel
theorem dX1_restCost_13 : decode cX1_restCost 13 = .ok (.iconst 0, 1) := by decide +kernel
theorem dX1_restCost_14 : decode cX1_restCost 14 = .ok (.ireturn, 1) := by decide +kernel
theorem dX1_restCost_15 : decode cX1_restCost 15 = .ok (.aload_n 0, 1) := by decide +kernel
theorem dX1_restCost_16 : decode cX1_restCost 16 = .ok (.getfield 36, 3) := by decide +kernel
theorem dX1_restCost_19 : decode cX1_restCost 19 = .ok (.iload_n 2, 1) := by decide +kernel
theorem dX1_restCost_20 : decode cX1_restCost 20 = .ok (.iaload, 1) := by decide +kernel
theorem dX1_restCost_21 : decode cX1_restCost 21 = .ok (.iload_n 1, 1) := by decide +kernel
theorem dX1_restCost_22 : decode cX1_restCost 22 = .ok (.iconst (-1), 1) := by decide +kernel
theorem dX1_restCost_23 : decode cX1_restCost 23 = .ok (.ixor, 1) := by decide +kernel
theorem dX1_restCost_24 : decode cX1_restCost 24 = .ok (.iand, 1) := by decide +kernel
theorem dX1_restCost_25 : decode cX1_restCost 25 = .ok (.istore_n 3, 1) := by decide +kernel
theorem dX1_restCost_26 : decode cX1_restCost 26 = .ok (.ldc 69, 2) := by decide +kernel
theorem dX1_restCost_28 : decode cX1_restCost 28 = .ok (.istore 4, 2) := by decide +kernel
theorem dX1_restCost_30 : decode cX1_restCost 30 = .ok (.iconst 0, 1) := by decide +kernel
theorem dX1_restCost_31 : decode cX1_restCost 31 = .ok (.istore 5, 2) := by decide +kernel
theorem dX1_restCost_33 : decode cX1_restCost 33 = .ok (.iload 5, 2) := by decide +kernel
theorem dX1_restCost_35 : decode cX1_restCost 35 = .ok (.aload_n 0, 1) := by decide +kernel
theorem dX1_restCost_36 : decode cX1_restCost 36 = .ok (.getfield 45, 3) := by decide +kernel
theorem dX1_restCost_39 : decode cX1_restCost 39 = .ok (.if_icmp .ge 44, 3) := by decide +kernel
theorem dX1_restCost_42 : decode cX1_restCost 42 = .ok (.iload_n 3, 1) := by decide +kernel
theorem dX1_restCost_43 : decode cX1_restCost 43 = .ok (.iconst 1, 1) := by decide +kernel
theorem dX1_restCost_44 : decode cX1_restCost 44 = .ok (.iload 5, 2) := by decide +kernel
theorem dX1_restCost_46 : decode cX1_restCost 46 = .ok (.ishl, 1) := by decide +kernel
theorem dX1_restCost_47 : decode cX1_restCost 47 = .ok (.iand, 1) := by decide +kernel
theorem dX1_restCost_48 : decode cX1_restCost 48 = .ok (.ifCond .eq 29, 3) := by decide +kernel
theorem dX1_restCost_51 : decode cX1_restCost 51 = .ok (.iload 4, 2) := by decide +kernel
theorem dX1_restCost_53 : decode cX1_restCost 53 = .ok (.aload_n 0, 1) := by decide +kernel
theorem dX1_restCost_54 : decode cX1_restCost 54 = .ok (.getfield 15, 3) := by decide +kernel
theorem dX1_restCost_57 : decode cX1_restCost 57 = .ok (.iload 5, 2) := by decide +kernel
theorem dX1_restCost_59 : decode cX1_restCost 59 = .ok (.iaload, 1) := by decide +kernel
theorem dX1_restCost_60 : decode cX1_restCost 60 = .ok (.aload_n 0, 1) := by decide +kernel
theorem dX1_restCost_61 : decode cX1_restCost 61 = .ok (.getfield 39, 3) := by decide +kernel
theorem dX1_restCost_64 : decode cX1_restCost 64 = .ok (.iload_n 1, 1) := by decide +kernel
theorem dX1_restCost_65 : decode cX1_restCost 65 = .ok (.iconst 1, 1) := by decide +kernel
theorem dX1_restCost_66 : decode cX1_restCost 66 = .ok (.iload 5, 2) := by decide +kernel
theorem dX1_restCost_68 : decode cX1_restCost 68 = .ok (.ishl, 1) := by decide +kernel
theorem dX1_restCost_69 : decode cX1_restCost 69 = .ok (.ior, 1) := by decide +kernel
theorem dX1_restCost_70 : decode cX1_restCost 70 = .ok (.iaload, 1) := by decide +kernel
theorem dX1_restCost_71 : decode cX1_restCost 71 = .ok (.iadd, 1) := by decide +kernel
theorem dX1_restCost_72 : decode cX1_restCost 72 = .ok (.invokestatic 75, 3) := by decide +kernel
theorem dX1_restCost_75 : decode cX1_restCost 75 = .ok (.istore 4, 2) := by decide +kernel
theorem dX1_restCost_77 : decode cX1_restCost 77 = .ok (.iinc 5 1, 3) := by decide +kernel
theorem dX1_restCost_80 : decode cX1_restCost 80 = .ok (.goto (-47), 3) := by decide +kernel
theorem dX1_restCost_83 : decode cX1_restCost 83 = .ok (.iload 4, 2) := by decide +kernel
theorem dX1_restCost_85 : decode cX1_restCost 85 = .ok (.ireturn, 1) := by decide +kernel
theorem dX1_giveLots_0 : decode cX1_giveLots 0 = .ok (.aload_n 0, 1) := by decide +kernel
theorem dX1_giveLots_1 : decode cX1_giveLots 1 = .ok (.iload_n 1, 1) := by decide +kernel
theorem dX1_giveLots_2 : decode cX1_giveLots 2 = .ok (.invokevirtual 81, 3) := by decide +kernel
theorem dX1_giveLots_5 : decode cX1_giveLots 5 = .ok (.iconst (-1), 1) := by decide +kernel
theorem dX1_giveLots_6 : decode cX1_giveLots 6 = .ok (.if_icmp .ne 9, 3) := by decide +kernel
theorem dX1_giveLots_9 : decode cX1_giveLots 9 = .ok (.aload_n 0, 1) := by decide +kernel
theorem dX1_giveLots_10 : decode cX1_giveLots 10 = .ok (.iconst 0, 1) := by decide +kernel
theorem dX1_giveLots_11 : decode cX1_giveLots 11 = .ok (.putfield 52, 3) := by decide +kernel
theorem dX1_giveLots_14 : decode cX1_giveLots 14 = .ok (.return_, 1) := by decide +kernel
theorem dX1_giveLots_15 : decode cX1_giveLots 15 = .ok (.iconst 0, 1) := by decide +kernel
theorem dX1_giveLots_16 : decode cX1_giveLots 16 = .ok (.istore_n 2, 1) := by decide +kernel
theorem dX1_giveLots_17 : decode cX1_giveLots 17 = .ok (.iconst 0, 1) := by decide +kernel
theorem dX1_giveLots_18 : decode cX1_giveLots 18 = .ok (.istore_n 3, 1) := by decide +kernel
theorem dX1_giveLots_19 : decode cX1_giveLots 19 = .ok (.iload_n 3, 1) := by decide +kernel
theorem dX1_giveLots_20 : decode cX1_giveLots 20 = .ok (.aload_n 0, 1) := by decide +kernel
theorem dX1_giveLots_21 : decode cX1_giveLots 21 = .ok (.getfield 52, 3) := by decide +kernel
theorem dX1_giveLots_24 : decode cX1_giveLots 24 = .ok (.if_icmp .ge 46, 3) := by decide +kernel
theorem dX1_giveLots_27 : decode cX1_giveLots 27 = .ok (.aload_n 0, 1) := by decide +kernel
theorem dX1_giveLots_28 : decode cX1_giveLots 28 = .ok (.aload_n 0, 1) := by decide +kernel
theorem dX1_giveLots_29 : decode cX1_giveLots 29 = .ok (.getfield 36, 3) := by decide +kernel
theorem dX1_giveLots_32 : decode cX1_giveLots 32 = .ok (.iload_n 3, 1) := by decide +kernel
theorem dX1_giveLots_33 : decode cX1_giveLots 33 = .ok (.iaload, 1) := by decide +kernel
theorem dX1_giveLots_34 : decode cX1_giveLots 34 = .ok (.iload_n 2, 1) := by decide +kernel
theorem dX1_giveLots_35 : decode cX1_giveLots 35 = .ok (.iconst (-1), 1) := by decide +kernel
theorem dX1_giveLots_36 : decode cX1_giveLots 36 = .ok (.ixor, 1) := by decide +kernel
theorem dX1_giveLots_37 : decode cX1_giveLots 37 = .ok (.iand, 1) := by decide +kernel
theorem dX1_giveLots_38 : decode cX1_giveLots 38 = .ok (.iload_n 2, 1) := by decide +kernel
theorem dX1_giveLots_39 : decode cX1_giveLots 39 = .ok (.invokevirtual 84, 3) := by decide +kernel
theorem dX1_giveLots_42 : decode cX1_giveLots 42 = .ok (.istore 4, 2) := by decide +kernel
theorem dX1_giveLots_44 : decode cX1_giveLots 44 = .ok (.aload_n 0, 1) := by decide +kernel
theorem dX1_giveLots_45 : decode cX1_giveLots 45 = .ok (.getfield 42, 3) := by decide +kernel
theorem dX1_giveLots_48 : decode cX1_giveLots 48 = .ok (.iload_n 3, 1) := by decide +kernel
theorem dX1_giveLots_49 : decode cX1_giveLots 49 = .ok (.iload 4, 2) := by decide +kernel
theorem dX1_giveLots_51 : decode cX1_giveLots 51 = .ok (.iastore, 1) := by decide +kernel
theorem dX1_giveLots_52 : decode cX1_giveLots 52 = .ok (.iload 4, 2) := by decide +kernel
theorem dX1_giveLots_54 : decode cX1_giveLots 54 = .ok (.ifCond .lt 10, 3) := by decide +kernel
theorem dX1_giveLots_57 : decode cX1_giveLots 57 = .ok (.iload_n 2, 1) := by decide +kernel
theorem dX1_giveLots_58 : decode cX1_giveLots 58 = .ok (.iconst 1, 1) := by decide +kernel
theorem dX1_giveLots_59 : decode cX1_giveLots 59 = .ok (.iload 4, 2) := by decide +kernel
theorem dX1_giveLots_61 : decode cX1_giveLots 61 = .ok (.ishl, 1) := by decide +kernel
theorem dX1_giveLots_62 : decode cX1_giveLots 62 = .ok (.ior, 1) := by decide +kernel
theorem dX1_giveLots_63 : decode cX1_giveLots 63 = .ok (.istore_n 2, 1) := by decide +kernel
theorem dX1_giveLots_64 : decode cX1_giveLots 64 = .ok (.iinc 3 1, 3) := by decide +kernel
theorem dX1_giveLots_67 : decode cX1_giveLots 67 = .ok (.goto (-48), 3) := by decide +kernel
theorem dX1_giveLots_70 : decode cX1_giveLots 70 = .ok (.return_, 1) := by decide +kernel
theorem dX1_firstCheapest_0 : decode cX1_firstCheapest 0 = .ok (.iconst 0, 1) := by decide +kernel
theorem dX1_firstCheapest_1 : decode cX1_firstCheapest 1 = .ok (.istore_n 3, 1) := by decide +kernel
theorem dX1_firstCheapest_2 : decode cX1_firstCheapest 2 = .ok (.iload_n 3, 1) := by decide +kernel
theorem dX1_firstCheapest_3 : decode cX1_firstCheapest 3 = .ok (.aload_n 0, 1) := by decide +kernel
theorem dX1_firstCheapest_4 : decode cX1_firstCheapest 4 = .ok (.getfield 45, 3) := by decide +kernel
theorem dX1_firstCheapest_7 : decode cX1_firstCheapest 7 = .ok (.if_icmp .ge 45, 3) := by decide +kernel
theorem dX1_firstCheapest_10 : decode cX1_firstCheapest 10 = .ok (.iload_n 1, 1) := by decide +kernel
theorem dX1_firstCheapest_11 : decode cX1_firstCheapest 11 = .ok (.iconst 1, 1) := by decide +kernel
theorem dX1_firstCheapest_12 : decode cX1_firstCheapest 12 = .ok (.iload_n 3, 1) := by decide +kernel
theorem dX1_firstCheapest_13 : decode cX1_firstCheapest 13 = .ok (.ishl, 1) := by decide +kernel
theorem dX1_firstCheapest_14 : decode cX1_firstCheapest 14 = .ok (.iand, 1) := by decide +kernel
theorem dX1_firstCheapest_15 : decode cX1_firstCheapest 15 = .ok (.ifCond .eq 31, 3) := by decide +kernel
theorem dX1_firstCheapest_18 : decode cX1_firstCheapest 18 = .ok (.aload_n 0, 1) := by decide +kernel
theorem dX1_firstCheapest_19 : decode cX1_firstCheapest 19 = .ok (.getfield 15, 3) := by decide +kernel
theorem dX1_firstCheapest_22 : decode cX1_firstCheapest 22 = .ok (.iload_n 3, 1) := by decide +kernel
theorem dX1_firstCheapest_23 : decode cX1_firstCheapest 23 = .ok (.iaload, 1) := by decide +kernel
theorem dX1_firstCheapest_24 : decode cX1_firstCheapest 24 = .ok (.aload_n 0, 1) := by decide +kernel
theorem dX1_firstCheapest_25 : decode cX1_firstCheapest 25 = .ok (.getfield 39, 3) := by decide +kernel
theorem dX1_firstCheapest_28 : decode cX1_firstCheapest 28 = .ok (.iload_n 2, 1) := by decide +kernel
theorem dX1_firstCheapest_29 : decode cX1_firstCheapest 29 = .ok (.iconst 1, 1) := by decide +kernel
theorem dX1_firstCheapest_30 : decode cX1_firstCheapest 30 = .ok (.iload_n 3, 1) := by decide +kernel
theorem dX1_firstCheapest_31 : decode cX1_firstCheapest 31 = .ok (.ishl, 1) := by decide +kernel
theorem dX1_firstCheapest_32 : decode cX1_firstCheapest 32 = .ok (.ior, 1) := by decide +kernel
theorem dX1_firstCheapest_33 : decode cX1_firstCheapest 33 = .ok (.iaload, 1) := by decide +kernel
theorem dX1_firstCheapest_34 : decode cX1_firstCheapest 34 = .ok (.iadd, 1) := by decide +kernel
theorem dX1_firstCheapest_35 : decode cX1_firstCheapest 35 = .ok (.aload_n 0, 1) := by decide +kernel
theorem dX1_firstCheapest_36 : decode cX1_firstCheapest 36 = .ok (.getfield 39, 3) := by decide +kernel
theorem dX1_firstCheapest_39 : decode cX1_firstCheapest 39 = .ok (.iload_n 2, 1) := by decide +kernel
theorem dX1_firstCheapest_40 : decode cX1_firstCheapest 40 = .ok (.iaload, 1) := by decide +kernel
theorem dX1_firstCheapest_41 : decode cX1_firstCheapest 41 = .ok (.if_icmp .ne 5, 3) := by decide +kernel
theorem dX1_firstCheapest_44 : decode cX1_firstCheapest 44 = .ok (.iload_n 3, 1) := by decide +kernel
theorem dX1_firstCheapest_45 : decode cX1_firstCheapest 45 = .ok (.ireturn, 1) := by decide +kernel
theorem dX1_firstCheapest_46 : decode cX1_firstCheapest 46 = .ok (.iinc 3 1, 3) := by decide +kernel
theorem dX1_firstCheapest_49 : decode cX1_firstCheapest 49 = .ok (.goto (-47), 3) := by decide +kernel
theorem dX1_firstCheapest_52 : decode cX1_firstCheapest 52 = .ok (.iconst (-1), 1) := by decide +kernel
theorem dX1_firstCheapest_53 : decode cX1_firstCheapest 53 = .ok (.ireturn, 1) := by decide +kernel
theorem dX1_lotGiven_0 : decode cX1_lotGiven 0 = .ok (.iload_n 3, 1) := by decide +kernel
theorem dX1_lotGiven_1 : decode cX1_lotGiven 1 = .ok (.istore 4, 2) := by decide +kernel
theorem dX1_lotGiven_3 : decode cX1_lotGiven 3 = .ok (.iconst 0, 1) := by decide +kernel
theorem dX1_lotGiven_4 : decode cX1_lotGiven 4 = .ok (.istore 5, 2) := by decide +kernel
theorem dX1_lotGiven_6 : decode cX1_lotGiven 6 = .ok (.iload 5, 2) := by decide +kernel
theorem dX1_lotGiven_8 : decode cX1_lotGiven 8 = .ok (.iload_n 2, 1) := by decide +kernel
theorem dX1_lotGiven_9 : decode cX1_lotGiven 9 = .ok (.if_icmp .ge 39, 3) := by decide +kernel
theorem dX1_lotGiven_12 : decode cX1_lotGiven 12 = .ok (.iload 5, 2) := by decide +kernel
theorem dX1_lotGiven_14 : decode cX1_lotGiven 14 = .ok (.aload_n 0, 1) := by decide +kernel
theorem dX1_lotGiven_15 : decode cX1_lotGiven 15 = .ok (.getfield 49, 3) := by decide +kernel
theorem dX1_lotGiven_18 : decode cX1_lotGiven 18 = .ok (.if_icmp .ge 30, 3) := by decide +kernel
theorem dX1_lotGiven_21 : decode cX1_lotGiven 21 = .ok (.iload_n 1, 1) := by decide +kernel
theorem dX1_lotGiven_22 : decode cX1_lotGiven 22 = .ok (.iconst 1, 1) := by decide +kernel
theorem dX1_lotGiven_23 : decode cX1_lotGiven 23 = .ok (.iload 5, 2) := by decide +kernel
theorem dX1_lotGiven_25 : decode cX1_lotGiven 25 = .ok (.ishl, 1) := by decide +kernel
theorem dX1_lotGiven_26 : decode cX1_lotGiven 26 = .ok (.iand, 1) := by decide +kernel
theorem dX1_lotGiven_27 : decode cX1_lotGiven 27 = .ok (.ifCond .eq 15, 3) := by decide +kernel
theorem dX1_lotGiven_30 : decode cX1_lotGiven 30 = .ok (.iload 4, 2) := by decide +kernel
theorem dX1_lotGiven_32 : decode cX1_lotGiven 32 = .ok (.aload_n 0, 1) := by decide +kernel
theorem dX1_lotGiven_33 : decode cX1_lotGiven 33 = .ok (.getfield 30, 3) := by decide +kernel
theorem dX1_lotGiven_36 : decode cX1_lotGiven 36 = .ok (.iload 5, 2) := by decide +kernel
theorem dX1_lotGiven_38 : decode cX1_lotGiven 38 = .ok (.iaload, 1) := by decide +kernel
theorem dX1_lotGiven_39 : decode cX1_lotGiven 39 = .ok (.iadd, 1) := by decide +kernel
theorem dX1_lotGiven_40 : decode cX1_lotGiven 40 = .ok (.istore 4, 2) := by decide +kernel
theorem dX1_lotGiven_42 : decode cX1_lotGiven 42 = .ok (.iinc 5 1, 3) := by decide +kernel
theorem dX1_lotGiven_45 : decode cX1_lotGiven 45 = .ok (.goto (-39), 3) := by decide +kernel
theorem dX1_lotGiven_48 : decode cX1_lotGiven 48 = .ok (.iload 4, 2) := by decide +kernel
theorem dX1_lotGiven_50 : decode cX1_lotGiven 50 = .ok (.ifCond .lt 22, 3) := by decide +kernel
theorem dX1_lotGiven_53 : decode cX1_lotGiven 53 = .ok (.iload 4, 2) := by decide +kernel
theorem dX1_lotGiven_55 : decode cX1_lotGiven 55 = .ok (.aload_n 0, 1) := by decide +kernel
theorem dX1_lotGiven_56 : decode cX1_lotGiven 56 = .ok (.getfield 52, 3) := by decide +kernel
theorem dX1_lotGiven_59 : decode cX1_lotGiven 59 = .ok (.if_icmp .ge 13, 3) := by decide +kernel
theorem dX1_lotGiven_62 : decode cX1_lotGiven 62 = .ok (.aload_n 0, 1) := by decide +kernel
theorem dX1_lotGiven_63 : decode cX1_lotGiven 63 = .ok (.getfield 42, 3) := by decide +kernel
theorem dX1_lotGiven_66 : decode cX1_lotGiven 66 = .ok (.iload 4, 2) := by decide +kernel
theorem dX1_lotGiven_68 : decode cX1_lotGiven 68 = .ok (.iaload, 1) := by decide +kernel
theorem dX1_lotGiven_69 : decode cX1_lotGiven 69 = .ok (.ifCond .ge 5, 3) := by decide +kernel
theorem dX1_lotGiven_72 : decode cX1_lotGiven 72 = .ok (.iconst (-1), 1) := by decide +kernel
theorem dX1_lotGiven_73 : decode cX1_lotGiven 73 = .ok (.ireturn, 1) := by decide +kernel
theorem dX1_lotGiven_74 : decode cX1_lotGiven 74 = .ok (.aload_n 0, 1) := by decide +kernel
theorem dX1_lotGiven_75 : decode cX1_lotGiven 75 = .ok (.getfield 9, 3) := by decide +kernel
theorem dX1_lotGiven_78 : decode cX1_lotGiven 78 = .ok (.aload_n 0, 1) := by decide +kernel
theorem dX1_lotGiven_79 : decode cX1_lotGiven 79 = .ok (.getfield 42, 3) := by decide +kernel
theorem dX1_lotGiven_82 : decode cX1_lotGiven 82 = .ok (.iload 4, 2) := by decide +kernel
theorem dX1_lotGiven_84 : decode cX1_lotGiven 84 = .ok (.iaload, 1) := by decide +kernel
theorem dX1_lotGiven_85 : decode cX1_lotGiven 85 = .ok (.iaload, 1) := by decide +kernel
theorem dX1_lotGiven_86 : decode cX1_lotGiven 86 = .ok (.ireturn, 1) := by decide +kernel
theorem dX2_init_0 : decode cX2_init 0 = .ok (.aload_n 0, 1) := by decide +kernel
theorem dX2_init_1 : decode cX2_init 1 = .ok (.invokespecial 3, 3) := by decide +kernel
theorem dX2_init_4 : decode cX2_init 4 = .ok (.aload_n 0, 1) := by decide +kernel
theorem dX2_init_5 : decode cX2_init 5 = .ok (.iconst (-1), 1) := by decide +kernel
theorem dX2_init_6 : decode cX2_init 6 = .ok (.putfield 9, 3) := by decide +kernel
theorem dX2_init_9 : decode cX2_init 9 = .ok (.aload_n 0, 1) := by decide +kernel
theorem dX2_init_10 : decode cX2_init 10 = .ok (.iload_n 1, 1) := by decide +kernel
theorem dX2_init_11 : decode cX2_init 11 = .ok (.putfield 15, 3) := by decide +kernel
theorem dX2_init_14 : decode cX2_init 14 = .ok (.aload_n 0, 1) := by decide +kernel
theorem dX2_init_15 : decode cX2_init 15 = .ok (.iload_n 2, 1) := by decide +kernel
theorem dX2_init_16 : decode cX2_init 16 = .ok (.putfield 18, 3) := by decide +kernel
theorem dX2_init_19 : decode cX2_init 19 = .ok (.return_, 1) := by decide +kernel
theorem dX3_init_0 : decode cX3_init 0 = .ok (.aload_n 0, 1) := by decide +kernel
theorem dX3_init_1 : decode cX3_init 1 = .ok (.invokespecial 3, 3) := by decide +kernel
theorem dX3_init_4 : decode cX3_init 4 = .ok (.aload_n 0, 1) := by decide +kernel
theorem dX3_init_5 : decode cX3_init 5 = .ok (.bipush 111, 2) := by decide +kernel
theorem dX3_init_7 : decode cX3_init 7 = .ok (.putfield 9, 3) := by decide +kernel
theorem dX3_init_10 : decode cX3_init 10 = .ok (.aload_n 0, 1) := by decide +kernel
theorem dX3_init_11 : decode cX3_init 11 = .ok (.iconst (-1), 1) := by decide +kernel
theorem dX3_init_12 : decode cX3_init 12 = .ok (.putfield 15, 3) := by decide +kernel
theorem dX3_init_15 : decode cX3_init 15 = .ok (.aload_n 0, 1) := by decide +kernel
theorem dX3_init_16 : decode cX3_init 16 = .ok (.iload_n 1, 1) := by decide +kernel
theorem dX3_init_17 : decode cX3_init 17 = .ok (.putfield 19, 3) := by decide +kernel
theorem dX3_init_20 : decode cX3_init 20 = .ok (.aload_n 0, 1) := by decide +kernel
theorem dX3_init_21 : decode cX3_init 21 = .ok (.iload_n 2, 1) := by decide +kernel
theorem dX3_init_22 : decode cX3_init 22 = .ok (.putfield 22, 3) := by decide +kernel
theorem dX3_init_25 : decode cX3_init 25 = .ok (.aload_n 0, 1) := by decide +kernel
theorem dX3_init_26 : decode cX3_init 26 = .ok (.iload_n 3, 1) := by decide +kernel
theorem dX3_init_27 : decode cX3_init 27 = .ok (.putfield 25, 3) := by decide +kernel
theorem dX3_init_30 : decode cX3_init 30 = .ok (.return_, 1) := by decide +kernel
theorem dX4_init_0 : decode cX4_init 0 = .ok (.aload_n 0, 1) := by decide +kernel
theorem dX4_init_1 : decode cX4_init 1 = .ok (.invokespecial 1, 3) := by decide +kernel
theorem dX4_init_4 : decode cX4_init 4 = .ok (.aload_n 0, 1) := by decide +kernel
theorem dX4_init_5 : decode cX4_init 5 = .ok (.iload_n 1, 1) := by decide +kernel
theorem dX4_init_6 : decode cX4_init 6 = .ok (.putfield 7, 3) := by decide +kernel
theorem dX4_init_9 : decode cX4_init 9 = .ok (.aload_n 0, 1) := by decide +kernel
theorem dX4_init_10 : decode cX4_init 10 = .ok (.iload_n 2, 1) := by decide +kernel
theorem dX4_init_11 : decode cX4_init 11 = .ok (.putfield 13, 3) := by decide +kernel
theorem dX4_init_14 : decode cX4_init 14 = .ok (.aload_n 0, 1) := by decide +kernel
theorem dX4_init_15 : decode cX4_init 15 = .ok (.iload_n 3, 1) := by decide +kernel
theorem dX4_init_16 : decode cX4_init 16 = .ok (.putfield 16, 3) := by decide +kernel
theorem dX4_init_19 : decode cX4_init 19 = .ok (.return_, 1) := by decide +kernel
theorem dX5_init_0 : decode cX5_init 0 = .ok (.aload_n 0, 1) := by decide +kernel
theorem dX5_init_1 : decode cX5_init 1 = .ok (.invokespecial 3, 3) := by decide +kernel
theorem dX5_init_4 : decode cX5_init 4 = .ok (.aload_n 0, 1) := by decide +kernel
theorem dX5_init_5 : decode cX5_init 5 = .ok (.sipush 256, 3) := by decide +kernel
theorem dX5_init_8 : decode cX5_init 8 = .ok (.newarray .boolean, 2) := by decide +kernel
theorem dX5_init_10 : decode cX5_init 10 = .ok (.putfield 9, 3) := by decide +kernel
theorem dX5_init_13 : decode cX5_init 13 = .ok (.aload_n 0, 1) := by decide +kernel
theorem dX5_init_14 : decode cX5_init 14 = .ok (.bipush 8, 2) := by decide +kernel
theorem dX5_init_16 : decode cX5_init 16 = .ok (.newarray .boolean, 2) := by decide +kernel
theorem dX5_init_18 : decode cX5_init 18 = .ok (.putfield 15, 3) := by decide +kernel
theorem dX5_init_21 : decode cX5_init 21 = .ok (.aload_n 0, 1) := by decide +kernel
theorem dX5_init_22 : decode cX5_init 22 = .ok (.bipush 9, 2) := by decide +kernel
theorem dX5_init_24 : decode cX5_init 24 = .ok (.newarray .int, 2) := by decide +kernel
theorem dX5_init_26 : decode cX5_init 26 = .ok (.putfield 18, 3) := by decide +kernel
theorem dX5_init_29 : decode cX5_init 29 = .ok (.return_, 1) := by decide +kernel
theorem dX5_forgetBest_0 : decode cX5_forgetBest 0 = .ok (.aload_n 0, 1) := by decide +kernel
theorem dX5_forgetBest_1 : decode cX5_forgetBest 1 = .ok (.iconst 0, 1) := by decide +kernel
theorem dX5_forgetBest_2 : decode cX5_forgetBest 2 = .ok (.putfield 22, 3) := by decide +kernel
theorem dX5_forgetBest_5 : decode cX5_forgetBest 5 = .ok (.aload_n 0, 1) := by decide +kernel
theorem dX5_forgetBest_6 : decode cX5_forgetBest 6 = .ok (.iconst (-1), 1) := by decide +kernel
theorem dX5_forgetBest_7 : decode cX5_forgetBest 7 = .ok (.putfield 26, 3) := by decide +kernel
theorem dX5_forgetBest_10 : decode cX5_forgetBest 10 = .ok (.return_, 1) := by decide +kernel
theorem dX5_goThroughSets_0 : decode cX5_goThroughSets 0 = .ok (.aload_n 0, 1) := by decide +kernel
theorem dX5_goThroughSets_1 : decode cX5_goThroughSets 1 = .ok (.invokevirtual 29, 3) := by decide +kernel
theorem dX5_goThroughSets_4 : decode cX5_goThroughSets 4 = .ok (.iconst 0, 1) := by decide +kernel
theorem dX5_goThroughSets_5 : decode cX5_goThroughSets 5 = .ok (.istore_n 2, 1) := by decide +kernel
theorem dX5_goThroughSets_6 : decode cX5_goThroughSets 6 = .ok (.iload_n 2, 1) := by decide +kernel
theorem dX5_goThroughSets_7 : decode cX5_goThroughSets 7 = .ok (.iconst 1, 1) := by decide +kernel
theorem dX5_goThroughSets_8 : decode cX5_goThroughSets 8 = .ok (.aload_n 1, 1) := by decide +kernel
theorem dX5_goThroughSets_9 : decode cX5_goThroughSets 9 = .ok (.getfield 32, 3) := by decide +kernel
theorem dX5_goThroughSets_12 : decode cX5_goThroughSets 12 = .ok (.ishl, 1) := by decide +kernel
theorem dX5_goThroughSets_13 : decode cX5_goThroughSets 13 = .ok (.if_icmp .ge 32, 3) := by decide +kernel
theorem dX5_goThroughSets_16 : decode cX5_goThroughSets 16 = .ok (.aload_n 1, 1) := by decide +kernel
theorem dX5_goThroughSets_17 : decode cX5_goThroughSets 17 = .ok (.iload_n 2, 1) := by decide +kernel
theorem dX5_goThroughSets_18 : decode cX5_goThroughSets 18 = .ok (.invokevirtual 37, 3) := by decide +kernel
theorem dX5_goThroughSets_21 : decode cX5_goThroughSets 21 = .ok (.istore_n 3, 1) := by decide +kernel
theorem dX5_goThroughSets_22 : decode cX5_goThroughSets 22 = .ok (.iload_n 3, 1) := by decide +kernel
theorem dX5_goThroughSets_23 : decode cX5_goThroughSets 23 = .ok (.iconst (-1), 1) := by decide +kernel
theorem dX5_goThroughSets_24 : decode cX5_goThroughSets 24 = .ok (.if_icmp .eq 15, 3) := by decide +kernel
theorem dX5_goThroughSets_27 : decode cX5_goThroughSets 27 = .ok (.aload_n 0, 1) := by decide +kernel
theorem dX5_goThroughSets_28 : decode cX5_goThroughSets 28 = .ok (.iload_n 2, 1) := by decide +kernel
theorem dX5_goThroughSets_29 : decode cX5_goThroughSets 29 = .ok (.aload_n 1, 1) := by decide +kernel
theorem dX5_goThroughSets_30 : decode cX5_goThroughSets 30 = .ok (.iload_n 2, 1) := by decide +kernel
theorem dX5_goThroughSets_31 : decode cX5_goThroughSets 31 = .ok (.invokevirtual 41, 3) := by decide +kernel
theorem dX5_goThroughSets_34 : decode cX5_goThroughSets 34 = .ok (.iload_n 3, 1) := by decide +kernel
theorem dX5_goThroughSets_35 : decode cX5_goThroughSets 35 = .ok (.isub, 1) := by decide +kernel
theorem dX5_goThroughSets_36 : decode cX5_goThroughSets 36 = .ok (.invokevirtual 44, 3) := by decide +kernel
theorem dX5_goThroughSets_39 : decode cX5_goThroughSets 39 = .ok (.iinc 2 1, 3) := by decide +kernel
theorem dX5_goThroughSets_42 : decode cX5_goThroughSets 42 = .ok (.goto (-36), 3) := by decide +kernel
theorem dX5_goThroughSets_45 : decode cX5_goThroughSets 45 = .ok (.return_, 1) := by decide +kernel
theorem dX5_compareWithBest_0 : decode cX5_compareWithBest 0 = .ok (.iload_n 2, 1) := by decide +kernel
theorem dX5_compareWithBest_1 : decode cX5_compareWithBest 1 = .ok (.aload_n 0, 1) := by decide +kernel
theorem dX5_compareWithBest_2 : decode cX5_compareWithBest 2 = .ok (.getfield 26, 3) := by decide +kernel
theorem dX5_compareWithBest_5 : decode cX5_compareWithBest 5 = .ok (.if_icmp .gt 22, 3) := by decide +kernel
theorem dX5_compareWithBest_8 : decode cX5_compareWithBest 8 = .ok (.iload_n 2, 1) := by decide +kernel
theorem dX5_compareWithBest_9 : decode cX5_compareWithBest 9 = .ok (.aload_n 0, 1) := by decide +kernel
theorem dX5_compareWithBest_10 : decode cX5_compareWithBest 10 = .ok (.getfield 26, 3) := by decide +kernel
theorem dX5_compareWithBest_13 : decode cX5_compareWithBest 13 = .ok (.if_icmp .ne 24, 3) := by decide +kernel
theorem dX5_compareWithBest_16 : decode cX5_compareWithBest 16 = .ok (.iload_n 1, 1) := by decide +kernel
theorem dX5_compareWithBest_17 : decode cX5_compareWithBest 17 = .ok (.aload_n 0, 1) := by decide +kernel
theorem dX5_compareWithBest_18 : decode cX5_compareWithBest 18 = .ok (.getfield 22, 3) := by decide +kernel
theorem dX5_compareWithBest_21 : decode cX5_compareWithBest 21 = .ok (.invokestatic 48, 3) := by decide +kernel
theorem dX5_compareWithBest_24 : decode cX5_compareWithBest 24 = .ok (.ifCond .eq 13, 3) := by decide +kernel
theorem dX5_compareWithBest_27 : decode cX5_compareWithBest 27 = .ok (.aload_n 0, 1) := by decide +kernel
theorem dX5_compareWithBest_28 : decode cX5_compareWithBest 28 = .ok (.iload_n 1, 1) := by decide +kernel
theorem dX5_compareWithBest_29 : decode cX5_compareWithBest 29 = .ok (.putfield 22, 3) := by decide +kernel
theorem dX5_compareWithBest_32 : decode cX5_compareWithBest 32 = .ok (.aload_n 0, 1) := by decide +kernel
theorem dX5_compareWithBest_33 : decode cX5_compareWithBest 33 = .ok (.iload_n 2, 1) := by decide +kernel
theorem dX5_compareWithBest_34 : decode cX5_compareWithBest 34 = .ok (.putfield 26, 3) := by decide +kernel
theorem dX5_compareWithBest_37 : decode cX5_compareWithBest 37 = .ok (.return_, 1) := by decide +kernel
theorem dX5_hasLowestOfDifferent_0 : decode cX5_hasLowestOfDifferent 0 = .ok (.iload_n 0, 1) := by decide +kernel
theorem dX5_hasLowestOfDifferent_1 : decode cX5_hasLowestOfDifferent 1 = .ok (.iload_n 1, 1) := by decide +kernel
theorem dX5_hasLowestOfDifferent_2 : decode cX5_hasLowestOfDifferent 2 = .ok (.ixor, 1) := by decide +kernel
theorem dX5_hasLowestOfDifferent_3 : decode cX5_hasLowestOfDifferent 3 = .ok (.istore_n 2, 1) := by decide +kernel
theorem dX5_hasLowestOfDifferent_4 : decode cX5_hasLowestOfDifferent 4 = .ok (.iload_n 2, 1) := by decide +kernel
theorem dX5_hasLowestOfDifferent_5 : decode cX5_hasLowestOfDifferent 5 = .ok (.iload_n 2, 1) := by decide +kernel
theorem dX5_hasLowestOfDifferent_6 : decode cX5_hasLowestOfDifferent 6 = .ok (.ineg, 1) := by decide +kernel
theorem dX5_hasLowestOfDifferent_7 : decode cX5_hasLowestOfDifferent 7 = .ok (.iand, 1) := by decide +kernel
theorem dX5_hasLowestOfDifferent_8 : decode cX5_hasLowestOfDifferent 8 = .ok (.iload_n 0, 1) := by decide +kernel
theorem dX5_hasLowestOfDifferent_9 : decode cX5_hasLowestOfDifferent 9 = .ok (.iand, 1) := by decide +kernel
theorem dX5_hasLowestOfDifferent_10 : decode cX5_hasLowestOfDifferent 10 = .ok (.ifCond .eq 7, 3) := by decide +kernel
theorem dX5_hasLowestOfDifferent_13 : decode cX5_hasLowestOfDifferent 13 = .ok (.iconst 1, 1) := by decide +kernel
theorem dX5_hasLowestOfDifferent_14 : decode cX5_hasLowestOfDifferent 14 = .ok (.goto 4, 3) := by decide +kernel
theorem dX5_hasLowestOfDifferent_17 : decode cX5_hasLowestOfDifferent 17 = .ok (.iconst 0, 1) := by decide +kernel
theorem dX5_hasLowestOfDifferent_18 : decode cX5_hasLowestOfDifferent 18 = .ok (.ireturn, 1) := by decide +kernel
theorem dX5_findBest_0 : decode cX5_findBest 0 = .ok (.aload_n 0, 1) := by decide +kernel
theorem dX5_findBest_1 : decode cX5_findBest 1 = .ok (.invokevirtual 29, 3) := by decide +kernel
theorem dX5_findBest_4 : decode cX5_findBest 4 = .ok (.aload_n 0, 1) := by decide +kernel
theorem dX5_findBest_5 : decode cX5_findBest 5 = .ok (.aload_n 1, 1) := by decide +kernel
theorem dX5_findBest_6 : decode cX5_findBest 6 = .ok (.iload_n 2, 1) := by decide +kernel
theorem dX5_findBest_7 : decode cX5_findBest 7 = .ok (.invokevirtual 52, 3) := by decide +kernel
theorem dX5_findBest_10 : decode cX5_findBest 10 = .ok (.aload_n 0, 1) := by decide +kernel
theorem dX5_findBest_11 : decode cX5_findBest 11 = .ok (.getfield 9, 3) := by decide +kernel
theorem dX5_findBest_14 : decode cX5_findBest 14 = .ok (.iconst 0, 1) := by decide +kernel
theorem dX5_findBest_15 : decode cX5_findBest 15 = .ok (.iconst 1, 1) := by decide +kernel
theorem dX5_findBest_16 : decode cX5_findBest 16 = .ok (.bastore, 1) := by decide +kernel
theorem dX5_findBest_17 : decode cX5_findBest 17 = .ok (.aload_n 0, 1) := by decide +kernel
theorem dX5_findBest_18 : decode cX5_findBest 18 = .ok (.aload_n 1, 1) := by decide +kernel
theorem dX5_findBest_19 : decode cX5_findBest 19 = .ok (.iconst 0, 1) := by decide +kernel
theorem dX5_findBest_20 : decode cX5_findBest 20 = .ok (.iconst 0, 1) := by decide +kernel
theorem dX5_findBest_21 : decode cX5_findBest 21 = .ok (.iconst 0, 1) := by decide +kernel
theorem dX5_findBest_22 : decode cX5_findBest 22 = .ok (.iconst 0, 1) := by decide +kernel
theorem dX5_findBest_23 : decode cX5_findBest 23 = .ok (.iconst 0, 1) := by decide +kernel
theorem dX5_findBest_24 : decode cX5_findBest 24 = .ok (.invokestatic 56, 3) := by decide +kernel
theorem dX5_findBest_27 : decode cX5_findBest 27 = .ok (.return_, 1) := by decide +kernel
theorem dX5_estimate_0 : decode cX5_estimate 0 = .ok (.aload_n 0, 1) := by decide +kernel
theorem dX5_estimate_1 : decode cX5_estimate 1 = .ok (.getfield 18, 3) := by decide +kernel
theorem dX5_estimate_4 : decode cX5_estimate 4 = .ok (.aload_n 1, 1) := by decide +kernel
theorem dX5_estimate_5 : decode cX5_estimate 5 = .ok (.getfield 32, 3) := by decide +kernel
theorem dX5_estimate_8 : decode cX5_estimate 8 = .ok (.iconst 0, 1) := by decide +kernel
theorem dX5_estimate_9 : decode cX5_estimate 9 = .ok (.iastore, 1) := by decide +kernel
theorem dX5_estimate_10 : decode cX5_estimate 10 = .ok (.aload_n 1, 1) := by decide +kernel
theorem dX5_estimate_11 : decode cX5_estimate 11 = .ok (.getfield 32, 3) := by decide +kernel
theorem dX5_estimate_14 : decode cX5_estimate 14 = .ok (.iconst 1, 1) := by decide +kernel
theorem dX5_estimate_15 : decode cX5_estimate 15 = .ok (.isub, 1) := by decide +kernel
theorem dX5_estimate_16 : decode cX5_estimate 16 = .ok (.istore_n 3, 1) := by decide +kernel
theorem dX5_estimate_17 : decode cX5_estimate 17 = .ok (.iload_n 3, 1) := by decide +kernel
theorem dX5_estimate_18 : decode cX5_estimate 18 = .ok (.ifCond .lt 95, 3) := by decide +kernel
theorem dX5_estimate_21 : decode cX5_estimate 21 = .ok (.aload_n 1, 1) := by decide +kernel
theorem dX5_estimate_22 : decode cX5_estimate 22 = .ok (.iconst 1, 1) := by decide +kernel
theorem dX5_estimate_23 : decode cX5_estimate 23 = .ok (.iload_n 3, 1) := by decide +kernel
theorem dX5_estimate_24 : decode cX5_estimate 24 = .ok (.ishl, 1) := by decide +kernel
theorem dX5_estimate_25 : decode cX5_estimate 25 = .ok (.invokevirtual 37, 3) := by decide +kernel
theorem dX5_estimate_28 : decode cX5_estimate 28 = .ok (.istore 4, 2) := by decide +kernel
theorem dX5_estimate_30 : decode cX5_estimate 30 = .ok (.iload 4, 2) := by decide +kernel
theorem dX5_estimate_32 : decode cX5_estimate 32 = .ok (.iconst (-1), 1) := by decide +kernel
theorem dX5_estimate_33 : decode cX5_estimate 33 = .ok (.if_icmp .ne 7, 3) := by decide +kernel
theorem dX5_estimate_36 : decode cX5_estimate 36 = .ok (.iconst (-1), 1) := by decide +kernel
theorem dX5_estimate_37 : decode cX5_estimate 37 = .ok (.goto 12, 3) := by decide +kernel
theorem dX5_estimate_40 : decode cX5_estimate 40 = .ok (.aload_n 1, 1) := by decide +kernel
theorem dX5_estimate_41 : decode cX5_estimate 41 = .ok (.getfield 60, 3) := by decide +kernel
theorem dX5_estimate_44 : decode cX5_estimate 44 = .ok (.iload_n 3, 1) := by decide +kernel
theorem dX5_estimate_45 : decode cX5_estimate 45 = .ok (.iaload, 1) := by decide +kernel
theorem dX5_estimate_46 : decode cX5_estimate 46 = .ok (.iload 4, 2) := by decide +kernel
theorem dX5_estimate_48 : decode cX5_estimate 48 = .ok (.isub, 1) := by decide +kernel
theorem dX5_estimate_49 : decode cX5_estimate 49 = .ok (.istore 5, 2) := by decide +kernel
theorem dX5_estimate_51 : decode cX5_estimate 51 = .ok (.aload_n 0, 1) := by decide +kernel
theorem dX5_estimate_52 : decode cX5_estimate 52 = .ok (.getfield 15, 3) := by decide +kernel
theorem dX5_estimate_55 : decode cX5_estimate 55 = .ok (.iload_n 3, 1) := by decide +kernel
theorem dX5_estimate_56 : decode cX5_estimate 56 = .ok (.iload 5, 2) := by decide +kernel
theorem dX5_estimate_58 : decode cX5_estimate 58 = .ok (.ifCond .lt 17, 3) := by decide +kernel
theorem dX5_estimate_61 : decode cX5_estimate 61 = .ok (.aload_n 1, 1) := by decide +kernel
theorem dX5_estimate_62 : decode cX5_estimate 62 = .ok (.getfield 63, 3) := by decide +kernel
theorem dX5_estimate_65 : decode cX5_estimate 65 = .ok (.iload_n 3, 1) := by decide +kernel
theorem dX5_estimate_66 : decode cX5_estimate 66 = .ok (.iaload, 1) := by decide +kernel
theorem dX5_estimate_67 : decode cX5_estimate 67 = .ok (.iload_n 2, 1) := by decide +kernel
theorem dX5_estimate_68 : decode cX5_estimate 68 = .ok (.if_icmp .eq 7, 3) := by decide +kernel
theorem dX5_estimate_71 : decode cX5_estimate 71 = .ok (.iconst 1, 1) := by decide +kernel
theorem dX5_estimate_72 : decode cX5_estimate 72 = .ok (.goto 4, 3) := by decide +kernel
theorem dX5_estimate_75 : decode cX5_estimate 75 = .ok (.iconst 0, 1) := by decide +kernel
theorem dX5_estimate_76 : decode cX5_estimate 76 = .ok (.bastore, 1) := by decide +kernel
theorem dX5_estimate_77 : decode cX5_estimate 77 = .ok (.aload_n 0, 1) := by decide +kernel
theorem dX5_estimate_78 : decode cX5_estimate 78 = .ok (.getfield 18, 3) := by decide +kernel
theorem dX5_estimate_81 : decode cX5_estimate 81 = .ok (.iload_n 3, 1) := by decide +kernel
theorem dX5_estimate_82 : decode cX5_estimate 82 = .ok (.aload_n 0, 1) := by decide +kernel
theorem dX5_estimate_83 : decode cX5_estimate 83 = .ok (.getfield 18, 3) := by decide +kernel
theorem dX5_estimate_86 : decode cX5_estimate 86 = .ok (.iload_n 3, 1) := by decide +kernel
theorem dX5_estimate_87 : decode cX5_estimate 87 = .ok (.iconst 1, 1) := by decide +kernel
theorem dX5_estimate_88 : decode cX5_estimate 88 = .ok (.iadd, 1) := by decide +kernel
theorem dX5_estimate_89 : decode cX5_estimate 89 = .ok (.iaload, 1) := by decide +kernel
theorem dX5_estimate_90 : decode cX5_estimate 90 = .ok (.aload_n 0, 1) := by decide +kernel
theorem dX5_estimate_91 : decode cX5_estimate 91 = .ok (.getfield 15, 3) := by decide +kernel
theorem dX5_estimate_94 : decode cX5_estimate 94 = .ok (.iload_n 3, 1) := by decide +kernel
theorem dX5_estimate_95 : decode cX5_estimate 95 = .ok (.baload, 1) := by decide +kernel
theorem dX5_estimate_96 : decode cX5_estimate 96 = .ok (.ifCond .eq 8, 3) := by decide +kernel
theorem dX5_estimate_99 : decode cX5_estimate 99 = .ok (.iload 5, 2) := by decide +kernel
theorem dX5_estimate_101 : decode cX5_estimate 101 = .ok (.goto 4, 3) := by decide +kernel
theorem dX5_estimate_104 : decode cX5_estimate 104 = .ok (.iconst 0, 1) := by decide +kernel
theorem dX5_estimate_105 : decode cX5_estimate 105 = .ok (.iadd, 1) := by decide +kernel
theorem dX5_estimate_106 : decode cX5_estimate 106 = .ok (.iastore, 1) := by decide +kernel
theorem dX5_estimate_107 : decode cX5_estimate 107 = .ok (.iinc 3 (-1), 3) := by decide +kernel
theorem dX5_estimate_110 : decode cX5_estimate 110 = .ok (.goto (-93), 3) := by decide +kernel
theorem dX5_estimate_113 : decode cX5_estimate 113 = .ok (.return_, 1) := by decide +kernel
theorem dX5_branch_0 : decode cX5_branch 0 = .ok (.iload_n 2, 1) := by decide +kernel
theorem dX5_branch_1 : decode cX5_branch 1 = .ok (.aload_n 1, 1) := by decide +kernel
theorem dX5_branch_2 : decode cX5_branch 2 = .ok (.getfield 32, 3) := by decide +kernel
theorem dX5_branch_5 : decode cX5_branch 5 = .ok (.if_icmp .gt 22, 3) := by decide +kernel
theorem dX5_branch_8 : decode cX5_branch 8 = .ok (.iload 5, 2) := by decide +kernel
theorem dX5_branch_10 : decode cX5_branch 10 = .ok (.iload 6, 2) := by decide +kernel
theorem dX5_branch_12 : decode cX5_branch 12 = .ok (.isub, 1) := by decide +kernel
theorem dX5_branch_13 : decode cX5_branch 13 = .ok (.aload_n 0, 1) := by decide +kernel
theorem dX5_branch_14 : decode cX5_branch 14 = .ok (.getfield 18, 3) := by decide +kernel
theorem dX5_branch_17 : decode cX5_branch 17 = .ok (.iload_n 2, 1) := by decide +kernel
theorem dX5_branch_18 : decode cX5_branch 18 = .ok (.iaload, 1) := by decide +kernel
theorem dX5_branch_19 : decode cX5_branch 19 = .ok (.iadd, 1) := by decide +kernel
theorem dX5_branch_20 : decode cX5_branch 20 = .ok (.aload_n 0, 1) := by decide +kernel
theorem dX5_branch_21 : decode cX5_branch 21 = .ok (.getfield 26, 3) := by decide +kernel
theorem dX5_branch_24 : decode cX5_branch 24 = .ok (.if_icmp .gt 4, 3) := by decide +kernel
theorem dX5_branch_27 : decode cX5_branch 27 = .ok (.return_, 1) := by decide +kernel
theorem dX5_branch_28 : decode cX5_branch 28 = .ok (.iload_n 2, 1) := by decide +kernel
theorem dX5_branch_29 : decode cX5_branch 29 = .ok (.aload_n 1, 1) := by decide +kernel
theorem dX5_branch_30 : decode cX5_branch 30 = .ok (.getfield 32, 3) := by decide +kernel
theorem dX5_branch_33 : decode cX5_branch 33 = .ok (.if_icmp .ne 18, 3) := by decide +kernel
theorem dX5_branch_36 : decode cX5_branch 36 = .ok (.aload_n 0, 1) := by decide +kernel
theorem dX5_branch_37 : decode cX5_branch 37 = .ok (.iload_n 3, 1) := by decide +kernel
theorem dX5_branch_38 : decode cX5_branch 38 = .ok (.putfield 22, 3) := by decide +kernel
theorem dX5_branch_41 : decode cX5_branch 41 = .ok (.aload_n 0, 1) := by decide +kernel
theorem dX5_branch_42 : decode cX5_branch 42 = .ok (.iload 5, 2) := by decide +kernel
theorem dX5_branch_44 : decode cX5_branch 44 = .ok (.iload 6, 2) := by decide +kernel
theorem dX5_branch_46 : decode cX5_branch 46 = .ok (.isub, 1) := by decide +kernel
theorem dX5_branch_47 : decode cX5_branch 47 = .ok (.putfield 26, 3) := by decide +kernel
theorem dX5_branch_50 : decode cX5_branch 50 = .ok (.return_, 1) := by decide +kernel
theorem dX5_branch_51 : decode cX5_branch 51 = .ok (.aload_n 0, 1) := by decide +kernel
theorem dX5_branch_52 : decode cX5_branch 52 = .ok (.getfield 15, 3) := by decide +kernel
theorem dX5_branch_55 : decode cX5_branch 55 = .ok (.iload_n 2, 1) := by decide +kernel
theorem dX5_branch_56 : decode cX5_branch 56 = .ok (.baload, 1) := by decide +kernel
theorem dX5_branch_57 : decode cX5_branch 57 = .ok (.ifCond .eq 67, 3) := by decide +kernel
theorem dX5_branch_60 : decode cX5_branch 60 = .ok (.aload_n 1, 1) := by decide +kernel
theorem dX5_branch_61 : decode cX5_branch 61 = .ok (.iload_n 3, 1) := by decide +kernel
theorem dX5_branch_62 : decode cX5_branch 62 = .ok (.aload_n 1, 1) := by decide +kernel
theorem dX5_branch_63 : decode cX5_branch 63 = .ok (.getfield 63, 3) := by decide +kernel
theorem dX5_branch_66 : decode cX5_branch 66 = .ok (.iload_n 2, 1) := by decide +kernel
theorem dX5_branch_67 : decode cX5_branch 67 = .ok (.iaload, 1) := by decide +kernel
theorem dX5_branch_68 : decode cX5_branch 68 = .ok (.invokevirtual 66, 3) := by decide +kernel
theorem dX5_branch_71 : decode cX5_branch 71 = .ok (.iconst (-1), 1) := by decide +kernel
theorem dX5_branch_72 : decode cX5_branch 72 = .ok (.if_icmp .ne 52, 3) := by decide +kernel
theorem dX5_branch_75 : decode cX5_branch 75 = .ok (.aload_n 0, 1) := by decide +kernel
theorem dX5_branch_76 : decode cX5_branch 76 = .ok (.aload_n 1, 1) := by decide +kernel
theorem dX5_branch_77 : decode cX5_branch 77 = .ok (.iload_n 2, 1) := by decide +kernel
theorem dX5_branch_78 : decode cX5_branch 78 = .ok (.iload 4, 2) := by decide +kernel
theorem dX5_branch_80 : decode cX5_branch 80 = .ok (.invokevirtual 70, 3) := by decide +kernel
theorem dX5_branch_83 : decode cX5_branch 83 = .ok (.istore 7, 2) := by decide +kernel
theorem dX5_branch_85 : decode cX5_branch 85 = .ok (.iload 7, 2) := by decide +kernel
theorem dX5_branch_87 : decode cX5_branch 87 = .ok (.iconst (-1), 1) := by decide +kernel
theorem dX5_branch_88 : decode cX5_branch 88 = .ok (.if_icmp .eq 36, 3) := by decide +kernel
theorem dX5_branch_91 : decode cX5_branch 91 = .ok (.aload_n 0, 1) := by decide +kernel
theorem dX5_branch_92 : decode cX5_branch 92 = .ok (.aload_n 1, 1) := by decide +kernel
theorem dX5_branch_93 : decode cX5_branch 93 = .ok (.iload_n 2, 1) := by decide +kernel
theorem dX5_branch_94 : decode cX5_branch 94 = .ok (.iconst 1, 1) := by decide +kernel
theorem dX5_branch_95 : decode cX5_branch 95 = .ok (.iadd, 1) := by decide +kernel
theorem dX5_branch_96 : decode cX5_branch 96 = .ok (.iload_n 3, 1) := by decide +kernel
theorem dX5_branch_97 : decode cX5_branch 97 = .ok (.iconst 1, 1) := by decide +kernel
theorem dX5_branch_98 : decode cX5_branch 98 = .ok (.iload_n 2, 1) := by decide +kernel
theorem dX5_branch_99 : decode cX5_branch 99 = .ok (.ishl, 1) := by decide +kernel
theorem dX5_branch_100 : decode cX5_branch 100 = .ok (.ior, 1) := by decide +kernel
theorem dX5_branch_101 : decode cX5_branch 101 = .ok (.iload 4, 2) := by decide +kernel
theorem dX5_branch_103 : decode cX5_branch 103 = .ok (.aload_n 1, 1) := by decide +kernel
theorem dX5_branch_104 : decode cX5_branch 104 = .ok (.getfield 74, 3) := by decide +kernel
theorem dX5_branch_107 : decode cX5_branch 107 = .ok (.iload_n 2, 1) := by decide +kernel
theorem dX5_branch_108 : decode cX5_branch 108 = .ok (.iaload, 1) := by decide +kernel
theorem dX5_branch_109 : decode cX5_branch 109 = .ok (.iadd, 1) := by decide +kernel
theorem dX5_branch_110 : decode cX5_branch 110 = .ok (.iload 5, 2) := by decide +kernel
theorem dX5_branch_112 : decode cX5_branch 112 = .ok (.aload_n 1, 1) := by decide +kernel
theorem dX5_branch_113 : decode cX5_branch 113 = .ok (.getfield 60, 3) := by decide +kernel
theorem dX5_branch_116 : decode cX5_branch 116 = .ok (.iload_n 2, 1) := by decide +kernel
theorem dX5_branch_117 : decode cX5_branch 117 = .ok (.iaload, 1) := by decide +kernel
theorem dX5_branch_118 : decode cX5_branch 118 = .ok (.iadd, 1) := by decide +kernel
theorem dX5_branch_119 : decode cX5_branch 119 = .ok (.iload 7, 2) := by decide +kernel
theorem dX5_branch_121 : decode cX5_branch 121 = .ok (.invokestatic 56, 3) := by decide +kernel
theorem dX5_branch_124 : decode cX5_branch 124 = .ok (.aload_n 0, 1) := by decide +kernel
theorem dX5_branch_125 : decode cX5_branch 125 = .ok (.aload_n 1, 1) := by decide +kernel
theorem dX5_branch_126 : decode cX5_branch 126 = .ok (.iload_n 2, 1) := by decide +kernel
theorem dX5_branch_127 : decode cX5_branch 127 = .ok (.iconst 1, 1) := by decide +kernel
theorem dX5_branch_128 : decode cX5_branch 128 = .ok (.iadd, 1) := by decide +kernel
theorem dX5_branch_129 : decode cX5_branch 129 = .ok (.iload_n 3, 1) := by decide +kernel
theorem dX5_branch_130 : decode cX5_branch 130 = .ok (.iload 4, 2) := by decide +kernel
theorem dX5_branch_132 : decode cX5_branch 132 = .ok (.iload 5, 2) := by decide +kernel
theorem dX5_branch_134 : decode cX5_branch 134 = .ok (.iload 6, 2) := by decide +kernel
theorem dX5_branch_136 : decode cX5_branch 136 = .ok (.invokestatic 56, 3) := by decide +kernel
theorem dX5_branch_139 : decode cX5_branch 139 = .ok (.return_, 1) := by decide +kernel
theorem dX5_costWith_0 : decode cX5_costWith 0 = .ok (.iload_n 3, 1) := by decide +kernel
theorem dX5_costWith_1 : decode cX5_costWith 1 = .ok (.aload_n 1, 1) := by decide +kernel
theorem dX5_costWith_2 : decode cX5_costWith 2 = .ok (.getfield 74, 3) := by decide +kernel
theorem dX5_costWith_5 : decode cX5_costWith 5 = .ok (.iload_n 2, 1) := by decide +kernel
theorem dX5_costWith_6 : decode cX5_costWith 6 = .ok (.iaload, 1) := by decide +kernel
theorem dX5_costWith_7 : decode cX5_costWith 7 = .ok (.iadd, 1) := by decide +kernel
theorem dX5_costWith_8 : decode cX5_costWith 8 = .ok (.istore 4, 2) := by decide +kernel
theorem dX5_costWith_10 : decode cX5_costWith 10 = .ok (.iload 4, 2) := by decide +kernel
theorem dX5_costWith_12 : decode cX5_costWith 12 = .ok (.aload_n 1, 1) := by decide +kernel
theorem dX5_costWith_13 : decode cX5_costWith 13 = .ok (.getfield 77, 3) := by decide +kernel
theorem dX5_costWith_16 : decode cX5_costWith 16 = .ok (.if_icmp .le 5, 3) := by decide +kernel
theorem dX5_costWith_19 : decode cX5_costWith 19 = .ok (.iconst (-1), 1) := by decide +kernel
theorem dX5_costWith_20 : decode cX5_costWith 20 = .ok (.ireturn, 1) := by decide +kernel
theorem dX5_costWith_21 : decode cX5_costWith 21 = .ok (.iconst 0, 1) := by decide +kernel
theorem dX5_costWith_22 : decode cX5_costWith 22 = .ok (.istore 5, 2) := by decide +kernel
theorem dX5_costWith_24 : decode cX5_costWith 24 = .ok (.iload_n 3, 1) := by decide +kernel
theorem dX5_costWith_25 : decode cX5_costWith 25 = .ok (.iload 5, 2) := by decide +kernel
theorem dX5_costWith_27 : decode cX5_costWith 27 = .ok (.iadd, 1) := by decide +kernel
theorem dX5_costWith_28 : decode cX5_costWith 28 = .ok (.iload 4, 2) := by decide +kernel
theorem dX5_costWith_30 : decode cX5_costWith 30 = .ok (.if_icmp .ge 31, 3) := by decide +kernel
theorem dX5_costWith_33 : decode cX5_costWith 33 = .ok (.aload_n 0, 1) := by decide +kernel
theorem dX5_costWith_34 : decode cX5_costWith 34 = .ok (.aload_n 1, 1) := by decide +kernel
theorem dX5_costWith_35 : decode cX5_costWith 35 = .ok (.aload_n 1, 1) := by decide +kernel
theorem dX5_costWith_36 : decode cX5_costWith 36 = .ok (.getfield 80, 3) := by decide +kernel
theorem dX5_costWith_39 : decode cX5_costWith 39 = .ok (.iload_n 2, 1) := by decide +kernel
theorem dX5_costWith_40 : decode cX5_costWith 40 = .ok (.iconst 3, 1) := by decide +kernel
theorem dX5_costWith_41 : decode cX5_costWith 41 = .ok (.imul, 1) := by decide +kernel
theorem dX5_costWith_42 : decode cX5_costWith 42 = .ok (.iload 5, 2) := by decide +kernel
theorem dX5_costWith_44 : decode cX5_costWith 44 = .ok (.iadd, 1) := by decide +kernel
theorem dX5_costWith_45 : decode cX5_costWith 45 = .ok (.iaload, 1) := by decide +kernel
theorem dX5_costWith_46 : decode cX5_costWith 46 = .ok (.iload_n 3, 1) := by decide +kernel
theorem dX5_costWith_47 : decode cX5_costWith 47 = .ok (.iload 5, 2) := by decide +kernel
theorem dX5_costWith_49 : decode cX5_costWith 49 = .ok (.iadd, 1) := by decide +kernel
theorem dX5_costWith_50 : decode cX5_costWith 50 = .ok (.iconst 1, 1) := by decide +kernel
theorem dX5_costWith_51 : decode cX5_costWith 51 = .ok (.iadd, 1) := by decide +kernel
theorem dX5_costWith_52 : decode cX5_costWith 52 = .ok (.invokevirtual 83, 3) := by decide +kernel
theorem dX5_costWith_55 : decode cX5_costWith 55 = .ok (.iinc 5 1, 3) := by decide +kernel
theorem dX5_costWith_58 : decode cX5_costWith 58 = .ok (.goto (-34), 3) := by decide +kernel
theorem dX5_costWith_61 : decode cX5_costWith 61 = .ok (.aload_n 0, 1) := by decide +kernel
theorem dX5_costWith_62 : decode cX5_costWith 62 = .ok (.aload_n 1, 1) := by decide +kernel
theorem dX5_costWith_63 : decode cX5_costWith 63 = .ok (.iload 4, 2) := by decide +kernel
theorem dX5_costWith_65 : decode cX5_costWith 65 = .ok (.invokevirtual 87, 3) := by decide +kernel
theorem dX5_costWith_68 : decode cX5_costWith 68 = .ok (.ireturn, 1) := by decide +kernel
theorem dX5_fillWithItem_0 : decode cX5_fillWithItem 0 = .ok (.iconst 0, 1) := by decide +kernel
theorem dX5_fillWithItem_1 : decode cX5_fillWithItem 1 = .ok (.istore 4, 2) := by decide +kernel
theorem dX5_fillWithItem_3 : decode cX5_fillWithItem 3 = .ok (.iload 4, 2) := by decide +kernel
theorem dX5_fillWithItem_5 : decode cX5_fillWithItem 5 = .ok (.iconst 1, 1) := by decide +kernel
theorem dX5_fillWithItem_6 : decode cX5_fillWithItem 6 = .ok (.aload_n 1, 1) := by decide +kernel
theorem dX5_fillWithItem_7 : decode cX5_fillWithItem 7 = .ok (.getfield 77, 3) := by decide +kernel
theorem dX5_fillWithItem_10 : decode cX5_fillWithItem 10 = .ok (.ishl, 1) := by decide +kernel
theorem dX5_fillWithItem_11 : decode cX5_fillWithItem 11 = .ok (.if_icmp .ge 33, 3) := by decide +kernel
theorem dX5_fillWithItem_14 : decode cX5_fillWithItem 14 = .ok (.iload 4, 2) := by decide +kernel
theorem dX5_fillWithItem_16 : decode cX5_fillWithItem 16 = .ok (.invokestatic 91, 3) := by decide +kernel
theorem dX5_fillWithItem_19 : decode cX5_fillWithItem 19 = .ok (.iload_n 3, 1) := by decide +kernel
theorem dX5_fillWithItem_20 : decode cX5_fillWithItem 20 = .ok (.if_icmp .ne 18, 3) := by decide +kernel
theorem dX5_fillWithItem_23 : decode cX5_fillWithItem 23 = .ok (.aload_n 0, 1) := by decide +kernel
theorem dX5_fillWithItem_24 : decode cX5_fillWithItem 24 = .ok (.getfield 9, 3) := by decide +kernel
theorem dX5_fillWithItem_27 : decode cX5_fillWithItem 27 = .ok (.iload 4, 2) := by decide +kernel
theorem dX5_fillWithItem_29 : decode cX5_fillWithItem 29 = .ok (.aload_n 0, 1) := by decide +kernel
theorem dX5_fillWithItem_30 : decode cX5_fillWithItem 30 = .ok (.aload_n 1, 1) := by decide +kernel
theorem dX5_fillWithItem_31 : decode cX5_fillWithItem 31 = .ok (.iload 4, 2) := by decide +kernel
theorem dX5_fillWithItem_33 : decode cX5_fillWithItem 33 = .ok (.iload_n 2, 1) := by decide +kernel
theorem dX5_fillWithItem_34 : decode cX5_fillWithItem 34 = .ok (.invokevirtual 96, 3) := by decide +kernel
theorem dX5_fillWithItem_37 : decode cX5_fillWithItem 37 = .ok (.bastore, 1) := by decide +kernel
theorem dX5_fillWithItem_38 : decode cX5_fillWithItem 38 = .ok (.iinc 4 1, 3) := by decide +kernel
theorem dX5_fillWithItem_41 : decode cX5_fillWithItem 41 = .ok (.goto (-38), 3) := by decide +kernel
theorem dX5_fillWithItem_44 : decode cX5_fillWithItem 44 = .ok (.return_, 1) := by decide +kernel
theorem dX5_canFillWithLast_0 : decode cX5_canFillWithLast 0 = .ok (.iconst 0, 1) := by decide +kernel
theorem dX5_canFillWithLast_1 : decode cX5_canFillWithLast 1 = .ok (.istore 4, 2) := by decide +kernel
theorem dX5_canFillWithLast_3 : decode cX5_canFillWithLast 3 = .ok (.iload 4, 2) := by decide +kernel
theorem dX5_canFillWithLast_5 : decode cX5_canFillWithLast 5 = .ok (.aload_n 1, 1) := by decide +kernel
theorem dX5_canFillWithLast_6 : decode cX5_canFillWithLast 6 = .ok (.getfield 77, 3) := by decide +kernel
theorem dX5_canFillWithLast_9 : decode cX5_canFillWithLast 9 = .ok (.if_icmp .ge 36, 3) := by decide +kernel
theorem dX5_canFillWithLast_12 : decode cX5_canFillWithLast 12 = .ok (.iload_n 2, 1) := by decide +kernel
theorem dX5_canFillWithLast_13 : decode cX5_canFillWithLast 13 = .ok (.iload_n 3, 1) := by decide +kernel
theorem dX5_canFillWithLast_14 : decode cX5_canFillWithLast 14 = .ok (.iand, 1) := by decide +kernel
theorem dX5_canFillWithLast_15 : decode cX5_canFillWithLast 15 = .ok (.iconst 1, 1) := by decide +kernel
theorem dX5_canFillWithLast_16 : decode cX5_canFillWithLast 16 = .ok (.iload 4, 2) := by decide +kernel
theorem dX5_canFillWithLast_18 : decode cX5_canFillWithLast 18 = .ok (.ishl, 1) := by decide +kernel
theorem dX5_canFillWithLast_19 : decode cX5_canFillWithLast 19 = .ok (.iand, 1) := by decide +kernel
theorem dX5_canFillWithLast_20 : decode cX5_canFillWithLast 20 = .ok (.ifCond .eq 19, 3) := by decide +kernel
theorem dX5_canFillWithLast_23 : decode cX5_canFillWithLast 23 = .ok (.aload_n 0, 1) := by decide +kernel
theorem dX5_canFillWithLast_24 : decode cX5_canFillWithLast 24 = .ok (.getfield 9, 3) := by decide +kernel
theorem dX5_canFillWithLast_27 : decode cX5_canFillWithLast 27 = .ok (.iload_n 2, 1) := by decide +kernel
theorem dX5_canFillWithLast_28 : decode cX5_canFillWithLast 28 = .ok (.iconst 1, 1) := by decide +kernel
theorem dX5_canFillWithLast_29 : decode cX5_canFillWithLast 29 = .ok (.iload 4, 2) := by decide +kernel
theorem dX5_canFillWithLast_31 : decode cX5_canFillWithLast 31 = .ok (.ishl, 1) := by decide +kernel
theorem dX5_canFillWithLast_32 : decode cX5_canFillWithLast 32 = .ok (.ixor, 1) := by decide +kernel
theorem dX5_canFillWithLast_33 : decode cX5_canFillWithLast 33 = .ok (.baload, 1) := by decide +kernel
theorem dX5_canFillWithLast_34 : decode cX5_canFillWithLast 34 = .ok (.ifCond .eq 5, 3) := by decide +kernel
theorem dX5_canFillWithLast_37 : decode cX5_canFillWithLast 37 = .ok (.iconst 1, 1) := by decide +kernel
theorem dX5_canFillWithLast_38 : decode cX5_canFillWithLast 38 = .ok (.ireturn, 1) := by decide +kernel
theorem dX5_canFillWithLast_39 : decode cX5_canFillWithLast 39 = .ok (.iinc 4 1, 3) := by decide +kernel
theorem dX5_canFillWithLast_42 : decode cX5_canFillWithLast 42 = .ok (.goto (-39), 3) := by decide +kernel
theorem dX5_canFillWithLast_45 : decode cX5_canFillWithLast 45 = .ok (.iconst 0, 1) := by decide +kernel
theorem dX5_canFillWithLast_46 : decode cX5_canFillWithLast 46 = .ok (.ireturn, 1) := by decide +kernel
theorem dX5_leastFilled_0 : decode cX5_leastFilled 0 = .ok (.ldc 100, 2) := by decide +kernel
theorem dX5_leastFilled_2 : decode cX5_leastFilled 2 = .ok (.istore_n 3, 1) := by decide +kernel
theorem dX5_leastFilled_3 : decode cX5_leastFilled 3 = .ok (.iconst 0, 1) := by decide +kernel
theorem dX5_leastFilled_4 : decode cX5_leastFilled 4 = .ok (.istore 4, 2) := by decide +kernel
theorem dX5_leastFilled_6 : decode cX5_leastFilled 6 = .ok (.iload 4, 2) := by decide +kernel
theorem dX5_leastFilled_8 : decode cX5_leastFilled 8 = .ok (.iconst 1, 1) := by decide +kernel
theorem dX5_leastFilled_9 : decode cX5_leastFilled 9 = .ok (.aload_n 1, 1) := by decide +kernel
theorem dX5_leastFilled_10 : decode cX5_leastFilled 10 = .ok (.getfield 77, 3) := by decide +kernel
theorem dX5_leastFilled_13 : decode cX5_leastFilled 13 = .ok (.ishl, 1) := by decide +kernel
theorem dX5_leastFilled_14 : decode cX5_leastFilled 14 = .ok (.if_icmp .ge 40, 3) := by decide +kernel
theorem dX5_leastFilled_17 : decode cX5_leastFilled 17 = .ok (.aload_n 0, 1) := by decide +kernel
theorem dX5_leastFilled_18 : decode cX5_leastFilled 18 = .ok (.getfield 9, 3) := by decide +kernel
theorem dX5_leastFilled_21 : decode cX5_leastFilled 21 = .ok (.iload 4, 2) := by decide +kernel
theorem dX5_leastFilled_23 : decode cX5_leastFilled 23 = .ok (.baload, 1) := by decide +kernel
theorem dX5_leastFilled_24 : decode cX5_leastFilled 24 = .ok (.ifCond .eq 24, 3) := by decide +kernel
theorem dX5_leastFilled_27 : decode cX5_leastFilled 27 = .ok (.iload 4, 2) := by decide +kernel
theorem dX5_leastFilled_29 : decode cX5_leastFilled 29 = .ok (.invokestatic 91, 3) := by decide +kernel
theorem dX5_leastFilled_32 : decode cX5_leastFilled 32 = .ok (.iload_n 2, 1) := by decide +kernel
theorem dX5_leastFilled_33 : decode cX5_leastFilled 33 = .ok (.if_icmp .ne 15, 3) := by decide +kernel
theorem dX5_leastFilled_36 : decode cX5_leastFilled 36 = .ok (.iload_n 3, 1) := by decide +kernel
theorem dX5_leastFilled_37 : decode cX5_leastFilled 37 = .ok (.aload_n 1, 1) := by decide +kernel
theorem dX5_leastFilled_38 : decode cX5_leastFilled 38 = .ok (.getfield 101, 3) := by decide +kernel
theorem dX5_leastFilled_41 : decode cX5_leastFilled 41 = .ok (.iload 4, 2) := by decide +kernel
theorem dX5_leastFilled_43 : decode cX5_leastFilled 43 = .ok (.iaload, 1) := by decide +kernel
theorem dX5_leastFilled_44 : decode cX5_leastFilled 44 = .ok (.invokestatic 104, 3) := by decide +kernel
theorem dX5_leastFilled_47 : decode cX5_leastFilled 47 = .ok (.istore_n 3, 1) := by decide +kernel
theorem dX5_leastFilled_48 : decode cX5_leastFilled 48 = .ok (.iinc 4 1, 3) := by decide +kernel
theorem dX5_leastFilled_51 : decode cX5_leastFilled 51 = .ok (.goto (-45), 3) := by decide +kernel
theorem dX5_leastFilled_54 : decode cX5_leastFilled 54 = .ok (.iload_n 3, 1) := by decide +kernel
theorem dX5_leastFilled_55 : decode cX5_leastFilled 55 = .ok (.ldc 100, 2) := by decide +kernel
theorem dX5_leastFilled_57 : decode cX5_leastFilled 57 = .ok (.if_icmp .ge 7, 3) := by decide +kernel
theorem dX5_leastFilled_60 : decode cX5_leastFilled 60 = .ok (.iload_n 3, 1) := by decide +kernel
theorem dX5_leastFilled_61 : decode cX5_leastFilled 61 = .ok (.goto 4, 3) := by decide +kernel
theorem dX5_leastFilled_64 : decode cX5_leastFilled 64 = .ok (.iconst (-1), 1) := by decide +kernel
theorem dX5_leastFilled_65 : decode cX5_leastFilled 65 = .ok (.ireturn, 1) := by decide +kernel
theorem dX6_init_0 : decode cX6_init 0 = .ok (.aload_n 0, 1) := by decide +kernel
theorem dX6_init_1 : decode cX6_init 1 = .ok (.invokespecial 3, 3) := by decide +kernel
theorem dX6_init_4 : decode cX6_init 4 = .ok (.aload_n 0, 1) := by decide +kernel
theorem dX6_init_5 : decode cX6_init 5 = .ok (.new 9, 3) := by decide +kernel
theorem dX6_init_8 : decode cX6_init 8 = .ok (.dup, 1) := by decide +kernel
theorem dX6_init_9 : decode cX6_init 9 = .ok (.invokespecial 11, 3) := by decide +kernel
theorem dX6_init_12 : decode cX6_init 12 = .ok (.putfield 12, 3) := by decide +kernel
theorem dX6_init_15 : decode cX6_init 15 = .ok (.aload_n 0, 1) := by decide +kernel
theorem dX6_init_16 : decode cX6_init 16 = .ok (.new 9, 3) := by decide +kernel
theorem dX6_init_19 : decode cX6_init 19 = .ok (.dup, 1) := by decide +kernel
theorem dX6_init_20 : decode cX6_init 20 = .ok (.invokespecial 11, 3) := by decide +kernel
theorem dX6_init_23 : decode cX6_init 23 = .ok (.putfield 16, 3) := by decide +kernel
theorem dX6_init_26 : decode cX6_init 26 = .ok (.aload_n 0, 1) := by decide +kernel
theorem dX6_init_27 : decode cX6_init 27 = .ok (.new 9, 3) := by decide +kernel
theorem dX6_init_30 : decode cX6_init 30 = .ok (.dup, 1) := by decide +kernel
theorem dX6_init_31 : decode cX6_init 31 = .ok (.invokespecial 11, 3) := by decide +kernel
theorem dX6_init_34 : decode cX6_init 34 = .ok (.putfield 19, 3) := by decide +kernel
theorem dX6_init_37 : decode cX6_init 37 = .ok (.aload_n 0, 1) := by decide +kernel
theorem dX6_init_38 : decode cX6_init 38 = .ok (.new 22, 3) := by decide +kernel
theorem dX6_init_41 : decode cX6_init 41 = .ok (.dup, 1) := by decide +kernel
theorem dX6_init_42 : decode cX6_init 42 = .ok (.invokespecial 24, 3) := by decide +kernel
theorem dX6_init_45 : decode cX6_init 45 = .ok (.putfield 25, 3) := by decide +kernel
theorem dX6_init_48 : decode cX6_init 48 = .ok (.aload_n 0, 1) := by decide +kernel
theorem dX6_init_49 : decode cX6_init 49 = .ok (.new 29, 3) := by decide +kernel
theorem dX6_init_52 : decode cX6_init 52 = .ok (.dup, 1) := by decide +kernel
theorem dX6_init_53 : decode cX6_init 53 = .ok (.invokespecial 31, 3) := by decide +kernel
theorem dX6_init_56 : decode cX6_init 56 = .ok (.putfield 32, 3) := by decide +kernel
theorem dX6_init_59 : decode cX6_init 59 = .ok (.return_, 1) := by decide +kernel
theorem dX6_offer_0 : decode cX6_offer 0 = .ok (.iload_n 1, 1) := by decide +kernel
theorem dX6_offer_1 : decode cX6_offer 1 = .ok (.invokestatic 36, 3) := by decide +kernel
theorem dX6_offer_4 : decode cX6_offer 4 = .ok (.ifCond .eq 21, 3) := by decide +kernel
theorem dX6_offer_7 : decode cX6_offer 7 = .ok (.iload_n 2, 1) := by decide +kernel
theorem dX6_offer_8 : decode cX6_offer 8 = .ok (.invokestatic 40, 3) := by decide +kernel
theorem dX6_offer_11 : decode cX6_offer 11 = .ok (.ifCond .eq 14, 3) := by decide +kernel
theorem dX6_offer_14 : decode cX6_offer 14 = .ok (.iload_n 3, 1) := by decide +kernel
theorem dX6_offer_15 : decode cX6_offer 15 = .ok (.ifCond .lt 10, 3) := by decide +kernel
theorem dX6_offer_18 : decode cX6_offer 18 = .ok (.iload_n 3, 1) := by decide +kernel
theorem dX6_offer_19 : decode cX6_offer 19 = .ok (.sipush 999, 3) := by decide +kernel
theorem dX6_offer_22 : decode cX6_offer 22 = .ok (.if_icmp .le 13, 3) := by decide +kernel
theorem dX6_offer_25 : decode cX6_offer 25 = .ok (.new 44, 3) := by decide +kernel
theorem dX6_offer_28 : decode cX6_offer 28 = .ok (.dup, 1) := by decide +kernel
theorem dX6_offer_29 : decode cX6_offer 29 = .ok (.ldc 46, 2) := by decide +kernel
theorem dX6_offer_31 : decode cX6_offer 31 = .ok (.invokespecial 48, 3) := by decide +kernel
theorem dX6_offer_34 : decode cX6_offer 34 = .ok (.athrow, 1) := by decide +kernel
theorem dX6_offer_35 : decode cX6_offer 35 = .ok (.aload_n 0, 1) := by decide +kernel
theorem dX6_offer_36 : decode cX6_offer 36 = .ok (.getfield 51, 3) := by decide +kernel
theorem dX6_offer_39 : decode cX6_offer 39 = .ok (.bipush 8, 2) := by decide +kernel
theorem dX6_offer_41 : decode cX6_offer 41 = .ok (.if_icmp .ge 15, 3) := by decide +kernel
theorem dX6_offer_44 : decode cX6_offer 44 = .ok (.aload_n 0, 1) := by decide +kernel
theorem dX6_offer_45 : decode cX6_offer 45 = .ok (.getfield 12, 3) := by decide +kernel
theorem dX6_offer_48 : decode cX6_offer 48 = .ok (.invokevirtual 55, 3) := by decide +kernel
theorem dX6_offer_51 : decode cX6_offer 51 = .ok (.bipush 40, 2) := by decide +kernel
theorem dX6_offer_53 : decode cX6_offer 53 = .ok (.if_icmp .lt 13, 3) := by decide +kernel
theorem dX6_offer_56 : decode cX6_offer 56 = .ok (.new 59, 3) := by decide +kernel
theorem dX6_offer_59 : decode cX6_offer 59 = .ok (.dup, 1) := by decide +kernel
theorem dX6_offer_60 : decode cX6_offer 60 = .ok (.ldc 61, 2) := by decide +kernel
theorem dX6_offer_62 : decode cX6_offer 62 = .ok (.invokespecial 63, 3) := by decide +kernel
theorem dX6_offer_65 : decode cX6_offer 65 = .ok (.athrow, 1) := by decide +kernel
theorem dX6_offer_66 : decode cX6_offer 66 = .ok (.aload_n 0, 1) := by decide +kernel
theorem dX6_offer_67 : decode cX6_offer 67 = .ok (.getfield 12, 3) := by decide +kernel
theorem dX6_offer_70 : decode cX6_offer 70 = .ok (.new 64, 3) := by decide +kernel
theorem dX6_offer_73 : decode cX6_offer 73 = .ok (.dup, 1) := by decide +kernel
theorem dX6_offer_74 : decode cX6_offer 74 = .ok (.iload_n 1, 1) := by decide +kernel
theorem dX6_offer_75 : decode cX6_offer 75 = .ok (.iload_n 2, 1) := by decide +kernel
theorem dX6_offer_76 : decode cX6_offer 76 = .ok (.iload_n 3, 1) := by decide +kernel
theorem dX6_offer_77 : decode cX6_offer 77 = .ok (.invokespecial 66, 3) := by decide +kernel
theorem dX6_offer_80 : decode cX6_offer 80 = .ok (.invokevirtual 69, 3) := by decide +kernel
theorem dX6_offer_83 : decode cX6_offer 83 = .ok (.pop, 1) := by decide +kernel
theorem dX6_offer_84 : decode cX6_offer 84 = .ok (.aload_n 0, 1) := by decide +kernel
end
section
theorem dX6_offer_85 : decode cX6_offer 85 = .ok (.dup, 1) := by decide +kernel
theorem dX6_offer_86 : decode cX6_offer 86 = .ok (.getfield 51, 3) := by decide +kernel
theorem dX6_offer_89 : decode cX6_offer 89 = .ok (.iconst 1, 1) := by decide +kernel
theorem dX6_offer_90 : decode cX6_offer 90 = .ok (.iadd, 1) := by decide +kernel
theorem dX6_offer_91 : decode cX6_offer 91 = .ok (.putfield 51, 3) := by decide +kernel
theorem dX6_offer_94 : decode cX6_offer 94 = .ok (.aload_n 0, 1) := by decide +kernel
theorem dX6_offer_95 : decode cX6_offer 95 = .ok (.getfield 12, 3) := by decide +kernel
theorem dX6_offer_98 : decode cX6_offer 98 = .ok (.invokevirtual 55, 3) := by decide +kernel
theorem dX6_offer_101 : decode cX6_offer 101 = .ok (.iconst 1, 1) := by decide +kernel
theorem dX6_offer_102 : decode cX6_offer 102 = .ok (.isub, 1) := by decide +kernel
theorem dX6_offer_103 : decode cX6_offer 103 = .ok (.ireturn, 1) := by decide +kernel
theorem dX6_withdraw_0 : decode cX6_withdraw 0 = .ok (.aload_n 0, 1) := by decide +kernel
theorem dX6_withdraw_1 : decode cX6_withdraw 1 = .ok (.iload_n 1, 1) := by decide +kernel
theorem dX6_withdraw_2 : decode cX6_withdraw 2 = .ok (.invokevirtual 73, 3) := by decide +kernel
theorem dX6_withdraw_5 : decode cX6_withdraw 5 = .ok (.astore_n 2, 1) := by decide +kernel
theorem dX6_withdraw_6 : decode cX6_withdraw 6 = .ok (.aload_n 2, 1) := by decide +kernel
theorem dX6_withdraw_7 : decode cX6_withdraw 7 = .ok (.getfield 77, 3) := by decide +kernel
theorem dX6_withdraw_10 : decode cX6_withdraw 10 = .ok (.bipush 111, 2) := by decide +kernel
theorem dX6_withdraw_12 : decode cX6_withdraw 12 = .ok (.if_icmp .eq 13, 3) := by decide +kernel
theorem dX6_withdraw_15 : decode cX6_withdraw 15 = .ok (.new 59, 3) := by decide +kernel
theorem dX6_withdraw_18 : decode cX6_withdraw 18 = .ok (.dup, 1) := by decide +kernel
theorem dX6_withdraw_19 : decode cX6_withdraw 19 = .ok (.ldc 81, 2) := by decide +kernel
theorem dX6_withdraw_21 : decode cX6_withdraw 21 = .ok (.invokespecial 63, 3) := by decide +kernel
theorem dX6_withdraw_24 : decode cX6_withdraw 24 = .ok (.athrow, 1) := by decide +kernel
theorem dX6_withdraw_25 : decode cX6_withdraw 25 = .ok (.aload_n 2, 1) := by decide +kernel
theorem dX6_withdraw_26 : decode cX6_withdraw 26 = .ok (.bipush 119, 2) := by decide +kernel
theorem dX6_withdraw_28 : decode cX6_withdraw 28 = .ok (.putfield 77, 3) := by decide +kernel
theorem dX6_withdraw_31 : decode cX6_withdraw 31 = .ok (.aload_n 0, 1) := by decide +kernel
theorem dX6_withdraw_32 : decode cX6_withdraw 32 = .ok (.dup, 1) := by decide +kernel
theorem dX6_withdraw_33 : decode cX6_withdraw 33 = .ok (.getfield 51, 3) := by decide +kernel
theorem dX6_withdraw_36 : decode cX6_withdraw 36 = .ok (.iconst 1, 1) := by decide +kernel
theorem dX6_withdraw_37 : decode cX6_withdraw 37 = .ok (.isub, 1) := by decide +kernel
theorem dX6_withdraw_38 : decode cX6_withdraw 38 = .ok (.putfield 51, 3) := by decide +kernel
theorem dX6_withdraw_41 : decode cX6_withdraw 41 = .ok (.aload_n 0, 1) := by decide +kernel
theorem dX6_withdraw_42 : decode cX6_withdraw 42 = .ok (.getfield 51, 3) := by decide +kernel
theorem dX6_withdraw_45 : decode cX6_withdraw 45 = .ok (.ireturn, 1) := by decide +kernel
theorem dX6_allow_0 : decode cX6_allow 0 = .ok (.iload_n 1, 1) := by decide +kernel
theorem dX6_allow_1 : decode cX6_allow 1 = .ok (.invokestatic 36, 3) := by decide +kernel
theorem dX6_allow_4 : decode cX6_allow 4 = .ok (.ifCond .eq 19, 3) := by decide +kernel
theorem dX6_allow_7 : decode cX6_allow 7 = .ok (.iload_n 2, 1) := by decide +kernel
theorem dX6_allow_8 : decode cX6_allow 8 = .ok (.invokestatic 36, 3) := by decide +kernel
theorem dX6_allow_11 : decode cX6_allow 11 = .ok (.ifCond .eq 12, 3) := by decide +kernel
theorem dX6_allow_14 : decode cX6_allow 14 = .ok (.iload_n 3, 1) := by decide +kernel
theorem dX6_allow_15 : decode cX6_allow 15 = .ok (.ifCond .lt 8, 3) := by decide +kernel
theorem dX6_allow_18 : decode cX6_allow 18 = .ok (.iload_n 3, 1) := by decide +kernel
theorem dX6_allow_19 : decode cX6_allow 19 = .ok (.iconst 4, 1) := by decide +kernel
theorem dX6_allow_20 : decode cX6_allow 20 = .ok (.if_icmp .le 13, 3) := by decide +kernel
theorem dX6_allow_23 : decode cX6_allow 23 = .ok (.new 44, 3) := by decide +kernel
theorem dX6_allow_26 : decode cX6_allow 26 = .ok (.dup, 1) := by decide +kernel
theorem dX6_allow_27 : decode cX6_allow 27 = .ok (.ldc 83, 2) := by decide +kernel
theorem dX6_allow_29 : decode cX6_allow 29 = .ok (.invokespecial 48, 3) := by decide +kernel
theorem dX6_allow_32 : decode cX6_allow 32 = .ok (.athrow, 1) := by decide +kernel
theorem dX6_allow_33 : decode cX6_allow 33 = .ok (.aload_n 0, 1) := by decide +kernel
theorem dX6_allow_34 : decode cX6_allow 34 = .ok (.getfield 19, 3) := by decide +kernel
theorem dX6_allow_37 : decode cX6_allow 37 = .ok (.invokevirtual 55, 3) := by decide +kernel
theorem dX6_allow_40 : decode cX6_allow 40 = .ok (.bipush 6, 2) := by decide +kernel
theorem dX6_allow_42 : decode cX6_allow 42 = .ok (.if_icmp .lt 13, 3) := by decide +kernel
theorem dX6_allow_45 : decode cX6_allow 45 = .ok (.new 59, 3) := by decide +kernel
theorem dX6_allow_48 : decode cX6_allow 48 = .ok (.dup, 1) := by decide +kernel
theorem dX6_allow_49 : decode cX6_allow 49 = .ok (.ldc 85, 2) := by decide +kernel
theorem dX6_allow_51 : decode cX6_allow 51 = .ok (.invokespecial 63, 3) := by decide +kernel
theorem dX6_allow_54 : decode cX6_allow 54 = .ok (.athrow, 1) := by decide +kernel
theorem dX6_allow_55 : decode cX6_allow 55 = .ok (.aload_n 0, 1) := by decide +kernel
theorem dX6_allow_56 : decode cX6_allow 56 = .ok (.getfield 19, 3) := by decide +kernel
theorem dX6_allow_59 : decode cX6_allow 59 = .ok (.new 87, 3) := by decide +kernel
theorem dX6_allow_62 : decode cX6_allow 62 = .ok (.dup, 1) := by decide +kernel
theorem dX6_allow_63 : decode cX6_allow 63 = .ok (.iload_n 1, 1) := by decide +kernel
theorem dX6_allow_64 : decode cX6_allow 64 = .ok (.iload_n 2, 1) := by decide +kernel
theorem dX6_allow_65 : decode cX6_allow 65 = .ok (.iload_n 3, 1) := by decide +kernel
theorem dX6_allow_66 : decode cX6_allow 66 = .ok (.invokespecial 89, 3) := by decide +kernel
theorem dX6_allow_69 : decode cX6_allow 69 = .ok (.invokevirtual 69, 3) := by decide +kernel
theorem dX6_allow_72 : decode cX6_allow 72 = .ok (.pop, 1) := by decide +kernel
theorem dX6_allow_73 : decode cX6_allow 73 = .ok (.aload_n 0, 1) := by decide +kernel
theorem dX6_allow_74 : decode cX6_allow 74 = .ok (.getfield 19, 3) := by decide +kernel
theorem dX6_allow_77 : decode cX6_allow 77 = .ok (.invokevirtual 55, 3) := by decide +kernel
theorem dX6_allow_80 : decode cX6_allow 80 = .ok (.ireturn, 1) := by decide +kernel
theorem dX6_forbid_0 : decode cX6_forbid 0 = .ok (.aload_n 0, 1) := by decide +kernel
theorem dX6_forbid_1 : decode cX6_forbid 1 = .ok (.getfield 19, 3) := by decide +kernel
theorem dX6_forbid_4 : decode cX6_forbid 4 = .ok (.invokevirtual 92, 3) := by decide +kernel
theorem dX6_forbid_7 : decode cX6_forbid 7 = .ok (.ifCond .eq 13, 3) := by decide +kernel
theorem dX6_forbid_10 : decode cX6_forbid 10 = .ok (.new 59, 3) := by decide +kernel
theorem dX6_forbid_13 : decode cX6_forbid 13 = .ok (.dup, 1) := by decide +kernel
theorem dX6_forbid_14 : decode cX6_forbid 14 = .ok (.ldc 96, 2) := by decide +kernel
theorem dX6_forbid_16 : decode cX6_forbid 16 = .ok (.invokespecial 63, 3) := by decide +kernel
theorem dX6_forbid_19 : decode cX6_forbid 19 = .ok (.athrow, 1) := by decide +kernel
theorem dX6_forbid_20 : decode cX6_forbid 20 = .ok (.aload_n 0, 1) := by decide +kernel
theorem dX6_forbid_21 : decode cX6_forbid 21 = .ok (.getfield 19, 3) := by decide +kernel
theorem dX6_forbid_24 : decode cX6_forbid 24 = .ok (.aload_n 0, 1) := by decide +kernel
theorem dX6_forbid_25 : decode cX6_forbid 25 = .ok (.getfield 19, 3) := by decide +kernel
theorem dX6_forbid_28 : decode cX6_forbid 28 = .ok (.invokevirtual 55, 3) := by decide +kernel
theorem dX6_forbid_31 : decode cX6_forbid 31 = .ok (.iconst 1, 1) := by decide +kernel
theorem dX6_forbid_32 : decode cX6_forbid 32 = .ok (.isub, 1) := by decide +kernel
theorem dX6_forbid_33 : decode cX6_forbid 33 = .ok (.invokevirtual 98, 3) := by decide +kernel
theorem dX6_forbid_36 : decode cX6_forbid 36 = .ok (.pop, 1) := by decide +kernel
theorem dX6_forbid_37 : decode cX6_forbid 37 = .ok (.aload_n 0, 1) := by decide +kernel
theorem dX6_forbid_38 : decode cX6_forbid 38 = .ok (.getfield 19, 3) := by decide +kernel
theorem dX6_forbid_41 : decode cX6_forbid 41 = .ok (.invokevirtual 55, 3) := by decide +kernel
theorem dX6_forbid_44 : decode cX6_forbid 44 = .ok (.ireturn, 1) := by decide +kernel
theorem dX6_bid_0 : decode cX6_bid 0 = .ok (.iload_n 1, 1) := by decide +kernel
theorem dX6_bid_1 : decode cX6_bid 1 = .ok (.invokestatic 102, 3) := by decide +kernel
theorem dX6_bid_4 : decode cX6_bid 4 = .ok (.ifCond .eq 14, 3) := by decide +kernel
theorem dX6_bid_7 : decode cX6_bid 7 = .ok (.iload_n 2, 1) := by decide +kernel
theorem dX6_bid_8 : decode cX6_bid 8 = .ok (.ifCond .lt 10, 3) := by decide +kernel
theorem dX6_bid_11 : decode cX6_bid 11 = .ok (.iload_n 2, 1) := by decide +kernel
theorem dX6_bid_12 : decode cX6_bid 12 = .ok (.sipush 9999, 3) := by decide +kernel
theorem dX6_bid_15 : decode cX6_bid 15 = .ok (.if_icmp .le 13, 3) := by decide +kernel
theorem dX6_bid_18 : decode cX6_bid 18 = .ok (.new 44, 3) := by decide +kernel
theorem dX6_bid_21 : decode cX6_bid 21 = .ok (.dup, 1) := by decide +kernel
theorem dX6_bid_22 : decode cX6_bid 22 = .ok (.ldc 105, 2) := by decide +kernel
theorem dX6_bid_24 : decode cX6_bid 24 = .ok (.invokespecial 48, 3) := by decide +kernel
theorem dX6_bid_27 : decode cX6_bid 27 = .ok (.athrow, 1) := by decide +kernel
theorem dX6_bid_28 : decode cX6_bid 28 = .ok (.aload_n 0, 1) := by decide +kernel
theorem dX6_bid_29 : decode cX6_bid 29 = .ok (.getfield 107, 3) := by decide +kernel
theorem dX6_bid_32 : decode cX6_bid 32 = .ok (.bipush 8, 2) := by decide +kernel
theorem dX6_bid_34 : decode cX6_bid 34 = .ok (.if_icmp .ge 15, 3) := by decide +kernel
theorem dX6_bid_37 : decode cX6_bid 37 = .ok (.aload_n 0, 1) := by decide +kernel
theorem dX6_bid_38 : decode cX6_bid 38 = .ok (.getfield 16, 3) := by decide +kernel
theorem dX6_bid_41 : decode cX6_bid 41 = .ok (.invokevirtual 55, 3) := by decide +kernel
theorem dX6_bid_44 : decode cX6_bid 44 = .ok (.bipush 40, 2) := by decide +kernel
theorem dX6_bid_46 : decode cX6_bid 46 = .ok (.if_icmp .lt 13, 3) := by decide +kernel
theorem dX6_bid_49 : decode cX6_bid 49 = .ok (.new 59, 3) := by decide +kernel
theorem dX6_bid_52 : decode cX6_bid 52 = .ok (.dup, 1) := by decide +kernel
theorem dX6_bid_53 : decode cX6_bid 53 = .ok (.ldc 110, 2) := by decide +kernel
theorem dX6_bid_55 : decode cX6_bid 55 = .ok (.invokespecial 63, 3) := by decide +kernel
theorem dX6_bid_58 : decode cX6_bid 58 = .ok (.athrow, 1) := by decide +kernel
theorem dX6_bid_59 : decode cX6_bid 59 = .ok (.aload_n 0, 1) := by decide +kernel
theorem dX6_bid_60 : decode cX6_bid 60 = .ok (.getfield 16, 3) := by decide +kernel
theorem dX6_bid_63 : decode cX6_bid 63 = .ok (.new 112, 3) := by decide +kernel
theorem dX6_bid_66 : decode cX6_bid 66 = .ok (.dup, 1) := by decide +kernel
theorem dX6_bid_67 : decode cX6_bid 67 = .ok (.iload_n 1, 1) := by decide +kernel
theorem dX6_bid_68 : decode cX6_bid 68 = .ok (.iload_n 2, 1) := by decide +kernel
theorem dX6_bid_69 : decode cX6_bid 69 = .ok (.invokespecial 114, 3) := by decide +kernel
theorem dX6_bid_72 : decode cX6_bid 72 = .ok (.invokevirtual 69, 3) := by decide +kernel
theorem dX6_bid_75 : decode cX6_bid 75 = .ok (.pop, 1) := by decide +kernel
theorem dX6_bid_76 : decode cX6_bid 76 = .ok (.aload_n 0, 1) := by decide +kernel
theorem dX6_bid_77 : decode cX6_bid 77 = .ok (.dup, 1) := by decide +kernel
theorem dX6_bid_78 : decode cX6_bid 78 = .ok (.getfield 107, 3) := by decide +kernel
theorem dX6_bid_81 : decode cX6_bid 81 = .ok (.iconst 1, 1) := by decide +kernel
theorem dX6_bid_82 : decode cX6_bid 82 = .ok (.iadd, 1) := by decide +kernel
theorem dX6_bid_83 : decode cX6_bid 83 = .ok (.putfield 107, 3) := by decide +kernel
theorem dX6_bid_86 : decode cX6_bid 86 = .ok (.aload_n 0, 1) := by decide +kernel
theorem dX6_bid_87 : decode cX6_bid 87 = .ok (.getfield 16, 3) := by decide +kernel
theorem dX6_bid_90 : decode cX6_bid 90 = .ok (.invokevirtual 55, 3) := by decide +kernel
theorem dX6_bid_93 : decode cX6_bid 93 = .ok (.iconst 1, 1) := by decide +kernel
theorem dX6_bid_94 : decode cX6_bid 94 = .ok (.isub, 1) := by decide +kernel
theorem dX6_bid_95 : decode cX6_bid 95 = .ok (.ireturn, 1) := by decide +kernel
theorem dX6_ask_0 : decode cX6_ask 0 = .ok (.aload_n 0, 1) := by decide +kernel
theorem dX6_ask_1 : decode cX6_ask 1 = .ok (.iload_n 1, 1) := by decide +kernel
theorem dX6_ask_2 : decode cX6_ask 2 = .ok (.invokevirtual 117, 3) := by decide +kernel
theorem dX6_ask_5 : decode cX6_ask 5 = .ok (.astore 4, 2) := by decide +kernel
theorem dX6_ask_7 : decode cX6_ask 7 = .ok (.iload_n 2, 1) := by decide +kernel
theorem dX6_ask_8 : decode cX6_ask 8 = .ok (.invokestatic 36, 3) := by decide +kernel
theorem dX6_ask_11 : decode cX6_ask 11 = .ok (.ifCond .eq 10, 3) := by decide +kernel
theorem dX6_ask_14 : decode cX6_ask 14 = .ok (.iload_n 3, 1) := by decide +kernel
theorem dX6_ask_15 : decode cX6_ask 15 = .ok (.invokestatic 40, 3) := by decide +kernel
theorem dX6_ask_18 : decode cX6_ask 18 = .ok (.ifCond .ne 13, 3) := by decide +kernel
theorem dX6_ask_21 : decode cX6_ask 21 = .ok (.new 44, 3) := by decide +kernel
theorem dX6_ask_24 : decode cX6_ask 24 = .ok (.dup, 1) := by decide +kernel
theorem dX6_ask_25 : decode cX6_ask 25 = .ok (.ldc 121, 2) := by decide +kernel
theorem dX6_ask_27 : decode cX6_ask 27 = .ok (.invokespecial 48, 3) := by decide +kernel
theorem dX6_ask_30 : decode cX6_ask 30 = .ok (.athrow, 1) := by decide +kernel
theorem dX6_ask_31 : decode cX6_ask 31 = .ok (.aload 4, 2) := by decide +kernel
theorem dX6_ask_33 : decode cX6_ask 33 = .ok (.getfield 123, 3) := by decide +kernel
theorem dX6_ask_36 : decode cX6_ask 36 = .ok (.bipush 111, 2) := by decide +kernel
theorem dX6_ask_38 : decode cX6_ask 38 = .ok (.if_icmp .ne 15, 3) := by decide +kernel
theorem dX6_ask_41 : decode cX6_ask 41 = .ok (.aload 4, 2) := by decide +kernel
theorem dX6_ask_43 : decode cX6_ask 43 = .ok (.getfield 124, 3) := by decide +kernel
theorem dX6_ask_46 : decode cX6_ask 46 = .ok (.invokevirtual 55, 3) := by decide +kernel
theorem dX6_ask_49 : decode cX6_ask 49 = .ok (.iconst 3, 1) := by decide +kernel
theorem dX6_ask_50 : decode cX6_ask 50 = .ok (.if_icmp .lt 13, 3) := by decide +kernel
theorem dX6_ask_53 : decode cX6_ask 53 = .ok (.new 59, 3) := by decide +kernel
theorem dX6_ask_56 : decode cX6_ask 56 = .ok (.dup, 1) := by decide +kernel
theorem dX6_ask_57 : decode cX6_ask 57 = .ok (.ldc 127, 2) := by decide +kernel
theorem dX6_ask_59 : decode cX6_ask 59 = .ok (.invokespecial 63, 3) := by decide +kernel
theorem dX6_ask_62 : decode cX6_ask 62 = .ok (.athrow, 1) := by decide +kernel
theorem dX6_ask_63 : decode cX6_ask 63 = .ok (.aload 4, 2) := by decide +kernel
theorem dX6_ask_65 : decode cX6_ask 65 = .ok (.getfield 124, 3) := by decide +kernel
theorem dX6_ask_68 : decode cX6_ask 68 = .ok (.new 129, 3) := by decide +kernel
theorem dX6_ask_71 : decode cX6_ask 71 = .ok (.dup, 1) := by decide +kernel
theorem dX6_ask_72 : decode cX6_ask 72 = .ok (.iload_n 2, 1) := by decide +kernel
theorem dX6_ask_73 : decode cX6_ask 73 = .ok (.iload_n 3, 1) := by decide +kernel
theorem dX6_ask_74 : decode cX6_ask 74 = .ok (.invokespecial 131, 3) := by decide +kernel
theorem dX6_ask_77 : decode cX6_ask 77 = .ok (.invokevirtual 69, 3) := by decide +kernel
theorem dX6_ask_80 : decode cX6_ask 80 = .ok (.pop, 1) := by decide +kernel
theorem dX6_ask_81 : decode cX6_ask 81 = .ok (.aload 4, 2) := by decide +kernel
theorem dX6_ask_83 : decode cX6_ask 83 = .ok (.getfield 124, 3) := by decide +kernel
theorem dX6_ask_86 : decode cX6_ask 86 = .ok (.invokevirtual 55, 3) := by decide +kernel
theorem dX6_ask_89 : decode cX6_ask 89 = .ok (.ireturn, 1) := by decide +kernel
theorem dX6_raise_0 : decode cX6_raise 0 = .ok (.aload_n 0, 1) := by decide +kernel
theorem dX6_raise_1 : decode cX6_raise 1 = .ok (.iload_n 1, 1) := by decide +kernel
theorem dX6_raise_2 : decode cX6_raise 2 = .ok (.invokevirtual 134, 3) := by decide +kernel
theorem dX6_raise_5 : decode cX6_raise 5 = .ok (.astore_n 3, 1) := by decide +kernel
theorem dX6_raise_6 : decode cX6_raise 6 = .ok (.aload_n 3, 1) := by decide +kernel
theorem dX6_raise_7 : decode cX6_raise 7 = .ok (.getfield 137, 3) := by decide +kernel
theorem dX6_raise_10 : decode cX6_raise 10 = .ok (.istore 4, 2) := by decide +kernel
theorem dX6_raise_12 : decode cX6_raise 12 = .ok (.iload_n 2, 1) := by decide +kernel
theorem dX6_raise_13 : decode cX6_raise 13 = .ok (.iload 4, 2) := by decide +kernel
theorem dX6_raise_15 : decode cX6_raise 15 = .ok (.if_icmp .le 10, 3) := by decide +kernel
theorem dX6_raise_18 : decode cX6_raise 18 = .ok (.iload_n 2, 1) := by decide +kernel
theorem dX6_raise_19 : decode cX6_raise 19 = .ok (.sipush 9999, 3) := by decide +kernel
theorem dX6_raise_22 : decode cX6_raise 22 = .ok (.if_icmp .le 13, 3) := by decide +kernel
theorem dX6_raise_25 : decode cX6_raise 25 = .ok (.new 44, 3) := by decide +kernel
theorem dX6_raise_28 : decode cX6_raise 28 = .ok (.dup, 1) := by decide +kernel
theorem dX6_raise_29 : decode cX6_raise 29 = .ok (.ldc 140, 2) := by decide +kernel
theorem dX6_raise_31 : decode cX6_raise 31 = .ok (.invokespecial 48, 3) := by decide +kernel
theorem dX6_raise_34 : decode cX6_raise 34 = .ok (.athrow, 1) := by decide +kernel
theorem dX6_raise_35 : decode cX6_raise 35 = .ok (.aload_n 3, 1) := by decide +kernel
theorem dX6_raise_36 : decode cX6_raise 36 = .ok (.iload_n 2, 1) := by decide +kernel
theorem dX6_raise_37 : decode cX6_raise 37 = .ok (.putfield 137, 3) := by decide +kernel
theorem dX6_raise_40 : decode cX6_raise 40 = .ok (.iload 4, 2) := by decide +kernel
theorem dX6_raise_42 : decode cX6_raise 42 = .ok (.ireturn, 1) := by decide +kernel
theorem dX6_cancel_0 : decode cX6_cancel 0 = .ok (.aload_n 0, 1) := by decide +kernel
theorem dX6_cancel_1 : decode cX6_cancel 1 = .ok (.iload_n 1, 1) := by decide +kernel
theorem dX6_cancel_2 : decode cX6_cancel 2 = .ok (.invokevirtual 134, 3) := by decide +kernel
theorem dX6_cancel_5 : decode cX6_cancel 5 = .ok (.astore_n 2, 1) := by decide +kernel
theorem dX6_cancel_6 : decode cX6_cancel 6 = .ok (.aload_n 2, 1) := by decide +kernel
theorem dX6_cancel_7 : decode cX6_cancel 7 = .ok (.bipush 99, 2) := by decide +kernel
theorem dX6_cancel_9 : decode cX6_cancel 9 = .ok (.putfield 123, 3) := by decide +kernel
theorem dX6_cancel_12 : decode cX6_cancel 12 = .ok (.aload_n 0, 1) := by decide +kernel
theorem dX6_cancel_13 : decode cX6_cancel 13 = .ok (.dup, 1) := by decide +kernel
theorem dX6_cancel_14 : decode cX6_cancel 14 = .ok (.getfield 107, 3) := by decide +kernel
theorem dX6_cancel_17 : decode cX6_cancel 17 = .ok (.iconst 1, 1) := by decide +kernel
theorem dX6_cancel_18 : decode cX6_cancel 18 = .ok (.isub, 1) := by decide +kernel
theorem dX6_cancel_19 : decode cX6_cancel 19 = .ok (.putfield 107, 3) := by decide +kernel
theorem dX6_cancel_22 : decode cX6_cancel 22 = .ok (.aload_n 2, 1) := by decide +kernel
theorem dX6_cancel_23 : decode cX6_cancel 23 = .ok (.getfield 137, 3) := by decide +kernel
theorem dX6_cancel_26 : decode cX6_cancel 26 = .ok (.ireturn, 1) := by decide +kernel
theorem dX6_close_0 : decode cX6_close 0 = .ok (.aload_n 0, 1) := by decide +kernel
theorem dX6_close_1 : decode cX6_close 1 = .ok (.getfield 107, 3) := by decide +kernel
theorem dX6_close_4 : decode cX6_close 4 = .ok (.ifCond .gt 13, 3) := by decide +kernel
theorem dX6_close_7 : decode cX6_close 7 = .ok (.new 59, 3) := by decide +kernel
theorem dX6_close_10 : decode cX6_close 10 = .ok (.dup, 1) := by decide +kernel
theorem dX6_close_11 : decode cX6_close 11 = .ok (.ldc 142, 2) := by decide +kernel
theorem dX6_close_13 : decode cX6_close 13 = .ok (.invokespecial 63, 3) := by decide +kernel
theorem dX6_close_16 : decode cX6_close 16 = .ok (.athrow, 1) := by decide +kernel
theorem dX6_close_17 : decode cX6_close 17 = .ok (.aload_n 0, 1) := by decide +kernel
theorem dX6_close_18 : decode cX6_close 18 = .ok (.invokevirtual 144, 3) := by decide +kernel
theorem dX6_close_21 : decode cX6_close 21 = .ok (.aload_n 0, 1) := by decide +kernel
theorem dX6_close_22 : decode cX6_close 22 = .ok (.getfield 32, 3) := by decide +kernel
theorem dX6_close_25 : decode cX6_close 25 = .ok (.aload_n 0, 1) := by decide +kernel
theorem dX6_close_26 : decode cX6_close 26 = .ok (.getfield 25, 3) := by decide +kernel
theorem dX6_close_29 : decode cX6_close 29 = .ok (.iconst (-1), 1) := by decide +kernel
theorem dX6_close_30 : decode cX6_close 30 = .ok (.invokevirtual 147, 3) := by decide +kernel
theorem dX6_close_33 : decode cX6_close 33 = .ok (.aload_n 0, 1) := by decide +kernel
theorem dX6_close_34 : decode cX6_close 34 = .ok (.getfield 32, 3) := by decide +kernel
theorem dX6_close_37 : decode cX6_close 37 = .ok (.getfield 151, 3) := by decide +kernel
theorem dX6_close_40 : decode cX6_close 40 = .ok (.istore_n 1, 1) := by decide +kernel
theorem dX6_close_41 : decode cX6_close 41 = .ok (.aload_n 0, 1) := by decide +kernel
theorem dX6_close_42 : decode cX6_close 42 = .ok (.getfield 32, 3) := by decide +kernel
theorem dX6_close_45 : decode cX6_close 45 = .ok (.getfield 154, 3) := by decide +kernel
theorem dX6_close_48 : decode cX6_close 48 = .ok (.istore_n 2, 1) := by decide +kernel
theorem dX6_close_49 : decode cX6_close 49 = .ok (.aload_n 0, 1) := by decide +kernel
theorem dX6_close_50 : decode cX6_close 50 = .ok (.iload_n 1, 1) := by decide +kernel
theorem dX6_close_51 : decode cX6_close 51 = .ok (.iload_n 2, 1) := by decide +kernel
theorem dX6_close_52 : decode cX6_close 52 = .ok (.invokevirtual 157, 3) := by decide +kernel
theorem dX6_close_55 : decode cX6_close 55 = .ok (.aload_n 0, 1) := by decide +kernel
theorem dX6_close_56 : decode cX6_close 56 = .ok (.iload_n 1, 1) := by decide +kernel
theorem dX6_close_57 : decode cX6_close 57 = .ok (.invokevirtual 160, 3) := by decide +kernel
theorem dX6_close_60 : decode cX6_close 60 = .ok (.istore_n 3, 1) := by decide +kernel
theorem dX6_close_61 : decode cX6_close 61 = .ok (.aload_n 0, 1) := by decide +kernel
theorem dX6_close_62 : decode cX6_close 62 = .ok (.iload_n 1, 1) := by decide +kernel
theorem dX6_close_63 : decode cX6_close 63 = .ok (.invokevirtual 164, 3) := by decide +kernel
theorem dX6_close_66 : decode cX6_close 66 = .ok (.aload_n 0, 1) := by decide +kernel
theorem dX6_close_67 : decode cX6_close 67 = .ok (.dup, 1) := by decide +kernel
theorem dX6_close_68 : decode cX6_close 68 = .ok (.getfield 51, 3) := by decide +kernel
theorem dX6_close_71 : decode cX6_close 71 = .ok (.iload_n 3, 1) := by decide +kernel
theorem dX6_close_72 : decode cX6_close 72 = .ok (.isub, 1) := by decide +kernel
theorem dX6_close_73 : decode cX6_close 73 = .ok (.putfield 51, 3) := by decide +kernel
theorem dX6_close_76 : decode cX6_close 76 = .ok (.aload_n 0, 1) := by decide +kernel
theorem dX6_close_77 : decode cX6_close 77 = .ok (.dup, 1) := by decide +kernel
theorem dX6_close_78 : decode cX6_close 78 = .ok (.getfield 168, 3) := by decide +kernel
theorem dX6_close_81 : decode cX6_close 81 = .ok (.iload_n 3, 1) := by decide +kernel
theorem dX6_close_82 : decode cX6_close 82 = .ok (.iadd, 1) := by decide +kernel
theorem dX6_close_83 : decode cX6_close 83 = .ok (.putfield 168, 3) := by decide +kernel
theorem dX6_close_86 : decode cX6_close 86 = .ok (.aload_n 0, 1) := by decide +kernel
theorem dX6_close_87 : decode cX6_close 87 = .ok (.iconst 0, 1) := by decide +kernel
theorem dX6_close_88 : decode cX6_close 88 = .ok (.putfield 107, 3) := by decide +kernel
theorem dX6_close_91 : decode cX6_close 91 = .ok (.iload_n 3, 1) := by decide +kernel
theorem dX6_close_92 : decode cX6_close 92 = .ok (.ireturn, 1) := by decide +kernel
theorem dX6_lots_0 : decode cX6_lots 0 = .ok (.aload_n 0, 1) := by decide +kernel
theorem dX6_lots_1 : decode cX6_lots 1 = .ok (.getfield 12, 3) := by decide +kernel
theorem dX6_lots_4 : decode cX6_lots 4 = .ok (.invokevirtual 55, 3) := by decide +kernel
theorem dX6_lots_7 : decode cX6_lots 7 = .ok (.ireturn, 1) := by decide +kernel
theorem dX6_bids_0 : decode cX6_bids 0 = .ok (.aload_n 0, 1) := by decide +kernel
theorem dX6_bids_1 : decode cX6_bids 1 = .ok (.getfield 16, 3) := by decide +kernel
theorem dX6_bids_4 : decode cX6_bids 4 = .ok (.invokevirtual 55, 3) := by decide +kernel
theorem dX6_bids_7 : decode cX6_bids 7 = .ok (.ireturn, 1) := by decide +kernel
theorem dX6_openLots_0 : decode cX6_openLots 0 = .ok (.aload_n 0, 1) := by decide +kernel
theorem dX6_openLots_1 : decode cX6_openLots 1 = .ok (.getfield 51, 3) := by decide +kernel
theorem dX6_openLots_4 : decode cX6_openLots 4 = .ok (.ireturn, 1) := by decide +kernel
theorem dX6_openBids_0 : decode cX6_openBids 0 = .ok (.aload_n 0, 1) := by decide +kernel
theorem dX6_openBids_1 : decode cX6_openBids 1 = .ok (.getfield 107, 3) := by decide +kernel
theorem dX6_openBids_4 : decode cX6_openBids 4 = .ok (.ireturn, 1) := by decide +kernel
theorem dX6_fibreOf_0 : decode cX6_fibreOf 0 = .ok (.aload_n 0, 1) := by decide +kernel
theorem dX6_fibreOf_1 : decode cX6_fibreOf 1 = .ok (.iload_n 1, 1) := by decide +kernel
theorem dX6_fibreOf_2 : decode cX6_fibreOf 2 = .ok (.invokevirtual 73, 3) := by decide +kernel
theorem dX6_fibreOf_5 : decode cX6_fibreOf 5 = .ok (.getfield 171, 3) := by decide +kernel
theorem dX6_fibreOf_8 : decode cX6_fibreOf 8 = .ok (.ireturn, 1) := by decide +kernel
theorem dX6_gradeOf_0 : decode cX6_gradeOf 0 = .ok (.aload_n 0, 1) := by decide +kernel
theorem dX6_gradeOf_1 : decode cX6_gradeOf 1 = .ok (.iload_n 1, 1) := by decide +kernel
theorem dX6_gradeOf_2 : decode cX6_gradeOf 2 = .ok (.invokevirtual 73, 3) := by decide +kernel
theorem dX6_gradeOf_5 : decode cX6_gradeOf 5 = .ok (.getfield 174, 3) := by decide +kernel
theorem dX6_gradeOf_8 : decode cX6_gradeOf 8 = .ok (.ireturn, 1) := by decide +kernel
theorem dX6_reserveOf_0 : decode cX6_reserveOf 0 = .ok (.aload_n 0, 1) := by decide +kernel
theorem dX6_reserveOf_1 : decode cX6_reserveOf 1 = .ok (.iload_n 1, 1) := by decide +kernel
theorem dX6_reserveOf_2 : decode cX6_reserveOf 2 = .ok (.invokevirtual 73, 3) := by decide +kernel
theorem dX6_reserveOf_5 : decode cX6_reserveOf 5 = .ok (.getfield 177, 3) := by decide +kernel
theorem dX6_reserveOf_8 : decode cX6_reserveOf 8 = .ok (.ireturn, 1) := by decide +kernel
theorem dX6_lotState_0 : decode cX6_lotState 0 = .ok (.aload_n 0, 1) := by decide +kernel
theorem dX6_lotState_1 : decode cX6_lotState 1 = .ok (.iload_n 1, 1) := by decide +kernel
theorem dX6_lotState_2 : decode cX6_lotState 2 = .ok (.invokevirtual 73, 3) := by decide +kernel
theorem dX6_lotState_5 : decode cX6_lotState 5 = .ok (.getfield 77, 3) := by decide +kernel
theorem dX6_lotState_8 : decode cX6_lotState 8 = .ok (.ireturn, 1) := by decide +kernel
theorem dX6_soldTo_0 : decode cX6_soldTo 0 = .ok (.aload_n 0, 1) := by decide +kernel
theorem dX6_soldTo_1 : decode cX6_soldTo 1 = .ok (.iload_n 1, 1) := by decide +kernel
theorem dX6_soldTo_2 : decode cX6_soldTo 2 = .ok (.invokevirtual 73, 3) := by decide +kernel
theorem dX6_soldTo_5 : decode cX6_soldTo 5 = .ok (.astore_n 2, 1) := by decide +kernel
theorem dX6_soldTo_6 : decode cX6_soldTo 6 = .ok (.aload_n 2, 1) := by decide +kernel
theorem dX6_soldTo_7 : decode cX6_soldTo 7 = .ok (.getfield 77, 3) := by decide +kernel
theorem dX6_soldTo_10 : decode cX6_soldTo 10 = .ok (.bipush 115, 2) := by decide +kernel
theorem dX6_soldTo_12 : decode cX6_soldTo 12 = .ok (.if_icmp .eq 13, 3) := by decide +kernel
theorem dX6_soldTo_15 : decode cX6_soldTo 15 = .ok (.new 59, 3) := by decide +kernel
theorem dX6_soldTo_18 : decode cX6_soldTo 18 = .ok (.dup, 1) := by decide +kernel
theorem dX6_soldTo_19 : decode cX6_soldTo 19 = .ok (.ldc 180, 2) := by decide +kernel
theorem dX6_soldTo_21 : decode cX6_soldTo 21 = .ok (.invokespecial 63, 3) := by decide +kernel
theorem dX6_soldTo_24 : decode cX6_soldTo 24 = .ok (.athrow, 1) := by decide +kernel
theorem dX6_soldTo_25 : decode cX6_soldTo 25 = .ok (.aload_n 2, 1) := by decide +kernel
theorem dX6_soldTo_26 : decode cX6_soldTo 26 = .ok (.getfield 182, 3) := by decide +kernel
theorem dX6_soldTo_29 : decode cX6_soldTo 29 = .ok (.ireturn, 1) := by decide +kernel
theorem dX6_countOf_0 : decode cX6_countOf 0 = .ok (.iload_n 1, 1) := by decide +kernel
theorem dX6_countOf_1 : decode cX6_countOf 1 = .ok (.invokestatic 36, 3) := by decide +kernel
theorem dX6_countOf_4 : decode cX6_countOf 4 = .ok (.ifCond .eq 10, 3) := by decide +kernel
theorem dX6_countOf_7 : decode cX6_countOf 7 = .ok (.iload_n 2, 1) := by decide +kernel
theorem dX6_countOf_8 : decode cX6_countOf 8 = .ok (.invokestatic 40, 3) := by decide +kernel
theorem dX6_countOf_11 : decode cX6_countOf 11 = .ok (.ifCond .ne 13, 3) := by decide +kernel
theorem dX6_countOf_14 : decode cX6_countOf 14 = .ok (.new 44, 3) := by decide +kernel
theorem dX6_countOf_17 : decode cX6_countOf 17 = .ok (.dup, 1) := by decide +kernel
theorem dX6_countOf_18 : decode cX6_countOf 18 = .ok (.ldc 121, 2) := by decide +kernel
theorem dX6_countOf_20 : decode cX6_countOf 20 = .ok (.invokespecial 48, 3) := by decide +kernel
theorem dX6_countOf_23 : decode cX6_countOf 23 = .ok (.athrow, 1) := by decide +kernel
theorem dX6_countOf_24 : decode cX6_countOf 24 = .ok (.iconst 0, 1) := by decide +kernel
theorem dX6_countOf_25 : decode cX6_countOf 25 = .ok (.istore_n 3, 1) := by decide +kernel
theorem dX6_countOf_26 : decode cX6_countOf 26 = .ok (.iconst 0, 1) := by decide +kernel
theorem dX6_countOf_27 : decode cX6_countOf 27 = .ok (.istore 4, 2) := by decide +kernel
theorem dX6_countOf_29 : decode cX6_countOf 29 = .ok (.iload 4, 2) := by decide +kernel
theorem dX6_countOf_31 : decode cX6_countOf 31 = .ok (.aload_n 0, 1) := by decide +kernel
theorem dX6_countOf_32 : decode cX6_countOf 32 = .ok (.getfield 12, 3) := by decide +kernel
theorem dX6_countOf_35 : decode cX6_countOf 35 = .ok (.invokevirtual 55, 3) := by decide +kernel
theorem dX6_countOf_38 : decode cX6_countOf 38 = .ok (.if_icmp .ge 54, 3) := by decide +kernel
theorem dX6_countOf_41 : decode cX6_countOf 41 = .ok (.aload_n 0, 1) := by decide +kernel
theorem dX6_countOf_42 : decode cX6_countOf 42 = .ok (.getfield 12, 3) := by decide +kernel
theorem dX6_countOf_45 : decode cX6_countOf 45 = .ok (.iload 4, 2) := by decide +kernel
theorem dX6_countOf_47 : decode cX6_countOf 47 = .ok (.invokevirtual 185, 3) := by decide +kernel
theorem dX6_countOf_50 : decode cX6_countOf 50 = .ok (.checkcast 64, 3) := by decide +kernel
theorem dX6_countOf_53 : decode cX6_countOf 53 = .ok (.astore 5, 2) := by decide +kernel
theorem dX6_countOf_55 : decode cX6_countOf 55 = .ok (.aload 5, 2) := by decide +kernel
theorem dX6_countOf_57 : decode cX6_countOf 57 = .ok (.getfield 77, 3) := by decide +kernel
theorem dX6_countOf_60 : decode cX6_countOf 60 = .ok (.bipush 111, 2) := by decide +kernel
theorem dX6_countOf_62 : decode cX6_countOf 62 = .ok (.if_icmp .ne 24, 3) := by decide +kernel
theorem dX6_countOf_65 : decode cX6_countOf 65 = .ok (.aload 5, 2) := by decide +kernel
theorem dX6_countOf_67 : decode cX6_countOf 67 = .ok (.getfield 171, 3) := by decide +kernel
theorem dX6_countOf_70 : decode cX6_countOf 70 = .ok (.iload_n 1, 1) := by decide +kernel
theorem dX6_countOf_71 : decode cX6_countOf 71 = .ok (.if_icmp .ne 15, 3) := by decide +kernel
theorem dX6_countOf_74 : decode cX6_countOf 74 = .ok (.aload 5, 2) := by decide +kernel
theorem dX6_countOf_76 : decode cX6_countOf 76 = .ok (.getfield 174, 3) := by decide +kernel
theorem dX6_countOf_79 : decode cX6_countOf 79 = .ok (.iload_n 2, 1) := by decide +kernel
theorem dX6_countOf_80 : decode cX6_countOf 80 = .ok (.if_icmp .ne 6, 3) := by decide +kernel
theorem dX6_countOf_83 : decode cX6_countOf 83 = .ok (.iinc 3 1, 3) := by decide +kernel
theorem dX6_countOf_86 : decode cX6_countOf 86 = .ok (.iinc 4 1, 3) := by decide +kernel
theorem dX6_countOf_89 : decode cX6_countOf 89 = .ok (.goto (-60), 3) := by decide +kernel
theorem dX6_countOf_92 : decode cX6_countOf 92 = .ok (.iload_n 3, 1) := by decide +kernel
theorem dX6_countOf_93 : decode cX6_countOf 93 = .ok (.ireturn, 1) := by decide +kernel
theorem dX6_items_0 : decode cX6_items 0 = .ok (.aload_n 0, 1) := by decide +kernel
theorem dX6_items_1 : decode cX6_items 1 = .ok (.iload_n 1, 1) := by decide +kernel
theorem dX6_items_2 : decode cX6_items 2 = .ok (.invokevirtual 117, 3) := by decide +kernel
theorem dX6_items_5 : decode cX6_items 5 = .ok (.getfield 124, 3) := by decide +kernel
theorem dX6_items_8 : decode cX6_items 8 = .ok (.invokevirtual 55, 3) := by decide +kernel
theorem dX6_items_11 : decode cX6_items 11 = .ok (.ireturn, 1) := by decide +kernel
theorem dX6_fits_0 : decode cX6_fits 0 = .ok (.aload_n 0, 1) := by decide +kernel
theorem dX6_fits_1 : decode cX6_fits 1 = .ok (.iload_n 1, 1) := by decide +kernel
theorem dX6_fits_2 : decode cX6_fits 2 = .ok (.invokevirtual 73, 3) := by decide +kernel
theorem dX6_fits_5 : decode cX6_fits 5 = .ok (.astore 4, 2) := by decide +kernel
theorem dX6_fits_7 : decode cX6_fits 7 = .ok (.aload_n 0, 1) := by decide +kernel
theorem dX6_fits_8 : decode cX6_fits 8 = .ok (.aload 4, 2) := by decide +kernel
theorem dX6_fits_10 : decode cX6_fits 10 = .ok (.aload_n 0, 1) := by decide +kernel
theorem dX6_fits_11 : decode cX6_fits 11 = .ok (.iload_n 2, 1) := by decide +kernel
theorem dX6_fits_12 : decode cX6_fits 12 = .ok (.invokevirtual 117, 3) := by decide +kernel
theorem dX6_fits_15 : decode cX6_fits 15 = .ok (.iload_n 3, 1) := by decide +kernel
theorem dX6_fits_16 : decode cX6_fits 16 = .ok (.invokestatic 188, 3) := by decide +kernel
theorem dX6_fits_19 : decode cX6_fits 19 = .ok (.invokevirtual 192, 3) := by decide +kernel
theorem dX6_fits_22 : decode cX6_fits 22 = .ok (.ireturn, 1) := by decide +kernel
theorem dX6_fitting_0 : decode cX6_fitting 0 = .ok (.aload_n 0, 1) := by decide +kernel
theorem dX6_fitting_1 : decode cX6_fitting 1 = .ok (.iload_n 1, 1) := by decide +kernel
theorem dX6_fitting_2 : decode cX6_fitting 2 = .ok (.invokevirtual 117, 3) := by decide +kernel
theorem dX6_fitting_5 : decode cX6_fitting 5 = .ok (.iload_n 2, 1) := by decide +kernel
theorem dX6_fitting_6 : decode cX6_fitting 6 = .ok (.invokestatic 188, 3) := by decide +kernel
theorem dX6_fitting_9 : decode cX6_fitting 9 = .ok (.astore_n 3, 1) := by decide +kernel
theorem dX6_fitting_10 : decode cX6_fitting 10 = .ok (.iconst 0, 1) := by decide +kernel
theorem dX6_fitting_11 : decode cX6_fitting 11 = .ok (.istore 4, 2) := by decide +kernel
theorem dX6_fitting_13 : decode cX6_fitting 13 = .ok (.iconst 0, 1) := by decide +kernel
theorem dX6_fitting_14 : decode cX6_fitting 14 = .ok (.istore 5, 2) := by decide +kernel
theorem dX6_fitting_16 : decode cX6_fitting 16 = .ok (.iload 5, 2) := by decide +kernel
theorem dX6_fitting_18 : decode cX6_fitting 18 = .ok (.aload_n 0, 1) := by decide +kernel
theorem dX6_fitting_19 : decode cX6_fitting 19 = .ok (.getfield 12, 3) := by decide +kernel
theorem dX6_fitting_22 : decode cX6_fitting 22 = .ok (.invokevirtual 55, 3) := by decide +kernel
theorem dX6_fitting_25 : decode cX6_fitting 25 = .ok (.if_icmp .ge 46, 3) := by decide +kernel
theorem dX6_fitting_28 : decode cX6_fitting 28 = .ok (.aload_n 0, 1) := by decide +kernel
theorem dX6_fitting_29 : decode cX6_fitting 29 = .ok (.getfield 12, 3) := by decide +kernel
theorem dX6_fitting_32 : decode cX6_fitting 32 = .ok (.iload 5, 2) := by decide +kernel
theorem dX6_fitting_34 : decode cX6_fitting 34 = .ok (.invokevirtual 185, 3) := by decide +kernel
theorem dX6_fitting_37 : decode cX6_fitting 37 = .ok (.checkcast 64, 3) := by decide +kernel
theorem dX6_fitting_40 : decode cX6_fitting 40 = .ok (.astore 6, 2) := by decide +kernel
theorem dX6_fitting_42 : decode cX6_fitting 42 = .ok (.aload 6, 2) := by decide +kernel
theorem dX6_fitting_44 : decode cX6_fitting 44 = .ok (.getfield 77, 3) := by decide +kernel
theorem dX6_fitting_47 : decode cX6_fitting 47 = .ok (.bipush 111, 2) := by decide +kernel
theorem dX6_fitting_49 : decode cX6_fitting 49 = .ok (.if_icmp .ne 16, 3) := by decide +kernel
theorem dX6_fitting_52 : decode cX6_fitting 52 = .ok (.aload_n 0, 1) := by decide +kernel
theorem dX6_fitting_53 : decode cX6_fitting 53 = .ok (.aload 6, 2) := by decide +kernel
theorem dX6_fitting_55 : decode cX6_fitting 55 = .ok (.aload_n 3, 1) := by decide +kernel
theorem dX6_fitting_56 : decode cX6_fitting 56 = .ok (.invokevirtual 192, 3) := by decide +kernel
theorem dX6_fitting_59 : decode cX6_fitting 59 = .ok (.ifCond .eq 6, 3) := by decide +kernel
theorem dX6_fitting_62 : decode cX6_fitting 62 = .ok (.iinc 4 1, 3) := by decide +kernel
theorem dX6_fitting_65 : decode cX6_fitting 65 = .ok (.iinc 5 1, 3) := by decide +kernel
theorem dX6_fitting_68 : decode cX6_fitting 68 = .ok (.goto (-52), 3) := by decide +kernel
theorem dX6_fitting_71 : decode cX6_fitting 71 = .ok (.iload 4, 2) := by decide +kernel
theorem dX6_fitting_73 : decode cX6_fitting 73 = .ok (.ireturn, 1) := by decide +kernel
theorem dX6_priceOf_0 : decode cX6_priceOf 0 = .ok (.aload_n 0, 1) := by decide +kernel
theorem dX6_priceOf_1 : decode cX6_priceOf 1 = .ok (.iload_n 1, 1) := by decide +kernel
theorem dX6_priceOf_2 : decode cX6_priceOf 2 = .ok (.invokevirtual 117, 3) := by decide +kernel
theorem dX6_priceOf_5 : decode cX6_priceOf 5 = .ok (.getfield 137, 3) := by decide +kernel
theorem dX6_priceOf_8 : decode cX6_priceOf 8 = .ok (.ireturn, 1) := by decide +kernel
theorem dX6_stateOf_0 : decode cX6_stateOf 0 = .ok (.aload_n 0, 1) := by decide +kernel
theorem dX6_stateOf_1 : decode cX6_stateOf 1 = .ok (.iload_n 1, 1) := by decide +kernel
theorem dX6_stateOf_2 : decode cX6_stateOf 2 = .ok (.invokevirtual 117, 3) := by decide +kernel
theorem dX6_stateOf_5 : decode cX6_stateOf 5 = .ok (.getfield 123, 3) := by decide +kernel
theorem dX6_stateOf_8 : decode cX6_stateOf 8 = .ok (.ireturn, 1) := by decide +kernel
theorem dX6_reason_0 : decode cX6_reason 0 = .ok (.aload_n 0, 1) := by decide +kernel
theorem dX6_reason_1 : decode cX6_reason 1 = .ok (.iload_n 1, 1) := by decide +kernel
theorem dX6_reason_2 : decode cX6_reason 2 = .ok (.invokevirtual 117, 3) := by decide +kernel
theorem dX6_reason_5 : decode cX6_reason 5 = .ok (.astore_n 2, 1) := by decide +kernel
theorem dX6_reason_6 : decode cX6_reason 6 = .ok (.aload_n 2, 1) := by decide +kernel
theorem dX6_reason_7 : decode cX6_reason 7 = .ok (.getfield 123, 3) := by decide +kernel
theorem dX6_reason_10 : decode cX6_reason 10 = .ok (.bipush 108, 2) := by decide +kernel
theorem dX6_reason_12 : decode cX6_reason 12 = .ok (.if_icmp .eq 13, 3) := by decide +kernel
theorem dX6_reason_15 : decode cX6_reason 15 = .ok (.new 59, 3) := by decide +kernel
theorem dX6_reason_18 : decode cX6_reason 18 = .ok (.dup, 1) := by decide +kernel
theorem dX6_reason_19 : decode cX6_reason 19 = .ok (.ldc 196, 2) := by decide +kernel
theorem dX6_reason_21 : decode cX6_reason 21 = .ok (.invokespecial 63, 3) := by decide +kernel
theorem dX6_reason_24 : decode cX6_reason 24 = .ok (.athrow, 1) := by decide +kernel
theorem dX6_reason_25 : decode cX6_reason 25 = .ok (.aload_n 2, 1) := by decide +kernel
theorem dX6_reason_26 : decode cX6_reason 26 = .ok (.getfield 198, 3) := by decide +kernel
theorem dX6_reason_29 : decode cX6_reason 29 = .ok (.ireturn, 1) := by decide +kernel
theorem dX6_rival_0 : decode cX6_rival 0 = .ok (.aload_n 0, 1) := by decide +kernel
theorem dX6_rival_1 : decode cX6_rival 1 = .ok (.iload_n 1, 1) := by decide +kernel
theorem dX6_rival_2 : decode cX6_rival 2 = .ok (.invokevirtual 117, 3) := by decide +kernel
theorem dX6_rival_5 : decode cX6_rival 5 = .ok (.astore_n 2, 1) := by decide +kernel
theorem dX6_rival_6 : decode cX6_rival 6 = .ok (.aload_n 2, 1) := by decide +kernel
theorem dX6_rival_7 : decode cX6_rival 7 = .ok (.getfield 123, 3) := by decide +kernel
theorem dX6_rival_10 : decode cX6_rival 10 = .ok (.bipush 108, 2) := by decide +kernel
theorem dX6_rival_12 : decode cX6_rival 12 = .ok (.if_icmp .ne 12, 3) := by decide +kernel
theorem dX6_rival_15 : decode cX6_rival 15 = .ok (.aload_n 2, 1) := by decide +kernel
theorem dX6_rival_16 : decode cX6_rival 16 = .ok (.getfield 198, 3) := by decide +kernel
theorem dX6_rival_19 : decode cX6_rival 19 = .ok (.bipush 98, 2) := by decide +kernel
theorem dX6_rival_21 : decode cX6_rival 21 = .ok (.if_icmp .eq 13, 3) := by decide +kernel
theorem dX6_rival_24 : decode cX6_rival 24 = .ok (.new 59, 3) := by decide +kernel
theorem dX6_rival_27 : decode cX6_rival 27 = .ok (.dup, 1) := by decide +kernel
theorem dX6_rival_28 : decode cX6_rival 28 = .ok (.ldc 201, 2) := by decide +kernel
theorem dX6_rival_30 : decode cX6_rival 30 = .ok (.invokespecial 63, 3) := by decide +kernel
theorem dX6_rival_33 : decode cX6_rival 33 = .ok (.athrow, 1) := by decide +kernel
theorem dX6_rival_34 : decode cX6_rival 34 = .ok (.aload_n 2, 1) := by decide +kernel
theorem dX6_rival_35 : decode cX6_rival 35 = .ok (.getfield 203, 3) := by decide +kernel
theorem dX6_rival_38 : decode cX6_rival 38 = .ok (.ireturn, 1) := by decide +kernel
theorem dX6_lotOf_0 : decode cX6_lotOf 0 = .ok (.aload_n 0, 1) := by decide +kernel
theorem dX6_lotOf_1 : decode cX6_lotOf 1 = .ok (.iload_n 1, 1) := by decide +kernel
theorem dX6_lotOf_2 : decode cX6_lotOf 2 = .ok (.invokevirtual 117, 3) := by decide +kernel
theorem dX6_lotOf_5 : decode cX6_lotOf 5 = .ok (.astore_n 3, 1) := by decide +kernel
theorem dX6_lotOf_6 : decode cX6_lotOf 6 = .ok (.aload_n 3, 1) := by decide +kernel
theorem dX6_lotOf_7 : decode cX6_lotOf 7 = .ok (.iload_n 2, 1) := by decide +kernel
theorem dX6_lotOf_8 : decode cX6_lotOf 8 = .ok (.invokestatic 188, 3) := by decide +kernel
theorem dX6_lotOf_11 : decode cX6_lotOf 11 = .ok (.astore 4, 2) := by decide +kernel
theorem dX6_lotOf_13 : decode cX6_lotOf 13 = .ok (.aload_n 3, 1) := by decide +kernel
theorem dX6_lotOf_14 : decode cX6_lotOf 14 = .ok (.getfield 123, 3) := by decide +kernel
theorem dX6_lotOf_17 : decode cX6_lotOf 17 = .ok (.bipush 119, 2) := by decide +kernel
theorem dX6_lotOf_19 : decode cX6_lotOf 19 = .ok (.if_icmp .eq 13, 3) := by decide +kernel
theorem dX6_lotOf_22 : decode cX6_lotOf 22 = .ok (.new 59, 3) := by decide +kernel
theorem dX6_lotOf_25 : decode cX6_lotOf 25 = .ok (.dup, 1) := by decide +kernel
theorem dX6_lotOf_26 : decode cX6_lotOf 26 = .ok (.ldc 206, 2) := by decide +kernel
theorem dX6_lotOf_28 : decode cX6_lotOf 28 = .ok (.invokespecial 63, 3) := by decide +kernel
theorem dX6_lotOf_31 : decode cX6_lotOf 31 = .ok (.athrow, 1) := by decide +kernel
theorem dX6_lotOf_32 : decode cX6_lotOf 32 = .ok (.aload 4, 2) := by decide +kernel
theorem dX6_lotOf_34 : decode cX6_lotOf 34 = .ok (.getfield 208, 3) := by decide +kernel
theorem dX6_lotOf_37 : decode cX6_lotOf 37 = .ok (.ireturn, 1) := by decide +kernel
theorem dX6_paid_0 : decode cX6_paid 0 = .ok (.aload_n 0, 1) := by decide +kernel
theorem dX6_paid_1 : decode cX6_paid 1 = .ok (.iload_n 1, 1) := by decide +kernel
theorem dX6_paid_2 : decode cX6_paid 2 = .ok (.invokevirtual 117, 3) := by decide +kernel
theorem dX6_paid_5 : decode cX6_paid 5 = .ok (.astore_n 2, 1) := by decide +kernel
theorem dX6_paid_6 : decode cX6_paid 6 = .ok (.aload_n 2, 1) := by decide +kernel
theorem dX6_paid_7 : decode cX6_paid 7 = .ok (.getfield 123, 3) := by decide +kernel
theorem dX6_paid_10 : decode cX6_paid 10 = .ok (.bipush 119, 2) := by decide +kernel
theorem dX6_paid_12 : decode cX6_paid 12 = .ok (.if_icmp .eq 13, 3) := by decide +kernel
theorem dX6_paid_15 : decode cX6_paid 15 = .ok (.new 59, 3) := by decide +kernel
theorem dX6_paid_18 : decode cX6_paid 18 = .ok (.dup, 1) := by decide +kernel
theorem dX6_paid_19 : decode cX6_paid 19 = .ok (.ldc 206, 2) := by decide +kernel
theorem dX6_paid_21 : decode cX6_paid 21 = .ok (.invokespecial 63, 3) := by decide +kernel
theorem dX6_paid_24 : decode cX6_paid 24 = .ok (.athrow, 1) := by decide +kernel
theorem dX6_paid_25 : decode cX6_paid 25 = .ok (.aload_n 2, 1) := by decide +kernel
theorem dX6_paid_26 : decode cX6_paid 26 = .ok (.getfield 211, 3) := by decide +kernel
theorem dX6_paid_29 : decode cX6_paid 29 = .ok (.ireturn, 1) := by decide +kernel
theorem dX6_costOf_0 : decode cX6_costOf 0 = .ok (.aload_n 0, 1) := by decide +kernel
theorem dX6_costOf_1 : decode cX6_costOf 1 = .ok (.iload_n 1, 1) := by decide +kernel
theorem dX6_costOf_2 : decode cX6_costOf 2 = .ok (.invokevirtual 134, 3) := by decide +kernel
theorem dX6_costOf_5 : decode cX6_costOf 5 = .ok (.pop, 1) := by decide +kernel
theorem dX6_costOf_6 : decode cX6_costOf 6 = .ok (.aload_n 0, 1) := by decide +kernel
theorem dX6_costOf_7 : decode cX6_costOf 7 = .ok (.invokevirtual 144, 3) := by decide +kernel
theorem dX6_costOf_10 : decode cX6_costOf 10 = .ok (.aload_n 0, 1) := by decide +kernel
theorem dX6_costOf_11 : decode cX6_costOf 11 = .ok (.getfield 25, 3) := by decide +kernel
theorem dX6_costOf_14 : decode cX6_costOf 14 = .ok (.aload_n 0, 1) := by decide +kernel
theorem dX6_costOf_15 : decode cX6_costOf 15 = .ok (.getfield 25, 3) := by decide +kernel
theorem dX6_costOf_18 : decode cX6_costOf 18 = .ok (.iload_n 1, 1) := by decide +kernel
theorem dX6_costOf_19 : decode cX6_costOf 19 = .ok (.invokevirtual 214, 3) := by decide +kernel
theorem dX6_costOf_22 : decode cX6_costOf 22 = .ok (.invokevirtual 217, 3) := by decide +kernel
theorem dX6_costOf_25 : decode cX6_costOf 25 = .ok (.istore_n 2, 1) := by decide +kernel
theorem dX6_costOf_26 : decode cX6_costOf 26 = .ok (.iload_n 2, 1) := by decide +kernel
theorem dX6_costOf_27 : decode cX6_costOf 27 = .ok (.iconst (-1), 1) := by decide +kernel
theorem dX6_costOf_28 : decode cX6_costOf 28 = .ok (.if_icmp .ne 13, 3) := by decide +kernel
theorem dX6_costOf_31 : decode cX6_costOf 31 = .ok (.new 220, 3) := by decide +kernel
theorem dX6_costOf_34 : decode cX6_costOf 34 = .ok (.dup, 1) := by decide +kernel
theorem dX6_costOf_35 : decode cX6_costOf 35 = .ok (.ldc 222, 2) := by decide +kernel
theorem dX6_costOf_37 : decode cX6_costOf 37 = .ok (.invokespecial 224, 3) := by decide +kernel
theorem dX6_costOf_40 : decode cX6_costOf 40 = .ok (.athrow, 1) := by decide +kernel
theorem dX6_costOf_41 : decode cX6_costOf 41 = .ok (.iload_n 2, 1) := by decide +kernel
theorem dX6_costOf_42 : decode cX6_costOf 42 = .ok (.ireturn, 1) := by decide +kernel
theorem dX6_surplus_0 : decode cX6_surplus 0 = .ok (.aload_n 0, 1) := by decide +kernel
theorem dX6_surplus_1 : decode cX6_surplus 1 = .ok (.invokevirtual 144, 3) := by decide +kernel
theorem dX6_surplus_4 : decode cX6_surplus 4 = .ok (.aload_n 0, 1) := by decide +kernel
theorem dX6_surplus_5 : decode cX6_surplus 5 = .ok (.getfield 32, 3) := by decide +kernel
theorem dX6_surplus_8 : decode cX6_surplus 8 = .ok (.aload_n 0, 1) := by decide +kernel
theorem dX6_surplus_9 : decode cX6_surplus 9 = .ok (.getfield 25, 3) := by decide +kernel
theorem dX6_surplus_12 : decode cX6_surplus 12 = .ok (.iconst (-1), 1) := by decide +kernel
theorem dX6_surplus_13 : decode cX6_surplus 13 = .ok (.invokevirtual 147, 3) := by decide +kernel
theorem dX6_surplus_16 : decode cX6_surplus 16 = .ok (.aload_n 0, 1) := by decide +kernel
theorem dX6_surplus_17 : decode cX6_surplus 17 = .ok (.getfield 32, 3) := by decide +kernel
theorem dX6_surplus_20 : decode cX6_surplus 20 = .ok (.getfield 154, 3) := by decide +kernel
theorem dX6_surplus_23 : decode cX6_surplus 23 = .ok (.ireturn, 1) := by decide +kernel
theorem dX6_surplusBySets_0 : decode cX6_surplusBySets 0 = .ok (.aload_n 0, 1) := by decide +kernel
theorem dX6_surplusBySets_1 : decode cX6_surplusBySets 1 = .ok (.invokevirtual 144, 3) := by decide +kernel
theorem dX6_surplusBySets_4 : decode cX6_surplusBySets 4 = .ok (.aload_n 0, 1) := by decide +kernel
theorem dX6_surplusBySets_5 : decode cX6_surplusBySets 5 = .ok (.getfield 32, 3) := by decide +kernel
theorem dX6_surplusBySets_8 : decode cX6_surplusBySets 8 = .ok (.aload_n 0, 1) := by decide +kernel
theorem dX6_surplusBySets_9 : decode cX6_surplusBySets 9 = .ok (.getfield 25, 3) := by decide +kernel
theorem dX6_surplusBySets_12 : decode cX6_surplusBySets 12 = .ok (.invokevirtual 225, 3) := by decide +kernel
theorem dX6_surplusBySets_15 : decode cX6_surplusBySets 15 = .ok (.aload_n 0, 1) := by decide +kernel
theorem dX6_surplusBySets_16 : decode cX6_surplusBySets 16 = .ok (.getfield 32, 3) := by decide +kernel
theorem dX6_surplusBySets_19 : decode cX6_surplusBySets 19 = .ok (.getfield 154, 3) := by decide +kernel
theorem dX6_surplusBySets_22 : decode cX6_surplusBySets 22 = .ok (.ireturn, 1) := by decide +kernel
theorem dX6_surplusWithout_0 : decode cX6_surplusWithout 0 = .ok (.iload_n 1, 1) := by decide +kernel
theorem dX6_surplusWithout_1 : decode cX6_surplusWithout 1 = .ok (.invokestatic 102, 3) := by decide +kernel
theorem dX6_surplusWithout_4 : decode cX6_surplusWithout 4 = .ok (.ifCond .ne 13, 3) := by decide +kernel
theorem dX6_surplusWithout_7 : decode cX6_surplusWithout 7 = .ok (.new 44, 3) := by decide +kernel
theorem dX6_surplusWithout_10 : decode cX6_surplusWithout 10 = .ok (.dup, 1) := by decide +kernel
theorem dX6_surplusWithout_11 : decode cX6_surplusWithout 11 = .ok (.ldc 229, 2) := by decide +kernel
theorem dX6_surplusWithout_13 : decode cX6_surplusWithout 13 = .ok (.invokespecial 48, 3) := by decide +kernel
theorem dX6_surplusWithout_16 : decode cX6_surplusWithout 16 = .ok (.athrow, 1) := by decide +kernel
theorem dX6_surplusWithout_17 : decode cX6_surplusWithout 17 = .ok (.aload_n 0, 1) := by decide +kernel
theorem dX6_surplusWithout_18 : decode cX6_surplusWithout 18 = .ok (.invokevirtual 144, 3) := by decide +kernel
theorem dX6_surplusWithout_21 : decode cX6_surplusWithout 21 = .ok (.aload_n 0, 1) := by decide +kernel
theorem dX6_surplusWithout_22 : decode cX6_surplusWithout 22 = .ok (.getfield 32, 3) := by decide +kernel
theorem dX6_surplusWithout_25 : decode cX6_surplusWithout 25 = .ok (.aload_n 0, 1) := by decide +kernel
theorem dX6_surplusWithout_26 : decode cX6_surplusWithout 26 = .ok (.getfield 25, 3) := by decide +kernel
theorem dX6_surplusWithout_29 : decode cX6_surplusWithout 29 = .ok (.iload_n 1, 1) := by decide +kernel
theorem dX6_surplusWithout_30 : decode cX6_surplusWithout 30 = .ok (.invokevirtual 147, 3) := by decide +kernel
theorem dX6_surplusWithout_33 : decode cX6_surplusWithout 33 = .ok (.aload_n 0, 1) := by decide +kernel
theorem dX6_surplusWithout_34 : decode cX6_surplusWithout 34 = .ok (.getfield 32, 3) := by decide +kernel
theorem dX6_surplusWithout_37 : decode cX6_surplusWithout 37 = .ok (.getfield 154, 3) := by decide +kernel
theorem dX6_surplusWithout_40 : decode cX6_surplusWithout 40 = .ok (.ireturn, 1) := by decide +kernel
theorem dX6_wouldWin_0 : decode cX6_wouldWin 0 = .ok (.aload_n 0, 1) := by decide +kernel
theorem dX6_wouldWin_1 : decode cX6_wouldWin 1 = .ok (.iload_n 1, 1) := by decide +kernel
theorem dX6_wouldWin_2 : decode cX6_wouldWin 2 = .ok (.invokevirtual 134, 3) := by decide +kernel
theorem dX6_wouldWin_5 : decode cX6_wouldWin 5 = .ok (.pop, 1) := by decide +kernel
theorem dX6_wouldWin_6 : decode cX6_wouldWin 6 = .ok (.aload_n 0, 1) := by decide +kernel
theorem dX6_wouldWin_7 : decode cX6_wouldWin 7 = .ok (.iload_n 1, 1) := by decide +kernel
theorem dX6_wouldWin_8 : decode cX6_wouldWin 8 = .ok (.invokevirtual 231, 3) := by decide +kernel
theorem dX6_wouldWin_11 : decode cX6_wouldWin 11 = .ok (.ireturn, 1) := by decide +kernel
theorem dX6_wouldWinBySets_0 : decode cX6_wouldWinBySets 0 = .ok (.aload_n 0, 1) := by decide +kernel
theorem dX6_wouldWinBySets_1 : decode cX6_wouldWinBySets 1 = .ok (.iload_n 1, 1) := by decide +kernel
theorem dX6_wouldWinBySets_2 : decode cX6_wouldWinBySets 2 = .ok (.invokevirtual 134, 3) := by decide +kernel
theorem dX6_wouldWinBySets_5 : decode cX6_wouldWinBySets 5 = .ok (.pop, 1) := by decide +kernel
theorem dX6_wouldWinBySets_6 : decode cX6_wouldWinBySets 6 = .ok (.aload_n 0, 1) := by decide +kernel
theorem dX6_wouldWinBySets_7 : decode cX6_wouldWinBySets 7 = .ok (.invokevirtual 144, 3) := by decide +kernel
theorem dX6_wouldWinBySets_10 : decode cX6_wouldWinBySets 10 = .ok (.aload_n 0, 1) := by decide +kernel
theorem dX6_wouldWinBySets_11 : decode cX6_wouldWinBySets 11 = .ok (.getfield 32, 3) := by decide +kernel
theorem dX6_wouldWinBySets_14 : decode cX6_wouldWinBySets 14 = .ok (.aload_n 0, 1) := by decide +kernel
theorem dX6_wouldWinBySets_15 : decode cX6_wouldWinBySets 15 = .ok (.getfield 25, 3) := by decide +kernel
theorem dX6_wouldWinBySets_18 : decode cX6_wouldWinBySets 18 = .ok (.invokevirtual 225, 3) := by decide +kernel
theorem dX6_wouldWinBySets_21 : decode cX6_wouldWinBySets 21 = .ok (.aload_n 0, 1) := by decide +kernel
theorem dX6_wouldWinBySets_22 : decode cX6_wouldWinBySets 22 = .ok (.getfield 32, 3) := by decide +kernel
theorem dX6_wouldWinBySets_25 : decode cX6_wouldWinBySets 25 = .ok (.getfield 151, 3) := by decide +kernel
theorem dX6_wouldWinBySets_28 : decode cX6_wouldWinBySets 28 = .ok (.aload_n 0, 1) := by decide +kernel
theorem dX6_wouldWinBySets_29 : decode cX6_wouldWinBySets 29 = .ok (.getfield 25, 3) := by decide +kernel
theorem dX6_wouldWinBySets_32 : decode cX6_wouldWinBySets 32 = .ok (.iload_n 1, 1) := by decide +kernel
theorem dX6_wouldWinBySets_33 : decode cX6_wouldWinBySets 33 = .ok (.invokevirtual 214, 3) := by decide +kernel
theorem dX6_wouldWinBySets_36 : decode cX6_wouldWinBySets 36 = .ok (.iand, 1) := by decide +kernel
theorem dX6_wouldWinBySets_37 : decode cX6_wouldWinBySets 37 = .ok (.ifCond .eq 7, 3) := by decide +kernel
theorem dX6_wouldWinBySets_40 : decode cX6_wouldWinBySets 40 = .ok (.iconst 1, 1) := by decide +kernel
theorem dX6_wouldWinBySets_41 : decode cX6_wouldWinBySets 41 = .ok (.goto 4, 3) := by decide +kernel
theorem dX6_wouldWinBySets_44 : decode cX6_wouldWinBySets 44 = .ok (.iconst 0, 1) := by decide +kernel
theorem dX6_wouldWinBySets_45 : decode cX6_wouldWinBySets 45 = .ok (.ireturn, 1) := by decide +kernel
theorem dX6_lotFor_0 : decode cX6_lotFor 0 = .ok (.aload_n 0, 1) := by decide +kernel
theorem dX6_lotFor_1 : decode cX6_lotFor 1 = .ok (.iload_n 1, 1) := by decide +kernel
theorem dX6_lotFor_2 : decode cX6_lotFor 2 = .ok (.invokevirtual 117, 3) := by decide +kernel
theorem dX6_lotFor_5 : decode cX6_lotFor 5 = .ok (.iload_n 2, 1) := by decide +kernel
theorem dX6_lotFor_6 : decode cX6_lotFor 6 = .ok (.invokestatic 188, 3) := by decide +kernel
theorem dX6_lotFor_9 : decode cX6_lotFor 9 = .ok (.pop, 1) := by decide +kernel
theorem dX6_lotFor_10 : decode cX6_lotFor 10 = .ok (.aload_n 0, 1) := by decide +kernel
theorem dX6_lotFor_11 : decode cX6_lotFor 11 = .ok (.iload_n 1, 1) := by decide +kernel
theorem dX6_lotFor_12 : decode cX6_lotFor 12 = .ok (.invokevirtual 134, 3) := by decide +kernel
theorem dX6_lotFor_15 : decode cX6_lotFor 15 = .ok (.pop, 1) := by decide +kernel
theorem dX6_lotFor_16 : decode cX6_lotFor 16 = .ok (.aload_n 0, 1) := by decide +kernel
theorem dX6_lotFor_17 : decode cX6_lotFor 17 = .ok (.iload_n 1, 1) := by decide +kernel
theorem dX6_lotFor_18 : decode cX6_lotFor 18 = .ok (.invokevirtual 231, 3) := by decide +kernel
theorem dX6_lotFor_21 : decode cX6_lotFor 21 = .ok (.ifCond .ne 13, 3) := by decide +kernel
theorem dX6_lotFor_24 : decode cX6_lotFor 24 = .ok (.new 220, 3) := by decide +kernel
theorem dX6_lotFor_27 : decode cX6_lotFor 27 = .ok (.dup, 1) := by decide +kernel
theorem dX6_lotFor_28 : decode cX6_lotFor 28 = .ok (.ldc 234, 2) := by decide +kernel
theorem dX6_lotFor_30 : decode cX6_lotFor 30 = .ok (.invokespecial 224, 3) := by decide +kernel
theorem dX6_lotFor_33 : decode cX6_lotFor 33 = .ok (.athrow, 1) := by decide +kernel
theorem dX6_lotFor_34 : decode cX6_lotFor 34 = .ok (.aload_n 0, 1) := by decide +kernel
theorem dX6_lotFor_35 : decode cX6_lotFor 35 = .ok (.getfield 32, 3) := by decide +kernel
theorem dX6_lotFor_38 : decode cX6_lotFor 38 = .ok (.getfield 151, 3) := by decide +kernel
theorem dX6_lotFor_41 : decode cX6_lotFor 41 = .ok (.istore_n 3, 1) := by decide +kernel
theorem dX6_lotFor_42 : decode cX6_lotFor 42 = .ok (.aload_n 0, 1) := by decide +kernel
theorem dX6_lotFor_43 : decode cX6_lotFor 43 = .ok (.getfield 25, 3) := by decide +kernel
theorem dX6_lotFor_46 : decode cX6_lotFor 46 = .ok (.iload_n 3, 1) := by decide +kernel
theorem dX6_lotFor_47 : decode cX6_lotFor 47 = .ok (.invokevirtual 236, 3) := by decide +kernel
theorem dX6_lotFor_50 : decode cX6_lotFor 50 = .ok (.aload_n 0, 1) := by decide +kernel
theorem dX6_lotFor_51 : decode cX6_lotFor 51 = .ok (.getfield 25, 3) := by decide +kernel
theorem dX6_lotFor_54 : decode cX6_lotFor 54 = .ok (.iload_n 3, 1) := by decide +kernel
theorem dX6_lotFor_55 : decode cX6_lotFor 55 = .ok (.aload_n 0, 1) := by decide +kernel
theorem dX6_lotFor_56 : decode cX6_lotFor 56 = .ok (.getfield 25, 3) := by decide +kernel
theorem dX6_lotFor_59 : decode cX6_lotFor 59 = .ok (.iload_n 1, 1) := by decide +kernel
theorem dX6_lotFor_60 : decode cX6_lotFor 60 = .ok (.invokevirtual 239, 3) := by decide +kernel
theorem dX6_lotFor_63 : decode cX6_lotFor 63 = .ok (.iload_n 2, 1) := by decide +kernel
theorem dX6_lotFor_64 : decode cX6_lotFor 64 = .ok (.invokevirtual 242, 3) := by decide +kernel
theorem dX6_lotFor_67 : decode cX6_lotFor 67 = .ok (.ireturn, 1) := by decide +kernel
theorem dX6_payment_0 : decode cX6_payment 0 = .ok (.aload_n 0, 1) := by decide +kernel
theorem dX6_payment_1 : decode cX6_payment 1 = .ok (.iload_n 1, 1) := by decide +kernel
theorem dX6_payment_2 : decode cX6_payment 2 = .ok (.invokevirtual 134, 3) := by decide +kernel
theorem dX6_payment_5 : decode cX6_payment 5 = .ok (.astore_n 2, 1) := by decide +kernel
theorem dX6_payment_6 : decode cX6_payment 6 = .ok (.aload_n 0, 1) := by decide +kernel
theorem dX6_payment_7 : decode cX6_payment 7 = .ok (.iload_n 1, 1) := by decide +kernel
theorem dX6_payment_8 : decode cX6_payment 8 = .ok (.invokevirtual 231, 3) := by decide +kernel
theorem dX6_payment_11 : decode cX6_payment 11 = .ok (.ifCond .ne 13, 3) := by decide +kernel
theorem dX6_payment_14 : decode cX6_payment 14 = .ok (.new 220, 3) := by decide +kernel
theorem dX6_payment_17 : decode cX6_payment 17 = .ok (.dup, 1) := by decide +kernel
theorem dX6_payment_18 : decode cX6_payment 18 = .ok (.ldc 234, 2) := by decide +kernel
theorem dX6_payment_20 : decode cX6_payment 20 = .ok (.invokespecial 224, 3) := by decide +kernel
theorem dX6_payment_23 : decode cX6_payment 23 = .ok (.athrow, 1) := by decide +kernel
theorem dX6_payment_24 : decode cX6_payment 24 = .ok (.aload_n 0, 1) := by decide +kernel
theorem dX6_payment_25 : decode cX6_payment 25 = .ok (.getfield 32, 3) := by decide +kernel
theorem dX6_payment_28 : decode cX6_payment 28 = .ok (.getfield 154, 3) := by decide +kernel
theorem dX6_payment_31 : decode cX6_payment 31 = .ok (.istore_n 3, 1) := by decide +kernel
theorem dX6_payment_32 : decode cX6_payment 32 = .ok (.aload_n 0, 1) := by decide +kernel
theorem dX6_payment_33 : decode cX6_payment 33 = .ok (.getfield 32, 3) := by decide +kernel
theorem dX6_payment_36 : decode cX6_payment 36 = .ok (.aload_n 0, 1) := by decide +kernel
theorem dX6_payment_37 : decode cX6_payment 37 = .ok (.getfield 25, 3) := by decide +kernel
theorem dX6_payment_40 : decode cX6_payment 40 = .ok (.aload_n 2, 1) := by decide +kernel
theorem dX6_payment_41 : decode cX6_payment 41 = .ok (.getfield 246, 3) := by decide +kernel
theorem dX6_payment_44 : decode cX6_payment 44 = .ok (.invokevirtual 147, 3) := by decide +kernel
theorem dX6_payment_47 : decode cX6_payment 47 = .ok (.aload_n 2, 1) := by decide +kernel
theorem dX6_payment_48 : decode cX6_payment 48 = .ok (.getfield 137, 3) := by decide +kernel
theorem dX6_payment_51 : decode cX6_payment 51 = .ok (.iload_n 3, 1) := by decide +kernel
theorem dX6_payment_52 : decode cX6_payment 52 = .ok (.isub, 1) := by decide +kernel
theorem dX6_payment_53 : decode cX6_payment 53 = .ok (.aload_n 0, 1) := by decide +kernel
theorem dX6_payment_54 : decode cX6_payment 54 = .ok (.getfield 32, 3) := by decide +kernel
theorem dX6_payment_57 : decode cX6_payment 57 = .ok (.getfield 154, 3) := by decide +kernel
theorem dX6_payment_60 : decode cX6_payment 60 = .ok (.iadd, 1) := by decide +kernel
theorem dX6_payment_61 : decode cX6_payment 61 = .ok (.ireturn, 1) := by decide +kernel
theorem dX6_takings_0 : decode cX6_takings 0 = .ok (.aload_n 0, 1) := by decide +kernel
theorem dX6_takings_1 : decode cX6_takings 1 = .ok (.getfield 249, 3) := by decide +kernel
theorem dX6_takings_4 : decode cX6_takings 4 = .ok (.lreturn, 1) := by decide +kernel
theorem dX6_soldShare_0 : decode cX6_soldShare 0 = .ok (.aload_n 0, 1) := by decide +kernel
theorem dX6_soldShare_1 : decode cX6_soldShare 1 = .ok (.getfield 12, 3) := by decide +kernel
theorem dX6_soldShare_4 : decode cX6_soldShare 4 = .ok (.invokevirtual 92, 3) := by decide +kernel
theorem dX6_soldShare_7 : decode cX6_soldShare 7 = .ok (.ifCond .eq 13, 3) := by decide +kernel
theorem dX6_soldShare_10 : decode cX6_soldShare 10 = .ok (.new 253, 3) := by decide +kernel
theorem dX6_soldShare_13 : decode cX6_soldShare 13 = .ok (.dup, 1) := by decide +kernel
theorem dX6_soldShare_14 : decode cX6_soldShare 14 = .ok (.ldc 255, 2) := by decide +kernel
theorem dX6_soldShare_16 : decode cX6_soldShare 16 = .ok (.invokespecial 257, 3) := by decide +kernel
theorem dX6_soldShare_19 : decode cX6_soldShare 19 = .ok (.athrow, 1) := by decide +kernel
theorem dX6_soldShare_20 : decode cX6_soldShare 20 = .ok (.aload_n 0, 1) := by decide +kernel
theorem dX6_soldShare_21 : decode cX6_soldShare 21 = .ok (.getfield 168, 3) := by decide +kernel
theorem dX6_soldShare_24 : decode cX6_soldShare 24 = .ok (.i2f, 1) := by decide +kernel
theorem dX6_soldShare_25 : decode cX6_soldShare 25 = .ok (.aload_n 0, 1) := by decide +kernel
theorem dX6_soldShare_26 : decode cX6_soldShare 26 = .ok (.getfield 12, 3) := by decide +kernel
theorem dX6_soldShare_29 : decode cX6_soldShare 29 = .ok (.invokevirtual 55, 3) := by decide +kernel
theorem dX6_soldShare_32 : decode cX6_soldShare 32 = .ok (.i2f, 1) := by decide +kernel
theorem dX6_soldShare_33 : decode cX6_soldShare 33 = .ok (.fdiv, 1) := by decide +kernel
theorem dX6_soldShare_34 : decode cX6_soldShare 34 = .ok (.freturn, 1) := by decide +kernel
theorem dX6_meanPaid_0 : decode cX6_meanPaid 0 = .ok (.aload_n 0, 1) := by decide +kernel
theorem dX6_meanPaid_1 : decode cX6_meanPaid 1 = .ok (.getfield 258, 3) := by decide +kernel
theorem dX6_meanPaid_4 : decode cX6_meanPaid 4 = .ok (.ifCond .gt 14, 3) := by decide +kernel
theorem dX6_meanPaid_7 : decode cX6_meanPaid 7 = .ok (.new 253, 3) := by decide +kernel
theorem dX6_meanPaid_10 : decode cX6_meanPaid 10 = .ok (.dup, 1) := by decide +kernel
theorem dX6_meanPaid_11 : decode cX6_meanPaid 11 = .ok (.ldc_w 261, 3) := by decide +kernel
theorem dX6_meanPaid_14 : decode cX6_meanPaid 14 = .ok (.invokespecial 257, 3) := by decide +kernel
theorem dX6_meanPaid_17 : decode cX6_meanPaid 17 = .ok (.athrow, 1) := by decide +kernel
theorem dX6_meanPaid_18 : decode cX6_meanPaid 18 = .ok (.aload_n 0, 1) := by decide +kernel
theorem dX6_meanPaid_19 : decode cX6_meanPaid 19 = .ok (.getfield 249, 3) := by decide +kernel
theorem dX6_meanPaid_22 : decode cX6_meanPaid 22 = .ok (.l2d, 1) := by decide +kernel
theorem dX6_meanPaid_23 : decode cX6_meanPaid 23 = .ok (.aload_n 0, 1) := by decide +kernel
theorem dX6_meanPaid_24 : decode cX6_meanPaid 24 = .ok (.getfield 258, 3) := by decide +kernel
theorem dX6_meanPaid_27 : decode cX6_meanPaid 27 = .ok (.i2d, 1) := by decide +kernel
theorem dX6_meanPaid_28 : decode cX6_meanPaid 28 = .ok (.ddiv, 1) := by decide +kernel
theorem dX6_meanPaid_29 : decode cX6_meanPaid 29 = .ok (.dreturn, 1) := by decide +kernel
theorem dX6_isFibre_0 : decode cX6_isFibre 0 = .ok (.iload_n 0, 1) := by decide +kernel
theorem dX6_isFibre_1 : decode cX6_isFibre 1 = .ok (.ifCond .lt 12, 3) := by decide +kernel
theorem dX6_isFibre_4 : decode cX6_isFibre 4 = .ok (.iload_n 0, 1) := by decide +kernel
theorem dX6_isFibre_5 : decode cX6_isFibre 5 = .ok (.iconst 4, 1) := by decide +kernel
theorem dX6_isFibre_6 : decode cX6_isFibre 6 = .ok (.if_icmp .ge 7, 3) := by decide +kernel
theorem dX6_isFibre_9 : decode cX6_isFibre 9 = .ok (.iconst 1, 1) := by decide +kernel
theorem dX6_isFibre_10 : decode cX6_isFibre 10 = .ok (.goto 4, 3) := by decide +kernel
theorem dX6_isFibre_13 : decode cX6_isFibre 13 = .ok (.iconst 0, 1) := by decide +kernel
theorem dX6_isFibre_14 : decode cX6_isFibre 14 = .ok (.ireturn, 1) := by decide +kernel
theorem dX6_isGrade_0 : decode cX6_isGrade 0 = .ok (.iload_n 0, 1) := by decide +kernel
theorem dX6_isGrade_1 : decode cX6_isGrade 1 = .ok (.bipush 97, 2) := by decide +kernel
theorem dX6_isGrade_3 : decode cX6_isGrade 3 = .ok (.if_icmp .lt 13, 3) := by decide +kernel
theorem dX6_isGrade_6 : decode cX6_isGrade 6 = .ok (.iload_n 0, 1) := by decide +kernel
theorem dX6_isGrade_7 : decode cX6_isGrade 7 = .ok (.bipush 101, 2) := by decide +kernel
theorem dX6_isGrade_9 : decode cX6_isGrade 9 = .ok (.if_icmp .gt 7, 3) := by decide +kernel
theorem dX6_isGrade_12 : decode cX6_isGrade 12 = .ok (.iconst 1, 1) := by decide +kernel
theorem dX6_isGrade_13 : decode cX6_isGrade 13 = .ok (.goto 4, 3) := by decide +kernel
theorem dX6_isGrade_16 : decode cX6_isGrade 16 = .ok (.iconst 0, 1) := by decide +kernel
theorem dX6_isGrade_17 : decode cX6_isGrade 17 = .ok (.ireturn, 1) := by decide +kernel
theorem dX6_isBidder_0 : decode cX6_isBidder 0 = .ok (.iload_n 0, 1) := by decide +kernel
theorem dX6_isBidder_1 : decode cX6_isBidder 1 = .ok (.ifCond .lt 13, 3) := by decide +kernel
theorem dX6_isBidder_4 : decode cX6_isBidder 4 = .ok (.iload_n 0, 1) := by decide +kernel
theorem dX6_isBidder_5 : decode cX6_isBidder 5 = .ok (.bipush 8, 2) := by decide +kernel
theorem dX6_isBidder_7 : decode cX6_isBidder 7 = .ok (.if_icmp .ge 7, 3) := by decide +kernel
theorem dX6_isBidder_10 : decode cX6_isBidder 10 = .ok (.iconst 1, 1) := by decide +kernel
theorem dX6_isBidder_11 : decode cX6_isBidder 11 = .ok (.goto 4, 3) := by decide +kernel
theorem dX6_isBidder_14 : decode cX6_isBidder 14 = .ok (.iconst 0, 1) := by decide +kernel
theorem dX6_isBidder_15 : decode cX6_isBidder 15 = .ok (.ireturn, 1) := by decide +kernel
theorem dX6_isLot_0 : decode cX6_isLot 0 = .ok (.iload_n 1, 1) := by decide +kernel
theorem dX6_isLot_1 : decode cX6_isLot 1 = .ok (.ifCond .lt 18, 3) := by decide +kernel
theorem dX6_isLot_4 : decode cX6_isLot 4 = .ok (.iload_n 1, 1) := by decide +kernel
theorem dX6_isLot_5 : decode cX6_isLot 5 = .ok (.aload_n 0, 1) := by decide +kernel
theorem dX6_isLot_6 : decode cX6_isLot 6 = .ok (.getfield 12, 3) := by decide +kernel
theorem dX6_isLot_9 : decode cX6_isLot 9 = .ok (.invokevirtual 55, 3) := by decide +kernel
theorem dX6_isLot_12 : decode cX6_isLot 12 = .ok (.if_icmp .ge 7, 3) := by decide +kernel
theorem dX6_isLot_15 : decode cX6_isLot 15 = .ok (.iconst 1, 1) := by decide +kernel
theorem dX6_isLot_16 : decode cX6_isLot 16 = .ok (.goto 4, 3) := by decide +kernel
theorem dX6_isLot_19 : decode cX6_isLot 19 = .ok (.iconst 0, 1) := by decide +kernel
theorem dX6_isLot_20 : decode cX6_isLot 20 = .ok (.ireturn, 1) := by decide +kernel
theorem dX6_isBid_0 : decode cX6_isBid 0 = .ok (.iload_n 1, 1) := by decide +kernel
theorem dX6_isBid_1 : decode cX6_isBid 1 = .ok (.ifCond .lt 18, 3) := by decide +kernel
theorem dX6_isBid_4 : decode cX6_isBid 4 = .ok (.iload_n 1, 1) := by decide +kernel
theorem dX6_isBid_5 : decode cX6_isBid 5 = .ok (.aload_n 0, 1) := by decide +kernel
theorem dX6_isBid_6 : decode cX6_isBid 6 = .ok (.getfield 16, 3) := by decide +kernel
theorem dX6_isBid_9 : decode cX6_isBid 9 = .ok (.invokevirtual 55, 3) := by decide +kernel
theorem dX6_isBid_12 : decode cX6_isBid 12 = .ok (.if_icmp .ge 7, 3) := by decide +kernel
theorem dX6_isBid_15 : decode cX6_isBid 15 = .ok (.iconst 1, 1) := by decide +kernel
theorem dX6_isBid_16 : decode cX6_isBid 16 = .ok (.goto 4, 3) := by decide +kernel
theorem dX6_isBid_19 : decode cX6_isBid 19 = .ok (.iconst 0, 1) := by decide +kernel
theorem dX6_isBid_20 : decode cX6_isBid 20 = .ok (.ireturn, 1) := by decide +kernel
theorem dX6_knownLot_0 : decode cX6_knownLot 0 = .ok (.aload_n 0, 1) := by decide +kernel
theorem dX6_knownLot_1 : decode cX6_knownLot 1 = .ok (.iload_n 1, 1) := by decide +kernel
theorem dX6_knownLot_2 : decode cX6_knownLot 2 = .ok (.invokevirtual 263, 3) := by decide +kernel
theorem dX6_knownLot_5 : decode cX6_knownLot 5 = .ok (.ifCond .ne 14, 3) := by decide +kernel
theorem dX6_knownLot_8 : decode cX6_knownLot 8 = .ok (.new 266, 3) := by decide +kernel
theorem dX6_knownLot_11 : decode cX6_knownLot 11 = .ok (.dup, 1) := by decide +kernel
theorem dX6_knownLot_12 : decode cX6_knownLot 12 = .ok (.ldc_w 268, 3) := by decide +kernel
theorem dX6_knownLot_15 : decode cX6_knownLot 15 = .ok (.invokespecial 270, 3) := by decide +kernel
theorem dX6_knownLot_18 : decode cX6_knownLot 18 = .ok (.athrow, 1) := by decide +kernel
theorem dX6_knownLot_19 : decode cX6_knownLot 19 = .ok (.aload_n 0, 1) := by decide +kernel
theorem dX6_knownLot_20 : decode cX6_knownLot 20 = .ok (.getfield 12, 3) := by decide +kernel
theorem dX6_knownLot_23 : decode cX6_knownLot 23 = .ok (.iload_n 1, 1) := by decide +kernel
theorem dX6_knownLot_24 : decode cX6_knownLot 24 = .ok (.invokevirtual 185, 3) := by decide +kernel
theorem dX6_knownLot_27 : decode cX6_knownLot 27 = .ok (.checkcast 64, 3) := by decide +kernel
theorem dX6_knownLot_30 : decode cX6_knownLot 30 = .ok (.areturn, 1) := by decide +kernel
theorem dX6_knownBid_0 : decode cX6_knownBid 0 = .ok (.aload_n 0, 1) := by decide +kernel
theorem dX6_knownBid_1 : decode cX6_knownBid 1 = .ok (.iload_n 1, 1) := by decide +kernel
theorem dX6_knownBid_2 : decode cX6_knownBid 2 = .ok (.invokevirtual 271, 3) := by decide +kernel
theorem dX6_knownBid_5 : decode cX6_knownBid 5 = .ok (.ifCond .ne 14, 3) := by decide +kernel
theorem dX6_knownBid_8 : decode cX6_knownBid 8 = .ok (.new 266, 3) := by decide +kernel
theorem dX6_knownBid_11 : decode cX6_knownBid 11 = .ok (.dup, 1) := by decide +kernel
theorem dX6_knownBid_12 : decode cX6_knownBid 12 = .ok (.ldc_w 274, 3) := by decide +kernel
theorem dX6_knownBid_15 : decode cX6_knownBid 15 = .ok (.invokespecial 270, 3) := by decide +kernel
theorem dX6_knownBid_18 : decode cX6_knownBid 18 = .ok (.athrow, 1) := by decide +kernel
theorem dX6_knownBid_19 : decode cX6_knownBid 19 = .ok (.aload_n 0, 1) := by decide +kernel
theorem dX6_knownBid_20 : decode cX6_knownBid 20 = .ok (.getfield 16, 3) := by decide +kernel
theorem dX6_knownBid_23 : decode cX6_knownBid 23 = .ok (.iload_n 1, 1) := by decide +kernel
theorem dX6_knownBid_24 : decode cX6_knownBid 24 = .ok (.invokevirtual 185, 3) := by decide +kernel
theorem dX6_knownBid_27 : decode cX6_knownBid 27 = .ok (.checkcast 112, 3) := by decide +kernel
theorem dX6_knownBid_30 : decode cX6_knownBid 30 = .ok (.areturn, 1) := by decide +kernel
theorem dX6_knownOpenBid_0 : decode cX6_knownOpenBid 0 = .ok (.aload_n 0, 1) := by decide +kernel
theorem dX6_knownOpenBid_1 : decode cX6_knownOpenBid 1 = .ok (.iload_n 1, 1) := by decide +kernel
theorem dX6_knownOpenBid_2 : decode cX6_knownOpenBid 2 = .ok (.invokevirtual 117, 3) := by decide +kernel
theorem dX6_knownOpenBid_5 : decode cX6_knownOpenBid 5 = .ok (.astore_n 2, 1) := by decide +kernel
theorem dX6_knownOpenBid_6 : decode cX6_knownOpenBid 6 = .ok (.aload_n 2, 1) := by decide +kernel
theorem dX6_knownOpenBid_7 : decode cX6_knownOpenBid 7 = .ok (.getfield 123, 3) := by decide +kernel
theorem dX6_knownOpenBid_10 : decode cX6_knownOpenBid 10 = .ok (.bipush 111, 2) := by decide +kernel
theorem dX6_knownOpenBid_12 : decode cX6_knownOpenBid 12 = .ok (.if_icmp .eq 14, 3) := by decide +kernel
theorem dX6_knownOpenBid_15 : decode cX6_knownOpenBid 15 = .ok (.new 59, 3) := by decide +kernel
theorem dX6_knownOpenBid_18 : decode cX6_knownOpenBid 18 = .ok (.dup, 1) := by decide +kernel
theorem dX6_knownOpenBid_19 : decode cX6_knownOpenBid 19 = .ok (.ldc_w 276, 3) := by decide +kernel
theorem dX6_knownOpenBid_22 : decode cX6_knownOpenBid 22 = .ok (.invokespecial 63, 3) := by decide +kernel
theorem dX6_knownOpenBid_25 : decode cX6_knownOpenBid 25 = .ok (.athrow, 1) := by decide +kernel
theorem dX6_knownOpenBid_26 : decode cX6_knownOpenBid 26 = .ok (.aload_n 2, 1) := by decide +kernel
theorem dX6_knownOpenBid_27 : decode cX6_knownOpenBid 27 = .ok (.areturn, 1) := by decide +kernel
theorem dX6_knownItem_0 : decode cX6_knownItem 0 = .ok (.iload_n 1, 1) := by decide +kernel
theorem dX6_knownItem_1 : decode cX6_knownItem 1 = .ok (.ifCond .lt 14, 3) := by decide +kernel
theorem dX6_knownItem_4 : decode cX6_knownItem 4 = .ok (.iload_n 1, 1) := by decide +kernel
theorem dX6_knownItem_5 : decode cX6_knownItem 5 = .ok (.aload_n 0, 1) := by decide +kernel
theorem dX6_knownItem_6 : decode cX6_knownItem 6 = .ok (.getfield 124, 3) := by decide +kernel
theorem dX6_knownItem_9 : decode cX6_knownItem 9 = .ok (.invokevirtual 55, 3) := by decide +kernel
theorem dX6_knownItem_12 : decode cX6_knownItem 12 = .ok (.if_icmp .lt 14, 3) := by decide +kernel
theorem dX6_knownItem_15 : decode cX6_knownItem 15 = .ok (.new 278, 3) := by decide +kernel
theorem dX6_knownItem_18 : decode cX6_knownItem 18 = .ok (.dup, 1) := by decide +kernel
theorem dX6_knownItem_19 : decode cX6_knownItem 19 = .ok (.ldc_w 280, 3) := by decide +kernel
theorem dX6_knownItem_22 : decode cX6_knownItem 22 = .ok (.invokespecial 282, 3) := by decide +kernel
theorem dX6_knownItem_25 : decode cX6_knownItem 25 = .ok (.athrow, 1) := by decide +kernel
theorem dX6_knownItem_26 : decode cX6_knownItem 26 = .ok (.aload_n 0, 1) := by decide +kernel
theorem dX6_knownItem_27 : decode cX6_knownItem 27 = .ok (.getfield 124, 3) := by decide +kernel
theorem dX6_knownItem_30 : decode cX6_knownItem 30 = .ok (.iload_n 1, 1) := by decide +kernel
theorem dX6_knownItem_31 : decode cX6_knownItem 31 = .ok (.invokevirtual 185, 3) := by decide +kernel
theorem dX6_knownItem_34 : decode cX6_knownItem 34 = .ok (.checkcast 129, 3) := by decide +kernel
theorem dX6_knownItem_37 : decode cX6_knownItem 37 = .ok (.areturn, 1) := by decide +kernel
theorem dX6_isFit_0 : decode cX6_isFit 0 = .ok (.aload_n 2, 1) := by decide +kernel
theorem dX6_isFit_1 : decode cX6_isFit 1 = .ok (.getfield 283, 3) := by decide +kernel
theorem dX6_isFit_4 : decode cX6_isFit 4 = .ok (.aload_n 1, 1) := by decide +kernel
theorem dX6_isFit_5 : decode cX6_isFit 5 = .ok (.getfield 174, 3) := by decide +kernel
theorem dX6_isFit_8 : decode cX6_isFit 8 = .ok (.isub, 1) := by decide +kernel
theorem dX6_isFit_9 : decode cX6_isFit 9 = .ok (.istore_n 3, 1) := by decide +kernel
theorem dX6_isFit_10 : decode cX6_isFit 10 = .ok (.aload_n 1, 1) := by decide +kernel
theorem dX6_isFit_11 : decode cX6_isFit 11 = .ok (.getfield 171, 3) := by decide +kernel
theorem dX6_isFit_14 : decode cX6_isFit 14 = .ok (.aload_n 2, 1) := by decide +kernel
theorem dX6_isFit_15 : decode cX6_isFit 15 = .ok (.getfield 284, 3) := by decide +kernel
theorem dX6_isFit_18 : decode cX6_isFit 18 = .ok (.if_icmp .ne 9, 3) := by decide +kernel
theorem dX6_isFit_21 : decode cX6_isFit 21 = .ok (.iload_n 3, 1) := by decide +kernel
theorem dX6_isFit_22 : decode cX6_isFit 22 = .ok (.ifCond .lt 5, 3) := by decide +kernel
theorem dX6_isFit_25 : decode cX6_isFit 25 = .ok (.iconst 1, 1) := by decide +kernel
theorem dX6_isFit_26 : decode cX6_isFit 26 = .ok (.ireturn, 1) := by decide +kernel
theorem dX6_isFit_27 : decode cX6_isFit 27 = .ok (.iconst 0, 1) := by decide +kernel
theorem dX6_isFit_28 : decode cX6_isFit 28 = .ok (.istore 4, 2) := by decide +kernel
theorem dX6_isFit_30 : decode cX6_isFit 30 = .ok (.iload 4, 2) := by decide +kernel
theorem dX6_isFit_32 : decode cX6_isFit 32 = .ok (.aload_n 0, 1) := by decide +kernel
theorem dX6_isFit_33 : decode cX6_isFit 33 = .ok (.getfield 19, 3) := by decide +kernel
theorem dX6_isFit_36 : decode cX6_isFit 36 = .ok (.invokevirtual 55, 3) := by decide +kernel
theorem dX6_isFit_39 : decode cX6_isFit 39 = .ok (.if_icmp .ge 58, 3) := by decide +kernel
theorem dX6_isFit_42 : decode cX6_isFit 42 = .ok (.aload_n 0, 1) := by decide +kernel
theorem dX6_isFit_43 : decode cX6_isFit 43 = .ok (.getfield 19, 3) := by decide +kernel
theorem dX6_isFit_46 : decode cX6_isFit 46 = .ok (.iload 4, 2) := by decide +kernel
theorem dX6_isFit_48 : decode cX6_isFit 48 = .ok (.invokevirtual 185, 3) := by decide +kernel
theorem dX6_isFit_51 : decode cX6_isFit 51 = .ok (.checkcast 87, 3) := by decide +kernel
theorem dX6_isFit_54 : decode cX6_isFit 54 = .ok (.astore 5, 2) := by decide +kernel
theorem dX6_isFit_56 : decode cX6_isFit 56 = .ok (.aload 5, 2) := by decide +kernel
theorem dX6_isFit_58 : decode cX6_isFit 58 = .ok (.getfield 285, 3) := by decide +kernel
theorem dX6_isFit_61 : decode cX6_isFit 61 = .ok (.aload_n 2, 1) := by decide +kernel
theorem dX6_isFit_62 : decode cX6_isFit 62 = .ok (.getfield 284, 3) := by decide +kernel
theorem dX6_isFit_65 : decode cX6_isFit 65 = .ok (.if_icmp .ne 26, 3) := by decide +kernel
theorem dX6_isFit_68 : decode cX6_isFit 68 = .ok (.aload 5, 2) := by decide +kernel
theorem dX6_isFit_70 : decode cX6_isFit 70 = .ok (.getfield 286, 3) := by decide +kernel
theorem dX6_isFit_73 : decode cX6_isFit 73 = .ok (.aload_n 1, 1) := by decide +kernel
theorem dX6_isFit_74 : decode cX6_isFit 74 = .ok (.getfield 171, 3) := by decide +kernel
theorem dX6_isFit_77 : decode cX6_isFit 77 = .ok (.if_icmp .ne 14, 3) := by decide +kernel
theorem dX6_isFit_80 : decode cX6_isFit 80 = .ok (.iload_n 3, 1) := by decide +kernel
theorem dX6_isFit_81 : decode cX6_isFit 81 = .ok (.aload 5, 2) := by decide +kernel
theorem dX6_isFit_83 : decode cX6_isFit 83 = .ok (.getfield 289, 3) := by decide +kernel
theorem dX6_isFit_86 : decode cX6_isFit 86 = .ok (.if_icmp .lt 5, 3) := by decide +kernel
theorem dX6_isFit_89 : decode cX6_isFit 89 = .ok (.iconst 1, 1) := by decide +kernel
theorem dX6_isFit_90 : decode cX6_isFit 90 = .ok (.ireturn, 1) := by decide +kernel
theorem dX6_isFit_91 : decode cX6_isFit 91 = .ok (.iinc 4 1, 3) := by decide +kernel
theorem dX6_isFit_94 : decode cX6_isFit 94 = .ok (.goto (-64), 3) := by decide +kernel
theorem dX6_isFit_97 : decode cX6_isFit 97 = .ok (.iconst 0, 1) := by decide +kernel
theorem dX6_isFit_98 : decode cX6_isFit 98 = .ok (.ireturn, 1) := by decide +kernel
theorem dX6_fillFloor_0 : decode cX6_fillFloor 0 = .ok (.aload_n 0, 1) := by decide +kernel
theorem dX6_fillFloor_1 : decode cX6_fillFloor 1 = .ok (.getfield 25, 3) := by decide +kernel
theorem dX6_fillFloor_4 : decode cX6_fillFloor 4 = .ok (.invokevirtual 292, 3) := by decide +kernel
theorem dX6_fillFloor_7 : decode cX6_fillFloor 7 = .ok (.iconst 0, 1) := by decide +kernel
theorem dX6_fillFloor_8 : decode cX6_fillFloor 8 = .ok (.istore_n 1, 1) := by decide +kernel
theorem dX6_fillFloor_9 : decode cX6_fillFloor 9 = .ok (.iload_n 1, 1) := by decide +kernel
theorem dX6_fillFloor_10 : decode cX6_fillFloor 10 = .ok (.aload_n 0, 1) := by decide +kernel
theorem dX6_fillFloor_11 : decode cX6_fillFloor 11 = .ok (.getfield 12, 3) := by decide +kernel
theorem dX6_fillFloor_14 : decode cX6_fillFloor 14 = .ok (.invokevirtual 55, 3) := by decide +kernel
theorem dX6_fillFloor_17 : decode cX6_fillFloor 17 = .ok (.if_icmp .ge 42, 3) := by decide +kernel
theorem dX6_fillFloor_20 : decode cX6_fillFloor 20 = .ok (.aload_n 0, 1) := by decide +kernel
theorem dX6_fillFloor_21 : decode cX6_fillFloor 21 = .ok (.getfield 12, 3) := by decide +kernel
theorem dX6_fillFloor_24 : decode cX6_fillFloor 24 = .ok (.iload_n 1, 1) := by decide +kernel
theorem dX6_fillFloor_25 : decode cX6_fillFloor 25 = .ok (.invokevirtual 185, 3) := by decide +kernel
theorem dX6_fillFloor_28 : decode cX6_fillFloor 28 = .ok (.checkcast 64, 3) := by decide +kernel
theorem dX6_fillFloor_31 : decode cX6_fillFloor 31 = .ok (.astore_n 2, 1) := by decide +kernel
theorem dX6_fillFloor_32 : decode cX6_fillFloor 32 = .ok (.aload_n 2, 1) := by decide +kernel
theorem dX6_fillFloor_33 : decode cX6_fillFloor 33 = .ok (.getfield 77, 3) := by decide +kernel
theorem dX6_fillFloor_36 : decode cX6_fillFloor 36 = .ok (.bipush 111, 2) := by decide +kernel
theorem dX6_fillFloor_38 : decode cX6_fillFloor 38 = .ok (.if_icmp .ne 15, 3) := by decide +kernel
theorem dX6_fillFloor_41 : decode cX6_fillFloor 41 = .ok (.aload_n 0, 1) := by decide +kernel
theorem dX6_fillFloor_42 : decode cX6_fillFloor 42 = .ok (.getfield 25, 3) := by decide +kernel
theorem dX6_fillFloor_45 : decode cX6_fillFloor 45 = .ok (.iload_n 1, 1) := by decide +kernel
theorem dX6_fillFloor_46 : decode cX6_fillFloor 46 = .ok (.aload_n 2, 1) := by decide +kernel
theorem dX6_fillFloor_47 : decode cX6_fillFloor 47 = .ok (.getfield 177, 3) := by decide +kernel
theorem dX6_fillFloor_50 : decode cX6_fillFloor 50 = .ok (.invokevirtual 295, 3) := by decide +kernel
theorem dX6_fillFloor_53 : decode cX6_fillFloor 53 = .ok (.iinc 1 1, 3) := by decide +kernel
theorem dX6_fillFloor_56 : decode cX6_fillFloor 56 = .ok (.goto (-47), 3) := by decide +kernel
theorem dX6_fillFloor_59 : decode cX6_fillFloor 59 = .ok (.iconst 0, 1) := by decide +kernel
theorem dX6_fillFloor_60 : decode cX6_fillFloor 60 = .ok (.istore_n 1, 1) := by decide +kernel
theorem dX6_fillFloor_61 : decode cX6_fillFloor 61 = .ok (.iload_n 1, 1) := by decide +kernel
theorem dX6_fillFloor_62 : decode cX6_fillFloor 62 = .ok (.aload_n 0, 1) := by decide +kernel
theorem dX6_fillFloor_63 : decode cX6_fillFloor 63 = .ok (.getfield 16, 3) := by decide +kernel
theorem dX6_fillFloor_66 : decode cX6_fillFloor 66 = .ok (.invokevirtual 55, 3) := by decide +kernel
theorem dX6_fillFloor_69 : decode cX6_fillFloor 69 = .ok (.if_icmp .ge 51, 3) := by decide +kernel
theorem dX6_fillFloor_72 : decode cX6_fillFloor 72 = .ok (.aload_n 0, 1) := by decide +kernel
theorem dX6_fillFloor_73 : decode cX6_fillFloor 73 = .ok (.getfield 16, 3) := by decide +kernel
theorem dX6_fillFloor_76 : decode cX6_fillFloor 76 = .ok (.iload_n 1, 1) := by decide +kernel
theorem dX6_fillFloor_77 : decode cX6_fillFloor 77 = .ok (.invokevirtual 185, 3) := by decide +kernel
theorem dX6_fillFloor_80 : decode cX6_fillFloor 80 = .ok (.checkcast 112, 3) := by decide +kernel
theorem dX6_fillFloor_83 : decode cX6_fillFloor 83 = .ok (.astore_n 2, 1) := by decide +kernel
theorem dX6_fillFloor_84 : decode cX6_fillFloor 84 = .ok (.aload_n 2, 1) := by decide +kernel
theorem dX6_fillFloor_85 : decode cX6_fillFloor 85 = .ok (.getfield 123, 3) := by decide +kernel
theorem dX6_fillFloor_88 : decode cX6_fillFloor 88 = .ok (.bipush 111, 2) := by decide +kernel
theorem dX6_fillFloor_90 : decode cX6_fillFloor 90 = .ok (.if_icmp .ne 24, 3) := by decide +kernel
theorem dX6_fillFloor_93 : decode cX6_fillFloor 93 = .ok (.aload_n 0, 1) := by decide +kernel
theorem dX6_fillFloor_94 : decode cX6_fillFloor 94 = .ok (.getfield 25, 3) := by decide +kernel
theorem dX6_fillFloor_97 : decode cX6_fillFloor 97 = .ok (.iload_n 1, 1) := by decide +kernel
theorem dX6_fillFloor_98 : decode cX6_fillFloor 98 = .ok (.aload_n 2, 1) := by decide +kernel
theorem dX6_fillFloor_99 : decode cX6_fillFloor 99 = .ok (.getfield 246, 3) := by decide +kernel
theorem dX6_fillFloor_102 : decode cX6_fillFloor 102 = .ok (.aload_n 2, 1) := by decide +kernel
theorem dX6_fillFloor_103 : decode cX6_fillFloor 103 = .ok (.getfield 137, 3) := by decide +kernel
theorem dX6_fillFloor_106 : decode cX6_fillFloor 106 = .ok (.invokevirtual 298, 3) := by decide +kernel
theorem dX6_fillFloor_109 : decode cX6_fillFloor 109 = .ok (.aload_n 0, 1) := by decide +kernel
theorem dX6_fillFloor_110 : decode cX6_fillFloor 110 = .ok (.aload_n 2, 1) := by decide +kernel
theorem dX6_fillFloor_111 : decode cX6_fillFloor 111 = .ok (.invokevirtual 301, 3) := by decide +kernel
theorem dX6_fillFloor_114 : decode cX6_fillFloor 114 = .ok (.iinc 1 1, 3) := by decide +kernel
theorem dX6_fillFloor_117 : decode cX6_fillFloor 117 = .ok (.goto (-56), 3) := by decide +kernel
theorem dX6_fillFloor_120 : decode cX6_fillFloor 120 = .ok (.return_, 1) := by decide +kernel
theorem dX6_addItemsToFloor_0 : decode cX6_addItemsToFloor 0 = .ok (.iconst 0, 1) := by decide +kernel
theorem dX6_addItemsToFloor_1 : decode cX6_addItemsToFloor 1 = .ok (.istore_n 2, 1) := by decide +kernel
theorem dX6_addItemsToFloor_2 : decode cX6_addItemsToFloor 2 = .ok (.iload_n 2, 1) := by decide +kernel
theorem dX6_addItemsToFloor_3 : decode cX6_addItemsToFloor 3 = .ok (.aload_n 1, 1) := by decide +kernel
theorem dX6_addItemsToFloor_4 : decode cX6_addItemsToFloor 4 = .ok (.getfield 124, 3) := by decide +kernel
theorem dX6_addItemsToFloor_7 : decode cX6_addItemsToFloor 7 = .ok (.invokevirtual 55, 3) := by decide +kernel
theorem dX6_addItemsToFloor_10 : decode cX6_addItemsToFloor 10 = .ok (.if_icmp .ge 31, 3) := by decide +kernel
theorem dX6_addItemsToFloor_13 : decode cX6_addItemsToFloor 13 = .ok (.aload_n 0, 1) := by decide +kernel
theorem dX6_addItemsToFloor_14 : decode cX6_addItemsToFloor 14 = .ok (.getfield 25, 3) := by decide +kernel
theorem dX6_addItemsToFloor_17 : decode cX6_addItemsToFloor 17 = .ok (.aload_n 0, 1) := by decide +kernel
theorem dX6_addItemsToFloor_18 : decode cX6_addItemsToFloor 18 = .ok (.aload_n 1, 1) := by decide +kernel
theorem dX6_addItemsToFloor_19 : decode cX6_addItemsToFloor 19 = .ok (.getfield 124, 3) := by decide +kernel
theorem dX6_addItemsToFloor_22 : decode cX6_addItemsToFloor 22 = .ok (.iload_n 2, 1) := by decide +kernel
theorem dX6_addItemsToFloor_23 : decode cX6_addItemsToFloor 23 = .ok (.invokevirtual 185, 3) := by decide +kernel
theorem dX6_addItemsToFloor_26 : decode cX6_addItemsToFloor 26 = .ok (.checkcast 129, 3) := by decide +kernel
theorem dX6_addItemsToFloor_29 : decode cX6_addItemsToFloor 29 = .ok (.invokevirtual 305, 3) := by decide +kernel
theorem dX6_addItemsToFloor_32 : decode cX6_addItemsToFloor 32 = .ok (.invokevirtual 309, 3) := by decide +kernel
theorem dX6_addItemsToFloor_35 : decode cX6_addItemsToFloor 35 = .ok (.iinc 2 1, 3) := by decide +kernel
theorem dX6_addItemsToFloor_38 : decode cX6_addItemsToFloor 38 = .ok (.goto (-36), 3) := by decide +kernel
theorem dX6_addItemsToFloor_41 : decode cX6_addItemsToFloor 41 = .ok (.return_, 1) := by decide +kernel
theorem dX6_fittingOnFloor_0 : decode cX6_fittingOnFloor 0 = .ok (.iconst 0, 1) := by decide +kernel
theorem dX6_fittingOnFloor_1 : decode cX6_fittingOnFloor 1 = .ok (.istore_n 2, 1) := by decide +kernel
theorem dX6_fittingOnFloor_2 : decode cX6_fittingOnFloor 2 = .ok (.iconst 0, 1) := by decide +kernel
theorem dX6_fittingOnFloor_3 : decode cX6_fittingOnFloor 3 = .ok (.istore_n 3, 1) := by decide +kernel
theorem dX6_fittingOnFloor_4 : decode cX6_fittingOnFloor 4 = .ok (.iload_n 3, 1) := by decide +kernel
theorem dX6_fittingOnFloor_5 : decode cX6_fittingOnFloor 5 = .ok (.aload_n 0, 1) := by decide +kernel
theorem dX6_fittingOnFloor_6 : decode cX6_fittingOnFloor 6 = .ok (.getfield 25, 3) := by decide +kernel
theorem dX6_fittingOnFloor_9 : decode cX6_fittingOnFloor 9 = .ok (.getfield 312, 3) := by decide +kernel
theorem dX6_fittingOnFloor_12 : decode cX6_fittingOnFloor 12 = .ok (.if_icmp .ge 55, 3) := by decide +kernel
theorem dX6_fittingOnFloor_15 : decode cX6_fittingOnFloor 15 = .ok (.aload_n 0, 1) := by decide +kernel
theorem dX6_fittingOnFloor_16 : decode cX6_fittingOnFloor 16 = .ok (.getfield 25, 3) := by decide +kernel
theorem dX6_fittingOnFloor_19 : decode cX6_fittingOnFloor 19 = .ok (.getfield 315, 3) := by decide +kernel
theorem dX6_fittingOnFloor_22 : decode cX6_fittingOnFloor 22 = .ok (.iload_n 3, 1) := by decide +kernel
theorem dX6_fittingOnFloor_23 : decode cX6_fittingOnFloor 23 = .ok (.iaload, 1) := by decide +kernel
theorem dX6_fittingOnFloor_24 : decode cX6_fittingOnFloor 24 = .ok (.istore 4, 2) := by decide +kernel
theorem dX6_fittingOnFloor_26 : decode cX6_fittingOnFloor 26 = .ok (.aload_n 0, 1) := by decide +kernel
theorem dX6_fittingOnFloor_27 : decode cX6_fittingOnFloor 27 = .ok (.iload 4, 2) := by decide +kernel
theorem dX6_fittingOnFloor_29 : decode cX6_fittingOnFloor 29 = .ok (.invokevirtual 263, 3) := by decide +kernel
theorem dX6_fittingOnFloor_32 : decode cX6_fittingOnFloor 32 = .ok (.ifCond .eq 29, 3) := by decide +kernel
theorem dX6_fittingOnFloor_35 : decode cX6_fittingOnFloor 35 = .ok (.aload_n 0, 1) := by decide +kernel
theorem dX6_fittingOnFloor_36 : decode cX6_fittingOnFloor 36 = .ok (.aload_n 0, 1) := by decide +kernel
theorem dX6_fittingOnFloor_37 : decode cX6_fittingOnFloor 37 = .ok (.getfield 12, 3) := by decide +kernel
theorem dX6_fittingOnFloor_40 : decode cX6_fittingOnFloor 40 = .ok (.iload 4, 2) := by decide +kernel
theorem dX6_fittingOnFloor_42 : decode cX6_fittingOnFloor 42 = .ok (.invokevirtual 185, 3) := by decide +kernel
theorem dX6_fittingOnFloor_45 : decode cX6_fittingOnFloor 45 = .ok (.checkcast 64, 3) := by decide +kernel
theorem dX6_fittingOnFloor_48 : decode cX6_fittingOnFloor 48 = .ok (.aload_n 1, 1) := by decide +kernel
theorem dX6_fittingOnFloor_49 : decode cX6_fittingOnFloor 49 = .ok (.invokevirtual 192, 3) := by decide +kernel
theorem dX6_fittingOnFloor_52 : decode cX6_fittingOnFloor 52 = .ok (.ifCond .eq 9, 3) := by decide +kernel
theorem dX6_fittingOnFloor_55 : decode cX6_fittingOnFloor 55 = .ok (.iload_n 2, 1) := by decide +kernel
theorem dX6_fittingOnFloor_56 : decode cX6_fittingOnFloor 56 = .ok (.iconst 1, 1) := by decide +kernel
theorem dX6_fittingOnFloor_57 : decode cX6_fittingOnFloor 57 = .ok (.iload_n 3, 1) := by decide +kernel
theorem dX6_fittingOnFloor_58 : decode cX6_fittingOnFloor 58 = .ok (.ishl, 1) := by decide +kernel
theorem dX6_fittingOnFloor_59 : decode cX6_fittingOnFloor 59 = .ok (.ior, 1) := by decide +kernel
theorem dX6_fittingOnFloor_60 : decode cX6_fittingOnFloor 60 = .ok (.istore_n 2, 1) := by decide +kernel
theorem dX6_fittingOnFloor_61 : decode cX6_fittingOnFloor 61 = .ok (.iinc 3 1, 3) := by decide +kernel
theorem dX6_fittingOnFloor_64 : decode cX6_fittingOnFloor 64 = .ok (.goto (-60), 3) := by decide +kernel
theorem dX6_fittingOnFloor_67 : decode cX6_fittingOnFloor 67 = .ok (.iload_n 2, 1) := by decide +kernel
theorem dX6_fittingOnFloor_68 : decode cX6_fittingOnFloor 68 = .ok (.ireturn, 1) := by decide +kernel
theorem dX6_isInBestSet_0 : decode cX6_isInBestSet 0 = .ok (.aload_n 0, 1) := by decide +kernel
theorem dX6_isInBestSet_1 : decode cX6_isInBestSet 1 = .ok (.invokevirtual 144, 3) := by decide +kernel
theorem dX6_isInBestSet_4 : decode cX6_isInBestSet 4 = .ok (.aload_n 0, 1) := by decide +kernel
theorem dX6_isInBestSet_5 : decode cX6_isInBestSet 5 = .ok (.getfield 32, 3) := by decide +kernel
theorem dX6_isInBestSet_8 : decode cX6_isInBestSet 8 = .ok (.aload_n 0, 1) := by decide +kernel
theorem dX6_isInBestSet_9 : decode cX6_isInBestSet 9 = .ok (.getfield 25, 3) := by decide +kernel
theorem dX6_isInBestSet_12 : decode cX6_isInBestSet 12 = .ok (.iconst (-1), 1) := by decide +kernel
theorem dX6_isInBestSet_13 : decode cX6_isInBestSet 13 = .ok (.invokevirtual 147, 3) := by decide +kernel
theorem dX6_isInBestSet_16 : decode cX6_isInBestSet 16 = .ok (.aload_n 0, 1) := by decide +kernel
theorem dX6_isInBestSet_17 : decode cX6_isInBestSet 17 = .ok (.getfield 32, 3) := by decide +kernel
theorem dX6_isInBestSet_20 : decode cX6_isInBestSet 20 = .ok (.getfield 151, 3) := by decide +kernel
theorem dX6_isInBestSet_23 : decode cX6_isInBestSet 23 = .ok (.aload_n 0, 1) := by decide +kernel
theorem dX6_isInBestSet_24 : decode cX6_isInBestSet 24 = .ok (.getfield 25, 3) := by decide +kernel
theorem dX6_isInBestSet_27 : decode cX6_isInBestSet 27 = .ok (.iload_n 1, 1) := by decide +kernel
theorem dX6_isInBestSet_28 : decode cX6_isInBestSet 28 = .ok (.invokevirtual 214, 3) := by decide +kernel
theorem dX6_isInBestSet_31 : decode cX6_isInBestSet 31 = .ok (.iand, 1) := by decide +kernel
theorem dX6_isInBestSet_32 : decode cX6_isInBestSet 32 = .ok (.ifCond .eq 7, 3) := by decide +kernel
theorem dX6_isInBestSet_35 : decode cX6_isInBestSet 35 = .ok (.iconst 1, 1) := by decide +kernel
theorem dX6_isInBestSet_36 : decode cX6_isInBestSet 36 = .ok (.goto 4, 3) := by decide +kernel
theorem dX6_isInBestSet_39 : decode cX6_isInBestSet 39 = .ok (.iconst 0, 1) := by decide +kernel
theorem dX6_isInBestSet_40 : decode cX6_isInBestSet 40 = .ok (.ireturn, 1) := by decide +kernel
theorem dX6_settlePayments_0 : decode cX6_settlePayments 0 = .ok (.iconst 0, 1) := by decide +kernel
theorem dX6_settlePayments_1 : decode cX6_settlePayments 1 = .ok (.istore_n 3, 1) := by decide +kernel
theorem dX6_settlePayments_2 : decode cX6_settlePayments 2 = .ok (.iload_n 3, 1) := by decide +kernel
theorem dX6_settlePayments_3 : decode cX6_settlePayments 3 = .ok (.aload_n 0, 1) := by decide +kernel
theorem dX6_settlePayments_4 : decode cX6_settlePayments 4 = .ok (.getfield 25, 3) := by decide +kernel
theorem dX6_settlePayments_7 : decode cX6_settlePayments 7 = .ok (.getfield 319, 3) := by decide +kernel
theorem dX6_settlePayments_10 : decode cX6_settlePayments 10 = .ok (.if_icmp .ge 119, 3) := by decide +kernel
theorem dX6_settlePayments_13 : decode cX6_settlePayments 13 = .ok (.aload_n 0, 1) := by decide +kernel
theorem dX6_settlePayments_14 : decode cX6_settlePayments 14 = .ok (.getfield 25, 3) := by decide +kernel
theorem dX6_settlePayments_17 : decode cX6_settlePayments 17 = .ok (.getfield 322, 3) := by decide +kernel
theorem dX6_settlePayments_20 : decode cX6_settlePayments 20 = .ok (.iload_n 3, 1) := by decide +kernel
theorem dX6_settlePayments_21 : decode cX6_settlePayments 21 = .ok (.iaload, 1) := by decide +kernel
theorem dX6_settlePayments_22 : decode cX6_settlePayments 22 = .ok (.istore 4, 2) := by decide +kernel
theorem dX6_settlePayments_24 : decode cX6_settlePayments 24 = .ok (.iload_n 1, 1) := by decide +kernel
theorem dX6_settlePayments_25 : decode cX6_settlePayments 25 = .ok (.iconst 1, 1) := by decide +kernel
theorem dX6_settlePayments_26 : decode cX6_settlePayments 26 = .ok (.iload_n 3, 1) := by decide +kernel
theorem dX6_settlePayments_27 : decode cX6_settlePayments 27 = .ok (.ishl, 1) := by decide +kernel
theorem dX6_settlePayments_28 : decode cX6_settlePayments 28 = .ok (.iand, 1) := by decide +kernel
theorem dX6_settlePayments_29 : decode cX6_settlePayments 29 = .ok (.ifCond .eq 94, 3) := by decide +kernel
theorem dX6_settlePayments_32 : decode cX6_settlePayments 32 = .ok (.aload_n 0, 1) := by decide +kernel
theorem dX6_settlePayments_33 : decode cX6_settlePayments 33 = .ok (.iload 4, 2) := by decide +kernel
theorem dX6_settlePayments_35 : decode cX6_settlePayments 35 = .ok (.invokevirtual 271, 3) := by decide +kernel
theorem dX6_settlePayments_38 : decode cX6_settlePayments 38 = .ok (.ifCond .eq 85, 3) := by decide +kernel
theorem dX6_settlePayments_41 : decode cX6_settlePayments 41 = .ok (.aload_n 0, 1) := by decide +kernel
theorem dX6_settlePayments_42 : decode cX6_settlePayments 42 = .ok (.getfield 16, 3) := by decide +kernel
theorem dX6_settlePayments_45 : decode cX6_settlePayments 45 = .ok (.iload 4, 2) := by decide +kernel
theorem dX6_settlePayments_47 : decode cX6_settlePayments 47 = .ok (.invokevirtual 185, 3) := by decide +kernel
theorem dX6_settlePayments_50 : decode cX6_settlePayments 50 = .ok (.checkcast 112, 3) := by decide +kernel
theorem dX6_settlePayments_53 : decode cX6_settlePayments 53 = .ok (.astore 5, 2) := by decide +kernel
theorem dX6_settlePayments_55 : decode cX6_settlePayments 55 = .ok (.aload_n 0, 1) := by decide +kernel
theorem dX6_settlePayments_56 : decode cX6_settlePayments 56 = .ok (.getfield 32, 3) := by decide +kernel
theorem dX6_settlePayments_59 : decode cX6_settlePayments 59 = .ok (.aload_n 0, 1) := by decide +kernel
theorem dX6_settlePayments_60 : decode cX6_settlePayments 60 = .ok (.getfield 25, 3) := by decide +kernel
theorem dX6_settlePayments_63 : decode cX6_settlePayments 63 = .ok (.aload 5, 2) := by decide +kernel
theorem dX6_settlePayments_65 : decode cX6_settlePayments 65 = .ok (.getfield 246, 3) := by decide +kernel
theorem dX6_settlePayments_68 : decode cX6_settlePayments 68 = .ok (.invokevirtual 147, 3) := by decide +kernel
theorem dX6_settlePayments_71 : decode cX6_settlePayments 71 = .ok (.aload 5, 2) := by decide +kernel
theorem dX6_settlePayments_73 : decode cX6_settlePayments 73 = .ok (.aload 5, 2) := by decide +kernel
theorem dX6_settlePayments_75 : decode cX6_settlePayments 75 = .ok (.getfield 137, 3) := by decide +kernel
theorem dX6_settlePayments_78 : decode cX6_settlePayments 78 = .ok (.iload_n 2, 1) := by decide +kernel
theorem dX6_settlePayments_79 : decode cX6_settlePayments 79 = .ok (.isub, 1) := by decide +kernel
theorem dX6_settlePayments_80 : decode cX6_settlePayments 80 = .ok (.aload_n 0, 1) := by decide +kernel
theorem dX6_settlePayments_81 : decode cX6_settlePayments 81 = .ok (.getfield 32, 3) := by decide +kernel
theorem dX6_settlePayments_84 : decode cX6_settlePayments 84 = .ok (.getfield 154, 3) := by decide +kernel
theorem dX6_settlePayments_87 : decode cX6_settlePayments 87 = .ok (.iadd, 1) := by decide +kernel
theorem dX6_settlePayments_88 : decode cX6_settlePayments 88 = .ok (.putfield 211, 3) := by decide +kernel
theorem dX6_settlePayments_91 : decode cX6_settlePayments 91 = .ok (.aload 5, 2) := by decide +kernel
theorem dX6_settlePayments_93 : decode cX6_settlePayments 93 = .ok (.bipush 119, 2) := by decide +kernel
theorem dX6_settlePayments_95 : decode cX6_settlePayments 95 = .ok (.putfield 123, 3) := by decide +kernel
theorem dX6_settlePayments_98 : decode cX6_settlePayments 98 = .ok (.aload_n 0, 1) := by decide +kernel
theorem dX6_settlePayments_99 : decode cX6_settlePayments 99 = .ok (.dup, 1) := by decide +kernel
theorem dX6_settlePayments_100 : decode cX6_settlePayments 100 = .ok (.getfield 249, 3) := by decide +kernel
theorem dX6_settlePayments_103 : decode cX6_settlePayments 103 = .ok (.aload 5, 2) := by decide +kernel
theorem dX6_settlePayments_105 : decode cX6_settlePayments 105 = .ok (.getfield 211, 3) := by decide +kernel
theorem dX6_settlePayments_108 : decode cX6_settlePayments 108 = .ok (.i2l, 1) := by decide +kernel
theorem dX6_settlePayments_109 : decode cX6_settlePayments 109 = .ok (.ladd, 1) := by decide +kernel
theorem dX6_settlePayments_110 : decode cX6_settlePayments 110 = .ok (.putfield 249, 3) := by decide +kernel
theorem dX6_settlePayments_113 : decode cX6_settlePayments 113 = .ok (.aload_n 0, 1) := by decide +kernel
theorem dX6_settlePayments_114 : decode cX6_settlePayments 114 = .ok (.dup, 1) := by decide +kernel
theorem dX6_settlePayments_115 : decode cX6_settlePayments 115 = .ok (.getfield 258, 3) := by decide +kernel
theorem dX6_settlePayments_118 : decode cX6_settlePayments 118 = .ok (.iconst 1, 1) := by decide +kernel
theorem dX6_settlePayments_119 : decode cX6_settlePayments 119 = .ok (.iadd, 1) := by decide +kernel
theorem dX6_settlePayments_120 : decode cX6_settlePayments 120 = .ok (.putfield 258, 3) := by decide +kernel
theorem dX6_settlePayments_123 : decode cX6_settlePayments 123 = .ok (.iinc 3 1, 3) := by decide +kernel
theorem dX6_settlePayments_126 : decode cX6_settlePayments 126 = .ok (.goto (-124), 3) := by decide +kernel
theorem dX6_settlePayments_129 : decode cX6_settlePayments 129 = .ok (.return_, 1) := by decide +kernel
theorem dX6_handOutLots_0 : decode cX6_handOutLots 0 = .ok (.aload_n 0, 1) := by decide +kernel
theorem dX6_handOutLots_1 : decode cX6_handOutLots 1 = .ok (.getfield 25, 3) := by decide +kernel
theorem dX6_handOutLots_4 : decode cX6_handOutLots 4 = .ok (.iload_n 1, 1) := by decide +kernel
theorem dX6_handOutLots_5 : decode cX6_handOutLots 5 = .ok (.invokevirtual 236, 3) := by decide +kernel
theorem dX6_handOutLots_8 : decode cX6_handOutLots 8 = .ok (.iconst 0, 1) := by decide +kernel
theorem dX6_handOutLots_9 : decode cX6_handOutLots 9 = .ok (.istore_n 2, 1) := by decide +kernel
theorem dX6_handOutLots_10 : decode cX6_handOutLots 10 = .ok (.iconst 0, 1) := by decide +kernel
theorem dX6_handOutLots_11 : decode cX6_handOutLots 11 = .ok (.istore_n 3, 1) := by decide +kernel
theorem dX6_handOutLots_12 : decode cX6_handOutLots 12 = .ok (.iload_n 3, 1) := by decide +kernel
theorem dX6_handOutLots_13 : decode cX6_handOutLots 13 = .ok (.aload_n 0, 1) := by decide +kernel
theorem dX6_handOutLots_14 : decode cX6_handOutLots 14 = .ok (.getfield 25, 3) := by decide +kernel
theorem dX6_handOutLots_17 : decode cX6_handOutLots 17 = .ok (.getfield 319, 3) := by decide +kernel
theorem dX6_handOutLots_20 : decode cX6_handOutLots 20 = .ok (.if_icmp .ge 26, 3) := by decide +kernel
theorem dX6_handOutLots_23 : decode cX6_handOutLots 23 = .ok (.iload_n 1, 1) := by decide +kernel
theorem dX6_handOutLots_24 : decode cX6_handOutLots 24 = .ok (.iconst 1, 1) := by decide +kernel
theorem dX6_handOutLots_25 : decode cX6_handOutLots 25 = .ok (.iload_n 3, 1) := by decide +kernel
theorem dX6_handOutLots_26 : decode cX6_handOutLots 26 = .ok (.ishl, 1) := by decide +kernel
theorem dX6_handOutLots_27 : decode cX6_handOutLots 27 = .ok (.iand, 1) := by decide +kernel
theorem dX6_handOutLots_28 : decode cX6_handOutLots 28 = .ok (.ifCond .eq 12, 3) := by decide +kernel
theorem dX6_handOutLots_31 : decode cX6_handOutLots 31 = .ok (.iload_n 2, 1) := by decide +kernel
theorem dX6_handOutLots_32 : decode cX6_handOutLots 32 = .ok (.aload_n 0, 1) := by decide +kernel
end
section
theorem dX6_handOutLots_33 : decode cX6_handOutLots 33 = .ok (.iload_n 1, 1) := by decide +kernel
theorem dX6_handOutLots_34 : decode cX6_handOutLots 34 = .ok (.iload_n 3, 1) := by decide +kernel
theorem dX6_handOutLots_35 : decode cX6_handOutLots 35 = .ok (.invokevirtual 325, 3) := by decide +kernel
theorem dX6_handOutLots_38 : decode cX6_handOutLots 38 = .ok (.iadd, 1) := by decide +kernel
theorem dX6_handOutLots_39 : decode cX6_handOutLots 39 = .ok (.istore_n 2, 1) := by decide +kernel
theorem dX6_handOutLots_40 : decode cX6_handOutLots 40 = .ok (.iinc 3 1, 3) := by decide +kernel
theorem dX6_handOutLots_43 : decode cX6_handOutLots 43 = .ok (.goto (-31), 3) := by decide +kernel
theorem dX6_handOutLots_46 : decode cX6_handOutLots 46 = .ok (.iload_n 2, 1) := by decide +kernel
theorem dX6_handOutLots_47 : decode cX6_handOutLots 47 = .ok (.ireturn, 1) := by decide +kernel
theorem dX6_handOutLotsTo_0 : decode cX6_handOutLotsTo 0 = .ok (.aload_n 0, 1) := by decide +kernel
theorem dX6_handOutLotsTo_1 : decode cX6_handOutLotsTo 1 = .ok (.getfield 25, 3) := by decide +kernel
theorem dX6_handOutLotsTo_4 : decode cX6_handOutLotsTo 4 = .ok (.getfield 322, 3) := by decide +kernel
theorem dX6_handOutLotsTo_7 : decode cX6_handOutLotsTo 7 = .ok (.iload_n 2, 1) := by decide +kernel
theorem dX6_handOutLotsTo_8 : decode cX6_handOutLotsTo 8 = .ok (.iaload, 1) := by decide +kernel
theorem dX6_handOutLotsTo_9 : decode cX6_handOutLotsTo 9 = .ok (.istore_n 3, 1) := by decide +kernel
theorem dX6_handOutLotsTo_10 : decode cX6_handOutLotsTo 10 = .ok (.aload_n 0, 1) := by decide +kernel
theorem dX6_handOutLotsTo_11 : decode cX6_handOutLotsTo 11 = .ok (.iload_n 3, 1) := by decide +kernel
theorem dX6_handOutLotsTo_12 : decode cX6_handOutLotsTo 12 = .ok (.invokevirtual 271, 3) := by decide +kernel
theorem dX6_handOutLotsTo_15 : decode cX6_handOutLotsTo 15 = .ok (.ifCond .ne 5, 3) := by decide +kernel
theorem dX6_handOutLotsTo_18 : decode cX6_handOutLotsTo 18 = .ok (.iconst 0, 1) := by decide +kernel
theorem dX6_handOutLotsTo_19 : decode cX6_handOutLotsTo 19 = .ok (.ireturn, 1) := by decide +kernel
theorem dX6_handOutLotsTo_20 : decode cX6_handOutLotsTo 20 = .ok (.aload_n 0, 1) := by decide +kernel
theorem dX6_handOutLotsTo_21 : decode cX6_handOutLotsTo 21 = .ok (.getfield 16, 3) := by decide +kernel
theorem dX6_handOutLotsTo_24 : decode cX6_handOutLotsTo 24 = .ok (.iload_n 3, 1) := by decide +kernel
theorem dX6_handOutLotsTo_25 : decode cX6_handOutLotsTo 25 = .ok (.invokevirtual 185, 3) := by decide +kernel
theorem dX6_handOutLotsTo_28 : decode cX6_handOutLotsTo 28 = .ok (.checkcast 112, 3) := by decide +kernel
theorem dX6_handOutLotsTo_31 : decode cX6_handOutLotsTo 31 = .ok (.getfield 124, 3) := by decide +kernel
theorem dX6_handOutLotsTo_34 : decode cX6_handOutLotsTo 34 = .ok (.astore 4, 2) := by decide +kernel
theorem dX6_handOutLotsTo_36 : decode cX6_handOutLotsTo 36 = .ok (.iconst 0, 1) := by decide +kernel
theorem dX6_handOutLotsTo_37 : decode cX6_handOutLotsTo 37 = .ok (.istore 5, 2) := by decide +kernel
theorem dX6_handOutLotsTo_39 : decode cX6_handOutLotsTo 39 = .ok (.iconst 0, 1) := by decide +kernel
theorem dX6_handOutLotsTo_40 : decode cX6_handOutLotsTo 40 = .ok (.istore 6, 2) := by decide +kernel
theorem dX6_handOutLotsTo_42 : decode cX6_handOutLotsTo 42 = .ok (.iload 6, 2) := by decide +kernel
theorem dX6_handOutLotsTo_44 : decode cX6_handOutLotsTo 44 = .ok (.aload 4, 2) := by decide +kernel
theorem dX6_handOutLotsTo_46 : decode cX6_handOutLotsTo 46 = .ok (.invokevirtual 55, 3) := by decide +kernel
theorem dX6_handOutLotsTo_49 : decode cX6_handOutLotsTo 49 = .ok (.if_icmp .ge 82, 3) := by decide +kernel
theorem dX6_handOutLotsTo_52 : decode cX6_handOutLotsTo 52 = .ok (.aload_n 0, 1) := by decide +kernel
theorem dX6_handOutLotsTo_53 : decode cX6_handOutLotsTo 53 = .ok (.getfield 25, 3) := by decide +kernel
theorem dX6_handOutLotsTo_56 : decode cX6_handOutLotsTo 56 = .ok (.iload_n 1, 1) := by decide +kernel
theorem dX6_handOutLotsTo_57 : decode cX6_handOutLotsTo 57 = .ok (.iload_n 2, 1) := by decide +kernel
theorem dX6_handOutLotsTo_58 : decode cX6_handOutLotsTo 58 = .ok (.iload 6, 2) := by decide +kernel
theorem dX6_handOutLotsTo_60 : decode cX6_handOutLotsTo 60 = .ok (.invokevirtual 242, 3) := by decide +kernel
theorem dX6_handOutLotsTo_63 : decode cX6_handOutLotsTo 63 = .ok (.istore 7, 2) := by decide +kernel
theorem dX6_handOutLotsTo_65 : decode cX6_handOutLotsTo 65 = .ok (.aload_n 0, 1) := by decide +kernel
theorem dX6_handOutLotsTo_66 : decode cX6_handOutLotsTo 66 = .ok (.iload 7, 2) := by decide +kernel
theorem dX6_handOutLotsTo_68 : decode cX6_handOutLotsTo 68 = .ok (.invokevirtual 263, 3) := by decide +kernel
theorem dX6_handOutLotsTo_71 : decode cX6_handOutLotsTo 71 = .ok (.ifCond .eq 54, 3) := by decide +kernel
theorem dX6_handOutLotsTo_74 : decode cX6_handOutLotsTo 74 = .ok (.aload 4, 2) := by decide +kernel
theorem dX6_handOutLotsTo_76 : decode cX6_handOutLotsTo 76 = .ok (.iload 6, 2) := by decide +kernel
theorem dX6_handOutLotsTo_78 : decode cX6_handOutLotsTo 78 = .ok (.invokevirtual 185, 3) := by decide +kernel
theorem dX6_handOutLotsTo_81 : decode cX6_handOutLotsTo 81 = .ok (.checkcast 129, 3) := by decide +kernel
theorem dX6_handOutLotsTo_84 : decode cX6_handOutLotsTo 84 = .ok (.iload 7, 2) := by decide +kernel
theorem dX6_handOutLotsTo_86 : decode cX6_handOutLotsTo 86 = .ok (.putfield 208, 3) := by decide +kernel
theorem dX6_handOutLotsTo_89 : decode cX6_handOutLotsTo 89 = .ok (.aload_n 0, 1) := by decide +kernel
theorem dX6_handOutLotsTo_90 : decode cX6_handOutLotsTo 90 = .ok (.getfield 12, 3) := by decide +kernel
theorem dX6_handOutLotsTo_93 : decode cX6_handOutLotsTo 93 = .ok (.iload 7, 2) := by decide +kernel
theorem dX6_handOutLotsTo_95 : decode cX6_handOutLotsTo 95 = .ok (.invokevirtual 185, 3) := by decide +kernel
theorem dX6_handOutLotsTo_98 : decode cX6_handOutLotsTo 98 = .ok (.checkcast 64, 3) := by decide +kernel
theorem dX6_handOutLotsTo_101 : decode cX6_handOutLotsTo 101 = .ok (.bipush 115, 2) := by decide +kernel
theorem dX6_handOutLotsTo_103 : decode cX6_handOutLotsTo 103 = .ok (.putfield 77, 3) := by decide +kernel
theorem dX6_handOutLotsTo_106 : decode cX6_handOutLotsTo 106 = .ok (.aload_n 0, 1) := by decide +kernel
theorem dX6_handOutLotsTo_107 : decode cX6_handOutLotsTo 107 = .ok (.getfield 12, 3) := by decide +kernel
theorem dX6_handOutLotsTo_110 : decode cX6_handOutLotsTo 110 = .ok (.iload 7, 2) := by decide +kernel
theorem dX6_handOutLotsTo_112 : decode cX6_handOutLotsTo 112 = .ok (.invokevirtual 185, 3) := by decide +kernel
theorem dX6_handOutLotsTo_115 : decode cX6_handOutLotsTo 115 = .ok (.checkcast 64, 3) := by decide +kernel
theorem dX6_handOutLotsTo_118 : decode cX6_handOutLotsTo 118 = .ok (.iload_n 3, 1) := by decide +kernel
theorem dX6_handOutLotsTo_119 : decode cX6_handOutLotsTo 119 = .ok (.putfield 182, 3) := by decide +kernel
theorem dX6_handOutLotsTo_122 : decode cX6_handOutLotsTo 122 = .ok (.iinc 5 1, 3) := by decide +kernel
theorem dX6_handOutLotsTo_125 : decode cX6_handOutLotsTo 125 = .ok (.iinc 6 1, 3) := by decide +kernel
theorem dX6_handOutLotsTo_128 : decode cX6_handOutLotsTo 128 = .ok (.goto (-86), 3) := by decide +kernel
theorem dX6_handOutLotsTo_131 : decode cX6_handOutLotsTo 131 = .ok (.iload 5, 2) := by decide +kernel
theorem dX6_handOutLotsTo_133 : decode cX6_handOutLotsTo 133 = .ok (.ireturn, 1) := by decide +kernel
theorem dX6_settleLosers_0 : decode cX6_settleLosers 0 = .ok (.iconst 0, 1) := by decide +kernel
theorem dX6_settleLosers_1 : decode cX6_settleLosers 1 = .ok (.istore_n 2, 1) := by decide +kernel
theorem dX6_settleLosers_2 : decode cX6_settleLosers 2 = .ok (.iload_n 2, 1) := by decide +kernel
theorem dX6_settleLosers_3 : decode cX6_settleLosers 3 = .ok (.aload_n 0, 1) := by decide +kernel
theorem dX6_settleLosers_4 : decode cX6_settleLosers 4 = .ok (.getfield 25, 3) := by decide +kernel
theorem dX6_settleLosers_7 : decode cX6_settleLosers 7 = .ok (.getfield 319, 3) := by decide +kernel
theorem dX6_settleLosers_10 : decode cX6_settleLosers 10 = .ok (.if_icmp .ge 85, 3) := by decide +kernel
theorem dX6_settleLosers_13 : decode cX6_settleLosers 13 = .ok (.aload_n 0, 1) := by decide +kernel
theorem dX6_settleLosers_14 : decode cX6_settleLosers 14 = .ok (.getfield 25, 3) := by decide +kernel
theorem dX6_settleLosers_17 : decode cX6_settleLosers 17 = .ok (.getfield 322, 3) := by decide +kernel
theorem dX6_settleLosers_20 : decode cX6_settleLosers 20 = .ok (.iload_n 2, 1) := by decide +kernel
theorem dX6_settleLosers_21 : decode cX6_settleLosers 21 = .ok (.iaload, 1) := by decide +kernel
theorem dX6_settleLosers_22 : decode cX6_settleLosers 22 = .ok (.istore_n 3, 1) := by decide +kernel
theorem dX6_settleLosers_23 : decode cX6_settleLosers 23 = .ok (.iload_n 1, 1) := by decide +kernel
theorem dX6_settleLosers_24 : decode cX6_settleLosers 24 = .ok (.iconst 1, 1) := by decide +kernel
theorem dX6_settleLosers_25 : decode cX6_settleLosers 25 = .ok (.iload_n 2, 1) := by decide +kernel
theorem dX6_settleLosers_26 : decode cX6_settleLosers 26 = .ok (.ishl, 1) := by decide +kernel
theorem dX6_settleLosers_27 : decode cX6_settleLosers 27 = .ok (.iand, 1) := by decide +kernel
theorem dX6_settleLosers_28 : decode cX6_settleLosers 28 = .ok (.ifCond .ne 61, 3) := by decide +kernel
theorem dX6_settleLosers_31 : decode cX6_settleLosers 31 = .ok (.aload_n 0, 1) := by decide +kernel
theorem dX6_settleLosers_32 : decode cX6_settleLosers 32 = .ok (.iload_n 3, 1) := by decide +kernel
theorem dX6_settleLosers_33 : decode cX6_settleLosers 33 = .ok (.invokevirtual 271, 3) := by decide +kernel
theorem dX6_settleLosers_36 : decode cX6_settleLosers 36 = .ok (.ifCond .eq 53, 3) := by decide +kernel
theorem dX6_settleLosers_39 : decode cX6_settleLosers 39 = .ok (.aload_n 0, 1) := by decide +kernel
theorem dX6_settleLosers_40 : decode cX6_settleLosers 40 = .ok (.getfield 16, 3) := by decide +kernel
theorem dX6_settleLosers_43 : decode cX6_settleLosers 43 = .ok (.iload_n 3, 1) := by decide +kernel
theorem dX6_settleLosers_44 : decode cX6_settleLosers 44 = .ok (.invokevirtual 185, 3) := by decide +kernel
theorem dX6_settleLosers_47 : decode cX6_settleLosers 47 = .ok (.checkcast 112, 3) := by decide +kernel
theorem dX6_settleLosers_50 : decode cX6_settleLosers 50 = .ok (.astore 4, 2) := by decide +kernel
theorem dX6_settleLosers_52 : decode cX6_settleLosers 52 = .ok (.aload 4, 2) := by decide +kernel
theorem dX6_settleLosers_54 : decode cX6_settleLosers 54 = .ok (.bipush 108, 2) := by decide +kernel
theorem dX6_settleLosers_56 : decode cX6_settleLosers 56 = .ok (.putfield 123, 3) := by decide +kernel
theorem dX6_settleLosers_59 : decode cX6_settleLosers 59 = .ok (.aload 4, 2) := by decide +kernel
theorem dX6_settleLosers_61 : decode cX6_settleLosers 61 = .ok (.aload_n 0, 1) := by decide +kernel
theorem dX6_settleLosers_62 : decode cX6_settleLosers 62 = .ok (.getfield 25, 3) := by decide +kernel
theorem dX6_settleLosers_65 : decode cX6_settleLosers 65 = .ok (.iload_n 1, 1) := by decide +kernel
theorem dX6_settleLosers_66 : decode cX6_settleLosers 66 = .ok (.aload 4, 2) := by decide +kernel
theorem dX6_settleLosers_68 : decode cX6_settleLosers 68 = .ok (.getfield 246, 3) := by decide +kernel
theorem dX6_settleLosers_71 : decode cX6_settleLosers 71 = .ok (.invokevirtual 329, 3) := by decide +kernel
theorem dX6_settleLosers_74 : decode cX6_settleLosers 74 = .ok (.putfield 203, 3) := by decide +kernel
theorem dX6_settleLosers_77 : decode cX6_settleLosers 77 = .ok (.aload 4, 2) := by decide +kernel
theorem dX6_settleLosers_79 : decode cX6_settleLosers 79 = .ok (.aload_n 0, 1) := by decide +kernel
theorem dX6_settleLosers_80 : decode cX6_settleLosers 80 = .ok (.aload 4, 2) := by decide +kernel
theorem dX6_settleLosers_82 : decode cX6_settleLosers 82 = .ok (.iload_n 2, 1) := by decide +kernel
theorem dX6_settleLosers_83 : decode cX6_settleLosers 83 = .ok (.invokevirtual 332, 3) := by decide +kernel
theorem dX6_settleLosers_86 : decode cX6_settleLosers 86 = .ok (.putfield 198, 3) := by decide +kernel
theorem dX6_settleLosers_89 : decode cX6_settleLosers 89 = .ok (.iinc 2 1, 3) := by decide +kernel
theorem dX6_settleLosers_92 : decode cX6_settleLosers 92 = .ok (.goto (-90), 3) := by decide +kernel
theorem dX6_settleLosers_95 : decode cX6_settleLosers 95 = .ok (.return_, 1) := by decide +kernel
theorem dX6_reasonToLose_0 : decode cX6_reasonToLose 0 = .ok (.aload_n 1, 1) := by decide +kernel
theorem dX6_reasonToLose_1 : decode cX6_reasonToLose 1 = .ok (.getfield 124, 3) := by decide +kernel
theorem dX6_reasonToLose_4 : decode cX6_reasonToLose 4 = .ok (.invokevirtual 92, 3) := by decide +kernel
theorem dX6_reasonToLose_7 : decode cX6_reasonToLose 7 = .ok (.ifCond .eq 6, 3) := by decide +kernel
theorem dX6_reasonToLose_10 : decode cX6_reasonToLose 10 = .ok (.bipush 110, 2) := by decide +kernel
theorem dX6_reasonToLose_12 : decode cX6_reasonToLose 12 = .ok (.ireturn, 1) := by decide +kernel
theorem dX6_reasonToLose_13 : decode cX6_reasonToLose 13 = .ok (.aload_n 0, 1) := by decide +kernel
theorem dX6_reasonToLose_14 : decode cX6_reasonToLose 14 = .ok (.getfield 25, 3) := by decide +kernel
theorem dX6_reasonToLose_17 : decode cX6_reasonToLose 17 = .ok (.iconst 1, 1) := by decide +kernel
theorem dX6_reasonToLose_18 : decode cX6_reasonToLose 18 = .ok (.iload_n 2, 1) := by decide +kernel
theorem dX6_reasonToLose_19 : decode cX6_reasonToLose 19 = .ok (.ishl, 1) := by decide +kernel
theorem dX6_reasonToLose_20 : decode cX6_reasonToLose 20 = .ok (.invokevirtual 217, 3) := by decide +kernel
theorem dX6_reasonToLose_23 : decode cX6_reasonToLose 23 = .ok (.istore_n 3, 1) := by decide +kernel
theorem dX6_reasonToLose_24 : decode cX6_reasonToLose 24 = .ok (.iload_n 3, 1) := by decide +kernel
theorem dX6_reasonToLose_25 : decode cX6_reasonToLose 25 = .ok (.iconst (-1), 1) := by decide +kernel
theorem dX6_reasonToLose_26 : decode cX6_reasonToLose 26 = .ok (.if_icmp .ne 6, 3) := by decide +kernel
theorem dX6_reasonToLose_29 : decode cX6_reasonToLose 29 = .ok (.bipush 108, 2) := by decide +kernel
theorem dX6_reasonToLose_31 : decode cX6_reasonToLose 31 = .ok (.ireturn, 1) := by decide +kernel
theorem dX6_reasonToLose_32 : decode cX6_reasonToLose 32 = .ok (.aload_n 1, 1) := by decide +kernel
theorem dX6_reasonToLose_33 : decode cX6_reasonToLose 33 = .ok (.getfield 137, 3) := by decide +kernel
theorem dX6_reasonToLose_36 : decode cX6_reasonToLose 36 = .ok (.iload_n 3, 1) := by decide +kernel
theorem dX6_reasonToLose_37 : decode cX6_reasonToLose 37 = .ok (.if_icmp .ge 6, 3) := by decide +kernel
theorem dX6_reasonToLose_40 : decode cX6_reasonToLose 40 = .ok (.bipush 112, 2) := by decide +kernel
theorem dX6_reasonToLose_42 : decode cX6_reasonToLose 42 = .ok (.ireturn, 1) := by decide +kernel
theorem dX6_reasonToLose_43 : decode cX6_reasonToLose 43 = .ok (.aload_n 1, 1) := by decide +kernel
theorem dX6_reasonToLose_44 : decode cX6_reasonToLose 44 = .ok (.getfield 203, 3) := by decide +kernel
theorem dX6_reasonToLose_47 : decode cX6_reasonToLose 47 = .ok (.iconst (-1), 1) := by decide +kernel
theorem dX6_reasonToLose_48 : decode cX6_reasonToLose 48 = .ok (.if_icmp .ne 8, 3) := by decide +kernel
theorem dX6_reasonToLose_51 : decode cX6_reasonToLose 51 = .ok (.bipush 109, 2) := by decide +kernel
theorem dX6_reasonToLose_53 : decode cX6_reasonToLose 53 = .ok (.goto 5, 3) := by decide +kernel
theorem dX6_reasonToLose_56 : decode cX6_reasonToLose 56 = .ok (.bipush 98, 2) := by decide +kernel
theorem dX6_reasonToLose_58 : decode cX6_reasonToLose 58 = .ok (.ireturn, 1) := by decide +kernel
theorem dX7_init_0 : decode cX7_init 0 = .ok (.aload_n 0, 1) := by decide +kernel
theorem dX7_init_1 : decode cX7_init 1 = .ok (.invokespecial 1, 3) := by decide +kernel
theorem dX7_init_4 : decode cX7_init 4 = .ok (.aload_n 0, 1) := by decide +kernel
theorem dX7_init_5 : decode cX7_init 5 = .ok (.bipush 40, 2) := by decide +kernel
theorem dX7_init_7 : decode cX7_init 7 = .ok (.newarray .int, 2) := by decide +kernel
theorem dX7_init_9 : decode cX7_init 9 = .ok (.putfield 7, 3) := by decide +kernel
theorem dX7_init_12 : decode cX7_init 12 = .ok (.aload_n 0, 1) := by decide +kernel
theorem dX7_init_13 : decode cX7_init 13 = .ok (.bipush 40, 2) := by decide +kernel
theorem dX7_init_15 : decode cX7_init 15 = .ok (.newarray .int, 2) := by decide +kernel
theorem dX7_init_17 : decode cX7_init 17 = .ok (.putfield 13, 3) := by decide +kernel
theorem dX7_init_20 : decode cX7_init 20 = .ok (.aload_n 0, 1) := by decide +kernel
theorem dX7_init_21 : decode cX7_init 21 = .ok (.bipush 40, 2) := by decide +kernel
theorem dX7_init_23 : decode cX7_init 23 = .ok (.newarray .int, 2) := by decide +kernel
theorem dX7_init_25 : decode cX7_init 25 = .ok (.putfield 16, 3) := by decide +kernel
theorem dX7_init_28 : decode cX7_init 28 = .ok (.aload_n 0, 1) := by decide +kernel
theorem dX7_init_29 : decode cX7_init 29 = .ok (.bipush 40, 2) := by decide +kernel
theorem dX7_init_31 : decode cX7_init 31 = .ok (.newarray .int, 2) := by decide +kernel
theorem dX7_init_33 : decode cX7_init 33 = .ok (.putfield 19, 3) := by decide +kernel
theorem dX7_init_36 : decode cX7_init 36 = .ok (.aload_n 0, 1) := by decide +kernel
theorem dX7_init_37 : decode cX7_init 37 = .ok (.bipush 40, 2) := by decide +kernel
theorem dX7_init_39 : decode cX7_init 39 = .ok (.newarray .char, 2) := by decide +kernel
theorem dX7_init_41 : decode cX7_init 41 = .ok (.putfield 22, 3) := by decide +kernel
theorem dX7_init_44 : decode cX7_init 44 = .ok (.aload_n 0, 1) := by decide +kernel
theorem dX7_init_45 : decode cX7_init 45 = .ok (.bipush 40, 2) := by decide +kernel
theorem dX7_init_47 : decode cX7_init 47 = .ok (.newarray .char, 2) := by decide +kernel
theorem dX7_init_49 : decode cX7_init 49 = .ok (.putfield 26, 3) := by decide +kernel
theorem dX7_init_52 : decode cX7_init 52 = .ok (.aload_n 0, 1) := by decide +kernel
theorem dX7_init_53 : decode cX7_init 53 = .ok (.bipush 40, 2) := by decide +kernel
theorem dX7_init_55 : decode cX7_init 55 = .ok (.newarray .char, 2) := by decide +kernel
theorem dX7_init_57 : decode cX7_init 57 = .ok (.putfield 29, 3) := by decide +kernel
theorem dX7_init_60 : decode cX7_init 60 = .ok (.aload_n 0, 1) := by decide +kernel
theorem dX7_init_61 : decode cX7_init 61 = .ok (.bipush 40, 2) := by decide +kernel
theorem dX7_init_63 : decode cX7_init 63 = .ok (.newarray .int, 2) := by decide +kernel
theorem dX7_init_65 : decode cX7_init 65 = .ok (.putfield 32, 3) := by decide +kernel
theorem dX7_init_68 : decode cX7_init 68 = .ok (.aload_n 0, 1) := by decide +kernel
theorem dX7_init_69 : decode cX7_init 69 = .ok (.bipush 40, 2) := by decide +kernel
theorem dX7_init_71 : decode cX7_init 71 = .ok (.newarray .int, 2) := by decide +kernel
theorem dX7_init_73 : decode cX7_init 73 = .ok (.putfield 35, 3) := by decide +kernel
theorem dX7_init_76 : decode cX7_init 76 = .ok (.aload_n 0, 1) := by decide +kernel
theorem dX7_init_77 : decode cX7_init 77 = .ok (.bipush 40, 2) := by decide +kernel
theorem dX7_init_79 : decode cX7_init 79 = .ok (.newarray .int, 2) := by decide +kernel
theorem dX7_init_81 : decode cX7_init 81 = .ok (.putfield 38, 3) := by decide +kernel
theorem dX7_init_84 : decode cX7_init 84 = .ok (.aload_n 0, 1) := by decide +kernel
theorem dX7_init_85 : decode cX7_init 85 = .ok (.bipush 120, 2) := by decide +kernel
theorem dX7_init_87 : decode cX7_init 87 = .ok (.newarray .int, 2) := by decide +kernel
theorem dX7_init_89 : decode cX7_init 89 = .ok (.putfield 41, 3) := by decide +kernel
theorem dX7_init_92 : decode cX7_init 92 = .ok (.aload_n 0, 1) := by decide +kernel
theorem dX7_init_93 : decode cX7_init 93 = .ok (.bipush 120, 2) := by decide +kernel
theorem dX7_init_95 : decode cX7_init 95 = .ok (.newarray .int, 2) := by decide +kernel
theorem dX7_init_97 : decode cX7_init 97 = .ok (.putfield 44, 3) := by decide +kernel
theorem dX7_init_100 : decode cX7_init 100 = .ok (.aload_n 0, 1) := by decide +kernel
theorem dX7_init_101 : decode cX7_init 101 = .ok (.bipush 120, 2) := by decide +kernel
theorem dX7_init_103 : decode cX7_init 103 = .ok (.newarray .int, 2) := by decide +kernel
theorem dX7_init_105 : decode cX7_init 105 = .ok (.putfield 47, 3) := by decide +kernel
theorem dX7_init_108 : decode cX7_init 108 = .ok (.aload_n 0, 1) := by decide +kernel
theorem dX7_init_109 : decode cX7_init 109 = .ok (.bipush 40, 2) := by decide +kernel
theorem dX7_init_111 : decode cX7_init 111 = .ok (.newarray .int, 2) := by decide +kernel
theorem dX7_init_113 : decode cX7_init 113 = .ok (.putfield 50, 3) := by decide +kernel
theorem dX7_init_116 : decode cX7_init 116 = .ok (.aload_n 0, 1) := by decide +kernel
theorem dX7_init_117 : decode cX7_init 117 = .ok (.bipush 40, 2) := by decide +kernel
theorem dX7_init_119 : decode cX7_init 119 = .ok (.newarray .int, 2) := by decide +kernel
theorem dX7_init_121 : decode cX7_init 121 = .ok (.putfield 53, 3) := by decide +kernel
theorem dX7_init_124 : decode cX7_init 124 = .ok (.aload_n 0, 1) := by decide +kernel
theorem dX7_init_125 : decode cX7_init 125 = .ok (.bipush 6, 2) := by decide +kernel
theorem dX7_init_127 : decode cX7_init 127 = .ok (.newarray .int, 2) := by decide +kernel
theorem dX7_init_129 : decode cX7_init 129 = .ok (.putfield 56, 3) := by decide +kernel
theorem dX7_init_132 : decode cX7_init 132 = .ok (.aload_n 0, 1) := by decide +kernel
theorem dX7_init_133 : decode cX7_init 133 = .ok (.bipush 6, 2) := by decide +kernel
theorem dX7_init_135 : decode cX7_init 135 = .ok (.newarray .int, 2) := by decide +kernel
theorem dX7_init_137 : decode cX7_init 137 = .ok (.putfield 59, 3) := by decide +kernel
theorem dX7_init_140 : decode cX7_init 140 = .ok (.aload_n 0, 1) := by decide +kernel
theorem dX7_init_141 : decode cX7_init 141 = .ok (.bipush 6, 2) := by decide +kernel
theorem dX7_init_143 : decode cX7_init 143 = .ok (.newarray .int, 2) := by decide +kernel
theorem dX7_init_145 : decode cX7_init 145 = .ok (.putfield 62, 3) := by decide +kernel
theorem dX7_init_148 : decode cX7_init 148 = .ok (.aload_n 0, 1) := by decide +kernel
theorem dX7_init_149 : decode cX7_init 149 = .ok (.bipush 8, 2) := by decide +kernel
theorem dX7_init_151 : decode cX7_init 151 = .ok (.newarray .int, 2) := by decide +kernel
theorem dX7_init_153 : decode cX7_init 153 = .ok (.putfield 65, 3) := by decide +kernel
theorem dX7_init_156 : decode cX7_init 156 = .ok (.aload_n 0, 1) := by decide +kernel
theorem dX7_init_157 : decode cX7_init 157 = .ok (.bipush 8, 2) := by decide +kernel
theorem dX7_init_159 : decode cX7_init 159 = .ok (.newarray .int, 2) := by decide +kernel
theorem dX7_init_161 : decode cX7_init 161 = .ok (.putfield 68, 3) := by decide +kernel
theorem dX7_init_164 : decode cX7_init 164 = .ok (.aload_n 0, 1) := by decide +kernel
theorem dX7_init_165 : decode cX7_init 165 = .ok (.sipush 256, 3) := by decide +kernel
theorem dX7_init_168 : decode cX7_init 168 = .ok (.newarray .int, 2) := by decide +kernel
theorem dX7_init_170 : decode cX7_init 170 = .ok (.putfield 71, 3) := by decide +kernel
theorem dX7_init_173 : decode cX7_init 173 = .ok (.aload_n 0, 1) := by decide +kernel
theorem dX7_init_174 : decode cX7_init 174 = .ok (.sipush 2304, 3) := by decide +kernel
theorem dX7_init_177 : decode cX7_init 177 = .ok (.newarray .int, 2) := by decide +kernel
theorem dX7_init_179 : decode cX7_init 179 = .ok (.putfield 74, 3) := by decide +kernel
theorem dX7_init_182 : decode cX7_init 182 = .ok (.aload_n 0, 1) := by decide +kernel
theorem dX7_init_183 : decode cX7_init 183 = .ok (.sipush 256, 3) := by decide +kernel
theorem dX7_init_186 : decode cX7_init 186 = .ok (.newarray .int, 2) := by decide +kernel
theorem dX7_init_188 : decode cX7_init 188 = .ok (.putfield 77, 3) := by decide +kernel
theorem dX7_init_191 : decode cX7_init 191 = .ok (.aload_n 0, 1) := by decide +kernel
theorem dX7_init_192 : decode cX7_init 192 = .ok (.sipush 2304, 3) := by decide +kernel
theorem dX7_init_195 : decode cX7_init 195 = .ok (.newarray .int, 2) := by decide +kernel
theorem dX7_init_197 : decode cX7_init 197 = .ok (.putfield 80, 3) := by decide +kernel
theorem dX7_init_200 : decode cX7_init 200 = .ok (.aload_n 0, 1) := by decide +kernel
theorem dX7_init_201 : decode cX7_init 201 = .ok (.bipush 8, 2) := by decide +kernel
theorem dX7_init_203 : decode cX7_init 203 = .ok (.newarray .int, 2) := by decide +kernel
theorem dX7_init_205 : decode cX7_init 205 = .ok (.putfield 83, 3) := by decide +kernel
theorem dX7_init_208 : decode cX7_init 208 = .ok (.aload_n 0, 1) := by decide +kernel
theorem dX7_init_209 : decode cX7_init 209 = .ok (.bipush 8, 2) := by decide +kernel
theorem dX7_init_211 : decode cX7_init 211 = .ok (.newarray .int, 2) := by decide +kernel
theorem dX7_init_213 : decode cX7_init 213 = .ok (.putfield 86, 3) := by decide +kernel
theorem dX7_init_216 : decode cX7_init 216 = .ok (.return_, 1) := by decide +kernel
theorem dX7_thrown_0 : decode cX7_thrown 0 = .ok (.aload_n 0, 1) := by decide +kernel
theorem dX7_thrown_1 : decode cX7_thrown 1 = .ok (.getfield 89, 3) := by decide +kernel
theorem dX7_thrown_4 : decode cX7_thrown 4 = .ok (.ireturn, 1) := by decide +kernel
theorem dX7_fail_0 : decode cX7_fail 0 = .ok (.aload_n 0, 1) := by decide +kernel
theorem dX7_fail_1 : decode cX7_fail 1 = .ok (.iload_n 1, 1) := by decide +kernel
theorem dX7_fail_2 : decode cX7_fail 2 = .ok (.putfield 89, 3) := by decide +kernel
theorem dX7_fail_5 : decode cX7_fail 5 = .ok (.iconst 0, 1) := by decide +kernel
theorem dX7_fail_6 : decode cX7_fail 6 = .ok (.ireturn, 1) := by decide +kernel
theorem dX7_isIn_0 : decode cX7_isIn 0 = .ok (.iload_n 0, 1) := by decide +kernel
theorem dX7_isIn_1 : decode cX7_isIn 1 = .ok (.iload_n 1, 1) := by decide +kernel
theorem dX7_isIn_2 : decode cX7_isIn 2 = .ok (.if_icmp .lt 12, 3) := by decide +kernel
theorem dX7_isIn_5 : decode cX7_isIn 5 = .ok (.iload_n 0, 1) := by decide +kernel
theorem dX7_isIn_6 : decode cX7_isIn 6 = .ok (.iload_n 2, 1) := by decide +kernel
theorem dX7_isIn_7 : decode cX7_isIn 7 = .ok (.if_icmp .gt 7, 3) := by decide +kernel
theorem dX7_isIn_10 : decode cX7_isIn 10 = .ok (.iconst 1, 1) := by decide +kernel
theorem dX7_isIn_11 : decode cX7_isIn 11 = .ok (.goto 4, 3) := by decide +kernel
theorem dX7_isIn_14 : decode cX7_isIn 14 = .ok (.iconst 0, 1) := by decide +kernel
theorem dX7_isIn_15 : decode cX7_isIn 15 = .ok (.ireturn, 1) := by decide +kernel
theorem dX7_isGrade_0 : decode cX7_isGrade 0 = .ok (.iload_n 0, 1) := by decide +kernel
theorem dX7_isGrade_1 : decode cX7_isGrade 1 = .ok (.bipush 97, 2) := by decide +kernel
theorem dX7_isGrade_3 : decode cX7_isGrade 3 = .ok (.if_icmp .lt 13, 3) := by decide +kernel
theorem dX7_isGrade_6 : decode cX7_isGrade 6 = .ok (.iload_n 0, 1) := by decide +kernel
theorem dX7_isGrade_7 : decode cX7_isGrade 7 = .ok (.bipush 101, 2) := by decide +kernel
theorem dX7_isGrade_9 : decode cX7_isGrade 9 = .ok (.if_icmp .gt 7, 3) := by decide +kernel
theorem dX7_isGrade_12 : decode cX7_isGrade 12 = .ok (.iconst 1, 1) := by decide +kernel
theorem dX7_isGrade_13 : decode cX7_isGrade 13 = .ok (.goto 4, 3) := by decide +kernel
theorem dX7_isGrade_16 : decode cX7_isGrade 16 = .ok (.iconst 0, 1) := by decide +kernel
theorem dX7_isGrade_17 : decode cX7_isGrade 17 = .ok (.ireturn, 1) := by decide +kernel
theorem dX7_isLot_0 : decode cX7_isLot 0 = .ok (.iload_n 1, 1) := by decide +kernel
theorem dX7_isLot_1 : decode cX7_isLot 1 = .ok (.iconst 0, 1) := by decide +kernel
theorem dX7_isLot_2 : decode cX7_isLot 2 = .ok (.aload_n 0, 1) := by decide +kernel
theorem dX7_isLot_3 : decode cX7_isLot 3 = .ok (.getfield 93, 3) := by decide +kernel
theorem dX7_isLot_6 : decode cX7_isLot 6 = .ok (.iconst 1, 1) := by decide +kernel
theorem dX7_isLot_7 : decode cX7_isLot 7 = .ok (.isub, 1) := by decide +kernel
theorem dX7_isLot_8 : decode cX7_isLot 8 = .ok (.invokestatic 96, 3) := by decide +kernel
theorem dX7_isLot_11 : decode cX7_isLot 11 = .ok (.ireturn, 1) := by decide +kernel
theorem dX7_isBid_0 : decode cX7_isBid 0 = .ok (.iload_n 1, 1) := by decide +kernel
theorem dX7_isBid_1 : decode cX7_isBid 1 = .ok (.iconst 0, 1) := by decide +kernel
theorem dX7_isBid_2 : decode cX7_isBid 2 = .ok (.aload_n 0, 1) := by decide +kernel
theorem dX7_isBid_3 : decode cX7_isBid 3 = .ok (.getfield 100, 3) := by decide +kernel
theorem dX7_isBid_6 : decode cX7_isBid 6 = .ok (.iconst 1, 1) := by decide +kernel
theorem dX7_isBid_7 : decode cX7_isBid 7 = .ok (.isub, 1) := by decide +kernel
theorem dX7_isBid_8 : decode cX7_isBid 8 = .ok (.invokestatic 96, 3) := by decide +kernel
theorem dX7_isBid_11 : decode cX7_isBid 11 = .ok (.ireturn, 1) := by decide +kernel
theorem dX7_offer_0 : decode cX7_offer 0 = .ok (.iload_n 1, 1) := by decide +kernel
theorem dX7_offer_1 : decode cX7_offer 1 = .ok (.iconst 0, 1) := by decide +kernel
theorem dX7_offer_2 : decode cX7_offer 2 = .ok (.iconst 3, 1) := by decide +kernel
theorem dX7_offer_3 : decode cX7_offer 3 = .ok (.invokestatic 96, 3) := by decide +kernel
theorem dX7_offer_6 : decode cX7_offer 6 = .ok (.ifCond .eq 21, 3) := by decide +kernel
theorem dX7_offer_9 : decode cX7_offer 9 = .ok (.iload_n 2, 1) := by decide +kernel
theorem dX7_offer_10 : decode cX7_offer 10 = .ok (.invokestatic 103, 3) := by decide +kernel
theorem dX7_offer_13 : decode cX7_offer 13 = .ok (.ifCond .eq 14, 3) := by decide +kernel
theorem dX7_offer_16 : decode cX7_offer 16 = .ok (.iload_n 3, 1) := by decide +kernel
theorem dX7_offer_17 : decode cX7_offer 17 = .ok (.iconst 0, 1) := by decide +kernel
theorem dX7_offer_18 : decode cX7_offer 18 = .ok (.sipush 999, 3) := by decide +kernel
theorem dX7_offer_21 : decode cX7_offer 21 = .ok (.invokestatic 96, 3) := by decide +kernel
theorem dX7_offer_24 : decode cX7_offer 24 = .ok (.ifCond .ne 9, 3) := by decide +kernel
theorem dX7_offer_27 : decode cX7_offer 27 = .ok (.aload_n 0, 1) := by decide +kernel
theorem dX7_offer_28 : decode cX7_offer 28 = .ok (.iconst 1, 1) := by decide +kernel
theorem dX7_offer_29 : decode cX7_offer 29 = .ok (.invokevirtual 107, 3) := by decide +kernel
theorem dX7_offer_32 : decode cX7_offer 32 = .ok (.ireturn, 1) := by decide +kernel
theorem dX7_offer_33 : decode cX7_offer 33 = .ok (.aload_n 0, 1) := by decide +kernel
theorem dX7_offer_34 : decode cX7_offer 34 = .ok (.getfield 111, 3) := by decide +kernel
theorem dX7_offer_37 : decode cX7_offer 37 = .ok (.bipush 8, 2) := by decide +kernel
theorem dX7_offer_39 : decode cX7_offer 39 = .ok (.if_icmp .eq 12, 3) := by decide +kernel
theorem dX7_offer_42 : decode cX7_offer 42 = .ok (.aload_n 0, 1) := by decide +kernel
theorem dX7_offer_43 : decode cX7_offer 43 = .ok (.getfield 93, 3) := by decide +kernel
theorem dX7_offer_46 : decode cX7_offer 46 = .ok (.bipush 40, 2) := by decide +kernel
theorem dX7_offer_48 : decode cX7_offer 48 = .ok (.if_icmp .ne 9, 3) := by decide +kernel
theorem dX7_offer_51 : decode cX7_offer 51 = .ok (.aload_n 0, 1) := by decide +kernel
theorem dX7_offer_52 : decode cX7_offer 52 = .ok (.iconst 2, 1) := by decide +kernel
theorem dX7_offer_53 : decode cX7_offer 53 = .ok (.invokevirtual 107, 3) := by decide +kernel
theorem dX7_offer_56 : decode cX7_offer 56 = .ok (.ireturn, 1) := by decide +kernel
theorem dX7_offer_57 : decode cX7_offer 57 = .ok (.aload_n 0, 1) := by decide +kernel
theorem dX7_offer_58 : decode cX7_offer 58 = .ok (.iconst 0, 1) := by decide +kernel
theorem dX7_offer_59 : decode cX7_offer 59 = .ok (.putfield 89, 3) := by decide +kernel
theorem dX7_offer_62 : decode cX7_offer 62 = .ok (.aload_n 0, 1) := by decide +kernel
theorem dX7_offer_63 : decode cX7_offer 63 = .ok (.getfield 7, 3) := by decide +kernel
theorem dX7_offer_66 : decode cX7_offer 66 = .ok (.aload_n 0, 1) := by decide +kernel
theorem dX7_offer_67 : decode cX7_offer 67 = .ok (.getfield 93, 3) := by decide +kernel
theorem dX7_offer_70 : decode cX7_offer 70 = .ok (.iload_n 1, 1) := by decide +kernel
theorem dX7_offer_71 : decode cX7_offer 71 = .ok (.iastore, 1) := by decide +kernel
theorem dX7_offer_72 : decode cX7_offer 72 = .ok (.aload_n 0, 1) := by decide +kernel
theorem dX7_offer_73 : decode cX7_offer 73 = .ok (.getfield 13, 3) := by decide +kernel
theorem dX7_offer_76 : decode cX7_offer 76 = .ok (.aload_n 0, 1) := by decide +kernel
theorem dX7_offer_77 : decode cX7_offer 77 = .ok (.getfield 93, 3) := by decide +kernel
theorem dX7_offer_80 : decode cX7_offer 80 = .ok (.iload_n 2, 1) := by decide +kernel
theorem dX7_offer_81 : decode cX7_offer 81 = .ok (.iastore, 1) := by decide +kernel
theorem dX7_offer_82 : decode cX7_offer 82 = .ok (.aload_n 0, 1) := by decide +kernel
theorem dX7_offer_83 : decode cX7_offer 83 = .ok (.getfield 16, 3) := by decide +kernel
theorem dX7_offer_86 : decode cX7_offer 86 = .ok (.aload_n 0, 1) := by decide +kernel
theorem dX7_offer_87 : decode cX7_offer 87 = .ok (.getfield 93, 3) := by decide +kernel
theorem dX7_offer_90 : decode cX7_offer 90 = .ok (.iload_n 3, 1) := by decide +kernel
theorem dX7_offer_91 : decode cX7_offer 91 = .ok (.iastore, 1) := by decide +kernel
theorem dX7_offer_92 : decode cX7_offer 92 = .ok (.aload_n 0, 1) := by decide +kernel
theorem dX7_offer_93 : decode cX7_offer 93 = .ok (.getfield 22, 3) := by decide +kernel
theorem dX7_offer_96 : decode cX7_offer 96 = .ok (.aload_n 0, 1) := by decide +kernel
theorem dX7_offer_97 : decode cX7_offer 97 = .ok (.getfield 93, 3) := by decide +kernel
theorem dX7_offer_100 : decode cX7_offer 100 = .ok (.bipush 111, 2) := by decide +kernel
theorem dX7_offer_102 : decode cX7_offer 102 = .ok (.castore, 1) := by decide +kernel
theorem dX7_offer_103 : decode cX7_offer 103 = .ok (.aload_n 0, 1) := by decide +kernel
theorem dX7_offer_104 : decode cX7_offer 104 = .ok (.dup, 1) := by decide +kernel
theorem dX7_offer_105 : decode cX7_offer 105 = .ok (.getfield 111, 3) := by decide +kernel
theorem dX7_offer_108 : decode cX7_offer 108 = .ok (.iconst 1, 1) := by decide +kernel
theorem dX7_offer_109 : decode cX7_offer 109 = .ok (.iadd, 1) := by decide +kernel
theorem dX7_offer_110 : decode cX7_offer 110 = .ok (.putfield 111, 3) := by decide +kernel
theorem dX7_offer_113 : decode cX7_offer 113 = .ok (.aload_n 0, 1) := by decide +kernel
theorem dX7_offer_114 : decode cX7_offer 114 = .ok (.dup, 1) := by decide +kernel
theorem dX7_offer_115 : decode cX7_offer 115 = .ok (.getfield 93, 3) := by decide +kernel
theorem dX7_offer_118 : decode cX7_offer 118 = .ok (.dup_x1, 1) := by decide +kernel
theorem dX7_offer_119 : decode cX7_offer 119 = .ok (.iconst 1, 1) := by decide +kernel
theorem dX7_offer_120 : decode cX7_offer 120 = .ok (.iadd, 1) := by decide +kernel
theorem dX7_offer_121 : decode cX7_offer 121 = .ok (.putfield 93, 3) := by decide +kernel
theorem dX7_offer_124 : decode cX7_offer 124 = .ok (.ireturn, 1) := by decide +kernel
theorem dX7_withdraw_0 : decode cX7_withdraw 0 = .ok (.aload_n 0, 1) := by decide +kernel
theorem dX7_withdraw_1 : decode cX7_withdraw 1 = .ok (.iload_n 1, 1) := by decide +kernel
theorem dX7_withdraw_2 : decode cX7_withdraw 2 = .ok (.invokevirtual 114, 3) := by decide +kernel
theorem dX7_withdraw_5 : decode cX7_withdraw 5 = .ok (.ifCond .ne 9, 3) := by decide +kernel
theorem dX7_withdraw_8 : decode cX7_withdraw 8 = .ok (.aload_n 0, 1) := by decide +kernel
theorem dX7_withdraw_9 : decode cX7_withdraw 9 = .ok (.iconst 1, 1) := by decide +kernel
theorem dX7_withdraw_10 : decode cX7_withdraw 10 = .ok (.invokevirtual 107, 3) := by decide +kernel
theorem dX7_withdraw_13 : decode cX7_withdraw 13 = .ok (.ireturn, 1) := by decide +kernel
theorem dX7_withdraw_14 : decode cX7_withdraw 14 = .ok (.aload_n 0, 1) := by decide +kernel
theorem dX7_withdraw_15 : decode cX7_withdraw 15 = .ok (.getfield 22, 3) := by decide +kernel
theorem dX7_withdraw_18 : decode cX7_withdraw 18 = .ok (.iload_n 1, 1) := by decide +kernel
theorem dX7_withdraw_19 : decode cX7_withdraw 19 = .ok (.caload, 1) := by decide +kernel
theorem dX7_withdraw_20 : decode cX7_withdraw 20 = .ok (.bipush 111, 2) := by decide +kernel
theorem dX7_withdraw_22 : decode cX7_withdraw 22 = .ok (.if_icmp .eq 9, 3) := by decide +kernel
theorem dX7_withdraw_25 : decode cX7_withdraw 25 = .ok (.aload_n 0, 1) := by decide +kernel
theorem dX7_withdraw_26 : decode cX7_withdraw 26 = .ok (.iconst 2, 1) := by decide +kernel
theorem dX7_withdraw_27 : decode cX7_withdraw 27 = .ok (.invokevirtual 107, 3) := by decide +kernel
theorem dX7_withdraw_30 : decode cX7_withdraw 30 = .ok (.ireturn, 1) := by decide +kernel
theorem dX7_withdraw_31 : decode cX7_withdraw 31 = .ok (.aload_n 0, 1) := by decide +kernel
theorem dX7_withdraw_32 : decode cX7_withdraw 32 = .ok (.iconst 0, 1) := by decide +kernel
theorem dX7_withdraw_33 : decode cX7_withdraw 33 = .ok (.putfield 89, 3) := by decide +kernel
theorem dX7_withdraw_36 : decode cX7_withdraw 36 = .ok (.aload_n 0, 1) := by decide +kernel
theorem dX7_withdraw_37 : decode cX7_withdraw 37 = .ok (.getfield 22, 3) := by decide +kernel
theorem dX7_withdraw_40 : decode cX7_withdraw 40 = .ok (.iload_n 1, 1) := by decide +kernel
theorem dX7_withdraw_41 : decode cX7_withdraw 41 = .ok (.bipush 119, 2) := by decide +kernel
theorem dX7_withdraw_43 : decode cX7_withdraw 43 = .ok (.castore, 1) := by decide +kernel
theorem dX7_withdraw_44 : decode cX7_withdraw 44 = .ok (.aload_n 0, 1) := by decide +kernel
theorem dX7_withdraw_45 : decode cX7_withdraw 45 = .ok (.dup, 1) := by decide +kernel
theorem dX7_withdraw_46 : decode cX7_withdraw 46 = .ok (.getfield 111, 3) := by decide +kernel
theorem dX7_withdraw_49 : decode cX7_withdraw 49 = .ok (.iconst 1, 1) := by decide +kernel
theorem dX7_withdraw_50 : decode cX7_withdraw 50 = .ok (.isub, 1) := by decide +kernel
theorem dX7_withdraw_51 : decode cX7_withdraw 51 = .ok (.dup_x1, 1) := by decide +kernel
theorem dX7_withdraw_52 : decode cX7_withdraw 52 = .ok (.putfield 111, 3) := by decide +kernel
theorem dX7_withdraw_55 : decode cX7_withdraw 55 = .ok (.ireturn, 1) := by decide +kernel
theorem dX7_allow_0 : decode cX7_allow 0 = .ok (.iload_n 1, 1) := by decide +kernel
theorem dX7_allow_1 : decode cX7_allow 1 = .ok (.iconst 0, 1) := by decide +kernel
theorem dX7_allow_2 : decode cX7_allow 2 = .ok (.iconst 3, 1) := by decide +kernel
theorem dX7_allow_3 : decode cX7_allow 3 = .ok (.invokestatic 96, 3) := by decide +kernel
theorem dX7_allow_6 : decode cX7_allow 6 = .ok (.ifCond .eq 21, 3) := by decide +kernel
theorem dX7_allow_9 : decode cX7_allow 9 = .ok (.iload_n 2, 1) := by decide +kernel
theorem dX7_allow_10 : decode cX7_allow 10 = .ok (.iconst 0, 1) := by decide +kernel
theorem dX7_allow_11 : decode cX7_allow 11 = .ok (.iconst 3, 1) := by decide +kernel
theorem dX7_allow_12 : decode cX7_allow 12 = .ok (.invokestatic 96, 3) := by decide +kernel
theorem dX7_allow_15 : decode cX7_allow 15 = .ok (.ifCond .eq 12, 3) := by decide +kernel
theorem dX7_allow_18 : decode cX7_allow 18 = .ok (.iload_n 3, 1) := by decide +kernel
theorem dX7_allow_19 : decode cX7_allow 19 = .ok (.iconst 0, 1) := by decide +kernel
theorem dX7_allow_20 : decode cX7_allow 20 = .ok (.iconst 4, 1) := by decide +kernel
theorem dX7_allow_21 : decode cX7_allow 21 = .ok (.invokestatic 96, 3) := by decide +kernel
theorem dX7_allow_24 : decode cX7_allow 24 = .ok (.ifCond .ne 9, 3) := by decide +kernel
theorem dX7_allow_27 : decode cX7_allow 27 = .ok (.aload_n 0, 1) := by decide +kernel
theorem dX7_allow_28 : decode cX7_allow 28 = .ok (.iconst 1, 1) := by decide +kernel
theorem dX7_allow_29 : decode cX7_allow 29 = .ok (.invokevirtual 107, 3) := by decide +kernel
theorem dX7_allow_32 : decode cX7_allow 32 = .ok (.ireturn, 1) := by decide +kernel
theorem dX7_allow_33 : decode cX7_allow 33 = .ok (.aload_n 0, 1) := by decide +kernel
theorem dX7_allow_34 : decode cX7_allow 34 = .ok (.getfield 118, 3) := by decide +kernel
theorem dX7_allow_37 : decode cX7_allow 37 = .ok (.bipush 6, 2) := by decide +kernel
theorem dX7_allow_39 : decode cX7_allow 39 = .ok (.if_icmp .ne 9, 3) := by decide +kernel
theorem dX7_allow_42 : decode cX7_allow 42 = .ok (.aload_n 0, 1) := by decide +kernel
theorem dX7_allow_43 : decode cX7_allow 43 = .ok (.iconst 2, 1) := by decide +kernel
theorem dX7_allow_44 : decode cX7_allow 44 = .ok (.invokevirtual 107, 3) := by decide +kernel
theorem dX7_allow_47 : decode cX7_allow 47 = .ok (.ireturn, 1) := by decide +kernel
theorem dX7_allow_48 : decode cX7_allow 48 = .ok (.aload_n 0, 1) := by decide +kernel
theorem dX7_allow_49 : decode cX7_allow 49 = .ok (.iconst 0, 1) := by decide +kernel
theorem dX7_allow_50 : decode cX7_allow 50 = .ok (.putfield 89, 3) := by decide +kernel
theorem dX7_allow_53 : decode cX7_allow 53 = .ok (.aload_n 0, 1) := by decide +kernel
theorem dX7_allow_54 : decode cX7_allow 54 = .ok (.getfield 56, 3) := by decide +kernel
theorem dX7_allow_57 : decode cX7_allow 57 = .ok (.aload_n 0, 1) := by decide +kernel
theorem dX7_allow_58 : decode cX7_allow 58 = .ok (.getfield 118, 3) := by decide +kernel
theorem dX7_allow_61 : decode cX7_allow 61 = .ok (.iload_n 1, 1) := by decide +kernel
theorem dX7_allow_62 : decode cX7_allow 62 = .ok (.iastore, 1) := by decide +kernel
theorem dX7_allow_63 : decode cX7_allow 63 = .ok (.aload_n 0, 1) := by decide +kernel
theorem dX7_allow_64 : decode cX7_allow 64 = .ok (.getfield 59, 3) := by decide +kernel
theorem dX7_allow_67 : decode cX7_allow 67 = .ok (.aload_n 0, 1) := by decide +kernel
theorem dX7_allow_68 : decode cX7_allow 68 = .ok (.getfield 118, 3) := by decide +kernel
theorem dX7_allow_71 : decode cX7_allow 71 = .ok (.iload_n 2, 1) := by decide +kernel
theorem dX7_allow_72 : decode cX7_allow 72 = .ok (.iastore, 1) := by decide +kernel
theorem dX7_allow_73 : decode cX7_allow 73 = .ok (.aload_n 0, 1) := by decide +kernel
theorem dX7_allow_74 : decode cX7_allow 74 = .ok (.getfield 62, 3) := by decide +kernel
theorem dX7_allow_77 : decode cX7_allow 77 = .ok (.aload_n 0, 1) := by decide +kernel
theorem dX7_allow_78 : decode cX7_allow 78 = .ok (.getfield 118, 3) := by decide +kernel
theorem dX7_allow_81 : decode cX7_allow 81 = .ok (.iload_n 3, 1) := by decide +kernel
theorem dX7_allow_82 : decode cX7_allow 82 = .ok (.iastore, 1) := by decide +kernel
theorem dX7_allow_83 : decode cX7_allow 83 = .ok (.aload_n 0, 1) := by decide +kernel
theorem dX7_allow_84 : decode cX7_allow 84 = .ok (.dup, 1) := by decide +kernel
theorem dX7_allow_85 : decode cX7_allow 85 = .ok (.getfield 118, 3) := by decide +kernel
theorem dX7_allow_88 : decode cX7_allow 88 = .ok (.iconst 1, 1) := by decide +kernel
theorem dX7_allow_89 : decode cX7_allow 89 = .ok (.iadd, 1) := by decide +kernel
theorem dX7_allow_90 : decode cX7_allow 90 = .ok (.dup_x1, 1) := by decide +kernel
theorem dX7_allow_91 : decode cX7_allow 91 = .ok (.putfield 118, 3) := by decide +kernel
theorem dX7_allow_94 : decode cX7_allow 94 = .ok (.ireturn, 1) := by decide +kernel
theorem dX7_forbid_0 : decode cX7_forbid 0 = .ok (.aload_n 0, 1) := by decide +kernel
theorem dX7_forbid_1 : decode cX7_forbid 1 = .ok (.getfield 118, 3) := by decide +kernel
theorem dX7_forbid_4 : decode cX7_forbid 4 = .ok (.ifCond .ne 9, 3) := by decide +kernel
theorem dX7_forbid_7 : decode cX7_forbid 7 = .ok (.aload_n 0, 1) := by decide +kernel
theorem dX7_forbid_8 : decode cX7_forbid 8 = .ok (.iconst 1, 1) := by decide +kernel
theorem dX7_forbid_9 : decode cX7_forbid 9 = .ok (.invokevirtual 107, 3) := by decide +kernel
theorem dX7_forbid_12 : decode cX7_forbid 12 = .ok (.ireturn, 1) := by decide +kernel
theorem dX7_forbid_13 : decode cX7_forbid 13 = .ok (.aload_n 0, 1) := by decide +kernel
theorem dX7_forbid_14 : decode cX7_forbid 14 = .ok (.iconst 0, 1) := by decide +kernel
theorem dX7_forbid_15 : decode cX7_forbid 15 = .ok (.putfield 89, 3) := by decide +kernel
theorem dX7_forbid_18 : decode cX7_forbid 18 = .ok (.aload_n 0, 1) := by decide +kernel
theorem dX7_forbid_19 : decode cX7_forbid 19 = .ok (.dup, 1) := by decide +kernel
theorem dX7_forbid_20 : decode cX7_forbid 20 = .ok (.getfield 118, 3) := by decide +kernel
theorem dX7_forbid_23 : decode cX7_forbid 23 = .ok (.iconst 1, 1) := by decide +kernel
theorem dX7_forbid_24 : decode cX7_forbid 24 = .ok (.isub, 1) := by decide +kernel
theorem dX7_forbid_25 : decode cX7_forbid 25 = .ok (.dup_x1, 1) := by decide +kernel
theorem dX7_forbid_26 : decode cX7_forbid 26 = .ok (.putfield 118, 3) := by decide +kernel
theorem dX7_forbid_29 : decode cX7_forbid 29 = .ok (.ireturn, 1) := by decide +kernel
theorem dX7_bid_0 : decode cX7_bid 0 = .ok (.iload_n 1, 1) := by decide +kernel
theorem dX7_bid_1 : decode cX7_bid 1 = .ok (.iconst 0, 1) := by decide +kernel
theorem dX7_bid_2 : decode cX7_bid 2 = .ok (.bipush 7, 2) := by decide +kernel
theorem dX7_bid_4 : decode cX7_bid 4 = .ok (.invokestatic 96, 3) := by decide +kernel
theorem dX7_bid_7 : decode cX7_bid 7 = .ok (.ifCond .eq 14, 3) := by decide +kernel
theorem dX7_bid_10 : decode cX7_bid 10 = .ok (.iload_n 2, 1) := by decide +kernel
theorem dX7_bid_11 : decode cX7_bid 11 = .ok (.iconst 0, 1) := by decide +kernel
theorem dX7_bid_12 : decode cX7_bid 12 = .ok (.sipush 9999, 3) := by decide +kernel
theorem dX7_bid_15 : decode cX7_bid 15 = .ok (.invokestatic 96, 3) := by decide +kernel
theorem dX7_bid_18 : decode cX7_bid 18 = .ok (.ifCond .ne 9, 3) := by decide +kernel
theorem dX7_bid_21 : decode cX7_bid 21 = .ok (.aload_n 0, 1) := by decide +kernel
theorem dX7_bid_22 : decode cX7_bid 22 = .ok (.iconst 1, 1) := by decide +kernel
theorem dX7_bid_23 : decode cX7_bid 23 = .ok (.invokevirtual 107, 3) := by decide +kernel
theorem dX7_bid_26 : decode cX7_bid 26 = .ok (.ireturn, 1) := by decide +kernel
theorem dX7_bid_27 : decode cX7_bid 27 = .ok (.aload_n 0, 1) := by decide +kernel
theorem dX7_bid_28 : decode cX7_bid 28 = .ok (.getfield 121, 3) := by decide +kernel
theorem dX7_bid_31 : decode cX7_bid 31 = .ok (.bipush 8, 2) := by decide +kernel
theorem dX7_bid_33 : decode cX7_bid 33 = .ok (.if_icmp .eq 12, 3) := by decide +kernel
theorem dX7_bid_36 : decode cX7_bid 36 = .ok (.aload_n 0, 1) := by decide +kernel
theorem dX7_bid_37 : decode cX7_bid 37 = .ok (.getfield 100, 3) := by decide +kernel
theorem dX7_bid_40 : decode cX7_bid 40 = .ok (.bipush 40, 2) := by decide +kernel
theorem dX7_bid_42 : decode cX7_bid 42 = .ok (.if_icmp .ne 9, 3) := by decide +kernel
theorem dX7_bid_45 : decode cX7_bid 45 = .ok (.aload_n 0, 1) := by decide +kernel
theorem dX7_bid_46 : decode cX7_bid 46 = .ok (.iconst 2, 1) := by decide +kernel
theorem dX7_bid_47 : decode cX7_bid 47 = .ok (.invokevirtual 107, 3) := by decide +kernel
theorem dX7_bid_50 : decode cX7_bid 50 = .ok (.ireturn, 1) := by decide +kernel
theorem dX7_bid_51 : decode cX7_bid 51 = .ok (.aload_n 0, 1) := by decide +kernel
theorem dX7_bid_52 : decode cX7_bid 52 = .ok (.iconst 0, 1) := by decide +kernel
theorem dX7_bid_53 : decode cX7_bid 53 = .ok (.putfield 89, 3) := by decide +kernel
theorem dX7_bid_56 : decode cX7_bid 56 = .ok (.aload_n 0, 1) := by decide +kernel
theorem dX7_bid_57 : decode cX7_bid 57 = .ok (.getfield 32, 3) := by decide +kernel
theorem dX7_bid_60 : decode cX7_bid 60 = .ok (.aload_n 0, 1) := by decide +kernel
theorem dX7_bid_61 : decode cX7_bid 61 = .ok (.getfield 100, 3) := by decide +kernel
theorem dX7_bid_64 : decode cX7_bid 64 = .ok (.iload_n 1, 1) := by decide +kernel
theorem dX7_bid_65 : decode cX7_bid 65 = .ok (.iastore, 1) := by decide +kernel
theorem dX7_bid_66 : decode cX7_bid 66 = .ok (.aload_n 0, 1) := by decide +kernel
theorem dX7_bid_67 : decode cX7_bid 67 = .ok (.getfield 35, 3) := by decide +kernel
theorem dX7_bid_70 : decode cX7_bid 70 = .ok (.aload_n 0, 1) := by decide +kernel
theorem dX7_bid_71 : decode cX7_bid 71 = .ok (.getfield 100, 3) := by decide +kernel
theorem dX7_bid_74 : decode cX7_bid 74 = .ok (.iload_n 2, 1) := by decide +kernel
theorem dX7_bid_75 : decode cX7_bid 75 = .ok (.iastore, 1) := by decide +kernel
theorem dX7_bid_76 : decode cX7_bid 76 = .ok (.aload_n 0, 1) := by decide +kernel
theorem dX7_bid_77 : decode cX7_bid 77 = .ok (.getfield 38, 3) := by decide +kernel
theorem dX7_bid_80 : decode cX7_bid 80 = .ok (.aload_n 0, 1) := by decide +kernel
theorem dX7_bid_81 : decode cX7_bid 81 = .ok (.getfield 100, 3) := by decide +kernel
theorem dX7_bid_84 : decode cX7_bid 84 = .ok (.iconst 0, 1) := by decide +kernel
theorem dX7_bid_85 : decode cX7_bid 85 = .ok (.iastore, 1) := by decide +kernel
theorem dX7_bid_86 : decode cX7_bid 86 = .ok (.aload_n 0, 1) := by decide +kernel
theorem dX7_bid_87 : decode cX7_bid 87 = .ok (.getfield 26, 3) := by decide +kernel
theorem dX7_bid_90 : decode cX7_bid 90 = .ok (.aload_n 0, 1) := by decide +kernel
theorem dX7_bid_91 : decode cX7_bid 91 = .ok (.getfield 100, 3) := by decide +kernel
theorem dX7_bid_94 : decode cX7_bid 94 = .ok (.bipush 111, 2) := by decide +kernel
theorem dX7_bid_96 : decode cX7_bid 96 = .ok (.castore, 1) := by decide +kernel
theorem dX7_bid_97 : decode cX7_bid 97 = .ok (.aload_n 0, 1) := by decide +kernel
theorem dX7_bid_98 : decode cX7_bid 98 = .ok (.dup, 1) := by decide +kernel
theorem dX7_bid_99 : decode cX7_bid 99 = .ok (.getfield 121, 3) := by decide +kernel
theorem dX7_bid_102 : decode cX7_bid 102 = .ok (.iconst 1, 1) := by decide +kernel
theorem dX7_bid_103 : decode cX7_bid 103 = .ok (.iadd, 1) := by decide +kernel
theorem dX7_bid_104 : decode cX7_bid 104 = .ok (.putfield 121, 3) := by decide +kernel
theorem dX7_bid_107 : decode cX7_bid 107 = .ok (.aload_n 0, 1) := by decide +kernel
theorem dX7_bid_108 : decode cX7_bid 108 = .ok (.dup, 1) := by decide +kernel
theorem dX7_bid_109 : decode cX7_bid 109 = .ok (.getfield 100, 3) := by decide +kernel
theorem dX7_bid_112 : decode cX7_bid 112 = .ok (.dup_x1, 1) := by decide +kernel
theorem dX7_bid_113 : decode cX7_bid 113 = .ok (.iconst 1, 1) := by decide +kernel
theorem dX7_bid_114 : decode cX7_bid 114 = .ok (.iadd, 1) := by decide +kernel
theorem dX7_bid_115 : decode cX7_bid 115 = .ok (.putfield 100, 3) := by decide +kernel
theorem dX7_bid_118 : decode cX7_bid 118 = .ok (.ireturn, 1) := by decide +kernel
theorem dX7_ask_0 : decode cX7_ask 0 = .ok (.aload_n 0, 1) := by decide +kernel
theorem dX7_ask_1 : decode cX7_ask 1 = .ok (.iload_n 1, 1) := by decide +kernel
theorem dX7_ask_2 : decode cX7_ask 2 = .ok (.invokevirtual 124, 3) := by decide +kernel
theorem dX7_ask_5 : decode cX7_ask 5 = .ok (.ifCond .ne 9, 3) := by decide +kernel
theorem dX7_ask_8 : decode cX7_ask 8 = .ok (.aload_n 0, 1) := by decide +kernel
theorem dX7_ask_9 : decode cX7_ask 9 = .ok (.iconst 1, 1) := by decide +kernel
theorem dX7_ask_10 : decode cX7_ask 10 = .ok (.invokevirtual 107, 3) := by decide +kernel
theorem dX7_ask_13 : decode cX7_ask 13 = .ok (.ireturn, 1) := by decide +kernel
theorem dX7_ask_14 : decode cX7_ask 14 = .ok (.iload_n 2, 1) := by decide +kernel
theorem dX7_ask_15 : decode cX7_ask 15 = .ok (.iconst 0, 1) := by decide +kernel
theorem dX7_ask_16 : decode cX7_ask 16 = .ok (.iconst 3, 1) := by decide +kernel
theorem dX7_ask_17 : decode cX7_ask 17 = .ok (.invokestatic 96, 3) := by decide +kernel
theorem dX7_ask_20 : decode cX7_ask 20 = .ok (.ifCond .eq 10, 3) := by decide +kernel
theorem dX7_ask_23 : decode cX7_ask 23 = .ok (.iload_n 3, 1) := by decide +kernel
theorem dX7_ask_24 : decode cX7_ask 24 = .ok (.invokestatic 103, 3) := by decide +kernel
theorem dX7_ask_27 : decode cX7_ask 27 = .ok (.ifCond .ne 9, 3) := by decide +kernel
theorem dX7_ask_30 : decode cX7_ask 30 = .ok (.aload_n 0, 1) := by decide +kernel
theorem dX7_ask_31 : decode cX7_ask 31 = .ok (.iconst 2, 1) := by decide +kernel
theorem dX7_ask_32 : decode cX7_ask 32 = .ok (.invokevirtual 107, 3) := by decide +kernel
theorem dX7_ask_35 : decode cX7_ask 35 = .ok (.ireturn, 1) := by decide +kernel
theorem dX7_ask_36 : decode cX7_ask 36 = .ok (.aload_n 0, 1) := by decide +kernel
theorem dX7_ask_37 : decode cX7_ask 37 = .ok (.getfield 26, 3) := by decide +kernel
theorem dX7_ask_40 : decode cX7_ask 40 = .ok (.iload_n 1, 1) := by decide +kernel
theorem dX7_ask_41 : decode cX7_ask 41 = .ok (.caload, 1) := by decide +kernel
theorem dX7_ask_42 : decode cX7_ask 42 = .ok (.bipush 111, 2) := by decide +kernel
theorem dX7_ask_44 : decode cX7_ask 44 = .ok (.if_icmp .ne 13, 3) := by decide +kernel
theorem dX7_ask_47 : decode cX7_ask 47 = .ok (.aload_n 0, 1) := by decide +kernel
theorem dX7_ask_48 : decode cX7_ask 48 = .ok (.getfield 38, 3) := by decide +kernel
theorem dX7_ask_51 : decode cX7_ask 51 = .ok (.iload_n 1, 1) := by decide +kernel
theorem dX7_ask_52 : decode cX7_ask 52 = .ok (.iaload, 1) := by decide +kernel
theorem dX7_ask_53 : decode cX7_ask 53 = .ok (.iconst 3, 1) := by decide +kernel
theorem dX7_ask_54 : decode cX7_ask 54 = .ok (.if_icmp .ne 9, 3) := by decide +kernel
theorem dX7_ask_57 : decode cX7_ask 57 = .ok (.aload_n 0, 1) := by decide +kernel
theorem dX7_ask_58 : decode cX7_ask 58 = .ok (.iconst 3, 1) := by decide +kernel
theorem dX7_ask_59 : decode cX7_ask 59 = .ok (.invokevirtual 107, 3) := by decide +kernel
theorem dX7_ask_62 : decode cX7_ask 62 = .ok (.ireturn, 1) := by decide +kernel
theorem dX7_ask_63 : decode cX7_ask 63 = .ok (.aload_n 0, 1) := by decide +kernel
theorem dX7_ask_64 : decode cX7_ask 64 = .ok (.iconst 0, 1) := by decide +kernel
theorem dX7_ask_65 : decode cX7_ask 65 = .ok (.putfield 89, 3) := by decide +kernel
theorem dX7_ask_68 : decode cX7_ask 68 = .ok (.aload_n 0, 1) := by decide +kernel
theorem dX7_ask_69 : decode cX7_ask 69 = .ok (.getfield 41, 3) := by decide +kernel
theorem dX7_ask_72 : decode cX7_ask 72 = .ok (.iconst 3, 1) := by decide +kernel
theorem dX7_ask_73 : decode cX7_ask 73 = .ok (.iload_n 1, 1) := by decide +kernel
theorem dX7_ask_74 : decode cX7_ask 74 = .ok (.imul, 1) := by decide +kernel
theorem dX7_ask_75 : decode cX7_ask 75 = .ok (.aload_n 0, 1) := by decide +kernel
theorem dX7_ask_76 : decode cX7_ask 76 = .ok (.getfield 38, 3) := by decide +kernel
theorem dX7_ask_79 : decode cX7_ask 79 = .ok (.iload_n 1, 1) := by decide +kernel
theorem dX7_ask_80 : decode cX7_ask 80 = .ok (.iaload, 1) := by decide +kernel
theorem dX7_ask_81 : decode cX7_ask 81 = .ok (.iadd, 1) := by decide +kernel
theorem dX7_ask_82 : decode cX7_ask 82 = .ok (.iload_n 2, 1) := by decide +kernel
theorem dX7_ask_83 : decode cX7_ask 83 = .ok (.iastore, 1) := by decide +kernel
theorem dX7_ask_84 : decode cX7_ask 84 = .ok (.aload_n 0, 1) := by decide +kernel
theorem dX7_ask_85 : decode cX7_ask 85 = .ok (.getfield 44, 3) := by decide +kernel
theorem dX7_ask_88 : decode cX7_ask 88 = .ok (.iconst 3, 1) := by decide +kernel
theorem dX7_ask_89 : decode cX7_ask 89 = .ok (.iload_n 1, 1) := by decide +kernel
theorem dX7_ask_90 : decode cX7_ask 90 = .ok (.imul, 1) := by decide +kernel
theorem dX7_ask_91 : decode cX7_ask 91 = .ok (.aload_n 0, 1) := by decide +kernel
theorem dX7_ask_92 : decode cX7_ask 92 = .ok (.getfield 38, 3) := by decide +kernel
theorem dX7_ask_95 : decode cX7_ask 95 = .ok (.iload_n 1, 1) := by decide +kernel
theorem dX7_ask_96 : decode cX7_ask 96 = .ok (.iaload, 1) := by decide +kernel
theorem dX7_ask_97 : decode cX7_ask 97 = .ok (.iadd, 1) := by decide +kernel
theorem dX7_ask_98 : decode cX7_ask 98 = .ok (.iload_n 3, 1) := by decide +kernel
theorem dX7_ask_99 : decode cX7_ask 99 = .ok (.iastore, 1) := by decide +kernel
theorem dX7_ask_100 : decode cX7_ask 100 = .ok (.aload_n 0, 1) := by decide +kernel
theorem dX7_ask_101 : decode cX7_ask 101 = .ok (.getfield 38, 3) := by decide +kernel
theorem dX7_ask_104 : decode cX7_ask 104 = .ok (.iload_n 1, 1) := by decide +kernel
theorem dX7_ask_105 : decode cX7_ask 105 = .ok (.dup2, 1) := by decide +kernel
theorem dX7_ask_106 : decode cX7_ask 106 = .ok (.iaload, 1) := by decide +kernel
theorem dX7_ask_107 : decode cX7_ask 107 = .ok (.iconst 1, 1) := by decide +kernel
theorem dX7_ask_108 : decode cX7_ask 108 = .ok (.iadd, 1) := by decide +kernel
theorem dX7_ask_109 : decode cX7_ask 109 = .ok (.dup_x2, 1) := by decide +kernel
theorem dX7_ask_110 : decode cX7_ask 110 = .ok (.iastore, 1) := by decide +kernel
theorem dX7_ask_111 : decode cX7_ask 111 = .ok (.ireturn, 1) := by decide +kernel
theorem dX7_raise_0 : decode cX7_raise 0 = .ok (.aload_n 0, 1) := by decide +kernel
theorem dX7_raise_1 : decode cX7_raise 1 = .ok (.iload_n 1, 1) := by decide +kernel
theorem dX7_raise_2 : decode cX7_raise 2 = .ok (.invokevirtual 124, 3) := by decide +kernel
theorem dX7_raise_5 : decode cX7_raise 5 = .ok (.ifCond .ne 9, 3) := by decide +kernel
theorem dX7_raise_8 : decode cX7_raise 8 = .ok (.aload_n 0, 1) := by decide +kernel
theorem dX7_raise_9 : decode cX7_raise 9 = .ok (.iconst 1, 1) := by decide +kernel
theorem dX7_raise_10 : decode cX7_raise 10 = .ok (.invokevirtual 107, 3) := by decide +kernel
theorem dX7_raise_13 : decode cX7_raise 13 = .ok (.ireturn, 1) := by decide +kernel
theorem dX7_raise_14 : decode cX7_raise 14 = .ok (.aload_n 0, 1) := by decide +kernel
theorem dX7_raise_15 : decode cX7_raise 15 = .ok (.getfield 26, 3) := by decide +kernel
theorem dX7_raise_18 : decode cX7_raise 18 = .ok (.iload_n 1, 1) := by decide +kernel
theorem dX7_raise_19 : decode cX7_raise 19 = .ok (.caload, 1) := by decide +kernel
theorem dX7_raise_20 : decode cX7_raise 20 = .ok (.bipush 111, 2) := by decide +kernel
theorem dX7_raise_22 : decode cX7_raise 22 = .ok (.if_icmp .eq 9, 3) := by decide +kernel
theorem dX7_raise_25 : decode cX7_raise 25 = .ok (.aload_n 0, 1) := by decide +kernel
theorem dX7_raise_26 : decode cX7_raise 26 = .ok (.iconst 2, 1) := by decide +kernel
theorem dX7_raise_27 : decode cX7_raise 27 = .ok (.invokevirtual 107, 3) := by decide +kernel
theorem dX7_raise_30 : decode cX7_raise 30 = .ok (.ireturn, 1) := by decide +kernel
theorem dX7_raise_31 : decode cX7_raise 31 = .ok (.iload_n 2, 1) := by decide +kernel
theorem dX7_raise_32 : decode cX7_raise 32 = .ok (.aload_n 0, 1) := by decide +kernel
theorem dX7_raise_33 : decode cX7_raise 33 = .ok (.getfield 35, 3) := by decide +kernel
theorem dX7_raise_36 : decode cX7_raise 36 = .ok (.iload_n 1, 1) := by decide +kernel
theorem dX7_raise_37 : decode cX7_raise 37 = .ok (.iaload, 1) := by decide +kernel
theorem dX7_raise_38 : decode cX7_raise 38 = .ok (.if_icmp .le 10, 3) := by decide +kernel
theorem dX7_raise_41 : decode cX7_raise 41 = .ok (.iload_n 2, 1) := by decide +kernel
theorem dX7_raise_42 : decode cX7_raise 42 = .ok (.sipush 9999, 3) := by decide +kernel
theorem dX7_raise_45 : decode cX7_raise 45 = .ok (.if_icmp .le 9, 3) := by decide +kernel
theorem dX7_raise_48 : decode cX7_raise 48 = .ok (.aload_n 0, 1) := by decide +kernel
theorem dX7_raise_49 : decode cX7_raise 49 = .ok (.iconst 3, 1) := by decide +kernel
theorem dX7_raise_50 : decode cX7_raise 50 = .ok (.invokevirtual 107, 3) := by decide +kernel
theorem dX7_raise_53 : decode cX7_raise 53 = .ok (.ireturn, 1) := by decide +kernel
theorem dX7_raise_54 : decode cX7_raise 54 = .ok (.aload_n 0, 1) := by decide +kernel
theorem dX7_raise_55 : decode cX7_raise 55 = .ok (.iconst 0, 1) := by decide +kernel
theorem dX7_raise_56 : decode cX7_raise 56 = .ok (.putfield 89, 3) := by decide +kernel
theorem dX7_raise_59 : decode cX7_raise 59 = .ok (.aload_n 0, 1) := by decide +kernel
theorem dX7_raise_60 : decode cX7_raise 60 = .ok (.getfield 35, 3) := by decide +kernel
theorem dX7_raise_63 : decode cX7_raise 63 = .ok (.iload_n 1, 1) := by decide +kernel
theorem dX7_raise_64 : decode cX7_raise 64 = .ok (.iaload, 1) := by decide +kernel
theorem dX7_raise_65 : decode cX7_raise 65 = .ok (.istore_n 3, 1) := by decide +kernel
theorem dX7_raise_66 : decode cX7_raise 66 = .ok (.aload_n 0, 1) := by decide +kernel
theorem dX7_raise_67 : decode cX7_raise 67 = .ok (.getfield 35, 3) := by decide +kernel
theorem dX7_raise_70 : decode cX7_raise 70 = .ok (.iload_n 1, 1) := by decide +kernel
theorem dX7_raise_71 : decode cX7_raise 71 = .ok (.iload_n 2, 1) := by decide +kernel
theorem dX7_raise_72 : decode cX7_raise 72 = .ok (.iastore, 1) := by decide +kernel
theorem dX7_raise_73 : decode cX7_raise 73 = .ok (.iload_n 3, 1) := by decide +kernel
theorem dX7_raise_74 : decode cX7_raise 74 = .ok (.ireturn, 1) := by decide +kernel
theorem dX7_cancel_0 : decode cX7_cancel 0 = .ok (.aload_n 0, 1) := by decide +kernel
theorem dX7_cancel_1 : decode cX7_cancel 1 = .ok (.iload_n 1, 1) := by decide +kernel
theorem dX7_cancel_2 : decode cX7_cancel 2 = .ok (.invokevirtual 124, 3) := by decide +kernel
theorem dX7_cancel_5 : decode cX7_cancel 5 = .ok (.ifCond .ne 9, 3) := by decide +kernel
theorem dX7_cancel_8 : decode cX7_cancel 8 = .ok (.aload_n 0, 1) := by decide +kernel
theorem dX7_cancel_9 : decode cX7_cancel 9 = .ok (.iconst 1, 1) := by decide +kernel
theorem dX7_cancel_10 : decode cX7_cancel 10 = .ok (.invokevirtual 107, 3) := by decide +kernel
theorem dX7_cancel_13 : decode cX7_cancel 13 = .ok (.ireturn, 1) := by decide +kernel
theorem dX7_cancel_14 : decode cX7_cancel 14 = .ok (.aload_n 0, 1) := by decide +kernel
theorem dX7_cancel_15 : decode cX7_cancel 15 = .ok (.getfield 26, 3) := by decide +kernel
theorem dX7_cancel_18 : decode cX7_cancel 18 = .ok (.iload_n 1, 1) := by decide +kernel
theorem dX7_cancel_19 : decode cX7_cancel 19 = .ok (.caload, 1) := by decide +kernel
theorem dX7_cancel_20 : decode cX7_cancel 20 = .ok (.bipush 111, 2) := by decide +kernel
theorem dX7_cancel_22 : decode cX7_cancel 22 = .ok (.if_icmp .eq 9, 3) := by decide +kernel
theorem dX7_cancel_25 : decode cX7_cancel 25 = .ok (.aload_n 0, 1) := by decide +kernel
theorem dX7_cancel_26 : decode cX7_cancel 26 = .ok (.iconst 2, 1) := by decide +kernel
theorem dX7_cancel_27 : decode cX7_cancel 27 = .ok (.invokevirtual 107, 3) := by decide +kernel
theorem dX7_cancel_30 : decode cX7_cancel 30 = .ok (.ireturn, 1) := by decide +kernel
theorem dX7_cancel_31 : decode cX7_cancel 31 = .ok (.aload_n 0, 1) := by decide +kernel
theorem dX7_cancel_32 : decode cX7_cancel 32 = .ok (.iconst 0, 1) := by decide +kernel
theorem dX7_cancel_33 : decode cX7_cancel 33 = .ok (.putfield 89, 3) := by decide +kernel
theorem dX7_cancel_36 : decode cX7_cancel 36 = .ok (.aload_n 0, 1) := by decide +kernel
theorem dX7_cancel_37 : decode cX7_cancel 37 = .ok (.getfield 26, 3) := by decide +kernel
theorem dX7_cancel_40 : decode cX7_cancel 40 = .ok (.iload_n 1, 1) := by decide +kernel
theorem dX7_cancel_41 : decode cX7_cancel 41 = .ok (.bipush 99, 2) := by decide +kernel
theorem dX7_cancel_43 : decode cX7_cancel 43 = .ok (.castore, 1) := by decide +kernel
theorem dX7_cancel_44 : decode cX7_cancel 44 = .ok (.aload_n 0, 1) := by decide +kernel
theorem dX7_cancel_45 : decode cX7_cancel 45 = .ok (.dup, 1) := by decide +kernel
theorem dX7_cancel_46 : decode cX7_cancel 46 = .ok (.getfield 121, 3) := by decide +kernel
theorem dX7_cancel_49 : decode cX7_cancel 49 = .ok (.iconst 1, 1) := by decide +kernel
theorem dX7_cancel_50 : decode cX7_cancel 50 = .ok (.isub, 1) := by decide +kernel
theorem dX7_cancel_51 : decode cX7_cancel 51 = .ok (.putfield 121, 3) := by decide +kernel
theorem dX7_cancel_54 : decode cX7_cancel 54 = .ok (.aload_n 0, 1) := by decide +kernel
theorem dX7_cancel_55 : decode cX7_cancel 55 = .ok (.getfield 35, 3) := by decide +kernel
theorem dX7_cancel_58 : decode cX7_cancel 58 = .ok (.iload_n 1, 1) := by decide +kernel
theorem dX7_cancel_59 : decode cX7_cancel 59 = .ok (.iaload, 1) := by decide +kernel
theorem dX7_cancel_60 : decode cX7_cancel 60 = .ok (.ireturn, 1) := by decide +kernel
theorem dX7_suits_0 : decode cX7_suits 0 = .ok (.aload_n 0, 1) := by decide +kernel
theorem dX7_suits_1 : decode cX7_suits 1 = .ok (.getfield 7, 3) := by decide +kernel
theorem dX7_suits_4 : decode cX7_suits 4 = .ok (.iload_n 1, 1) := by decide +kernel
theorem dX7_suits_5 : decode cX7_suits 5 = .ok (.iaload, 1) := by decide +kernel
theorem dX7_suits_6 : decode cX7_suits 6 = .ok (.aload_n 0, 1) := by decide +kernel
theorem dX7_suits_7 : decode cX7_suits 7 = .ok (.getfield 41, 3) := by decide +kernel
theorem dX7_suits_10 : decode cX7_suits 10 = .ok (.iload_n 2, 1) := by decide +kernel
theorem dX7_suits_11 : decode cX7_suits 11 = .ok (.iaload, 1) := by decide +kernel
theorem dX7_suits_12 : decode cX7_suits 12 = .ok (.if_icmp .ne 20, 3) := by decide +kernel
theorem dX7_suits_15 : decode cX7_suits 15 = .ok (.aload_n 0, 1) := by decide +kernel
theorem dX7_suits_16 : decode cX7_suits 16 = .ok (.getfield 13, 3) := by decide +kernel
theorem dX7_suits_19 : decode cX7_suits 19 = .ok (.iload_n 1, 1) := by decide +kernel
theorem dX7_suits_20 : decode cX7_suits 20 = .ok (.iaload, 1) := by decide +kernel
theorem dX7_suits_21 : decode cX7_suits 21 = .ok (.aload_n 0, 1) := by decide +kernel
theorem dX7_suits_22 : decode cX7_suits 22 = .ok (.getfield 44, 3) := by decide +kernel
theorem dX7_suits_25 : decode cX7_suits 25 = .ok (.iload_n 2, 1) := by decide +kernel
theorem dX7_suits_26 : decode cX7_suits 26 = .ok (.iaload, 1) := by decide +kernel
theorem dX7_suits_27 : decode cX7_suits 27 = .ok (.if_icmp .gt 5, 3) := by decide +kernel
theorem dX7_suits_30 : decode cX7_suits 30 = .ok (.iconst 1, 1) := by decide +kernel
theorem dX7_suits_31 : decode cX7_suits 31 = .ok (.ireturn, 1) := by decide +kernel
theorem dX7_suits_32 : decode cX7_suits 32 = .ok (.iconst 0, 1) := by decide +kernel
theorem dX7_suits_33 : decode cX7_suits 33 = .ok (.istore_n 3, 1) := by decide +kernel
theorem dX7_suits_34 : decode cX7_suits 34 = .ok (.iload_n 3, 1) := by decide +kernel
theorem dX7_suits_35 : decode cX7_suits 35 = .ok (.aload_n 0, 1) := by decide +kernel
theorem dX7_suits_36 : decode cX7_suits 36 = .ok (.getfield 118, 3) := by decide +kernel
theorem dX7_suits_39 : decode cX7_suits 39 = .ok (.if_icmp .ge 63, 3) := by decide +kernel
theorem dX7_suits_42 : decode cX7_suits 42 = .ok (.aload_n 0, 1) := by decide +kernel
theorem dX7_suits_43 : decode cX7_suits 43 = .ok (.getfield 56, 3) := by decide +kernel
theorem dX7_suits_46 : decode cX7_suits 46 = .ok (.iload_n 3, 1) := by decide +kernel
theorem dX7_suits_47 : decode cX7_suits 47 = .ok (.iaload, 1) := by decide +kernel
theorem dX7_suits_48 : decode cX7_suits 48 = .ok (.aload_n 0, 1) := by decide +kernel
theorem dX7_suits_49 : decode cX7_suits 49 = .ok (.getfield 41, 3) := by decide +kernel
theorem dX7_suits_52 : decode cX7_suits 52 = .ok (.iload_n 2, 1) := by decide +kernel
theorem dX7_suits_53 : decode cX7_suits 53 = .ok (.iaload, 1) := by decide +kernel
theorem dX7_suits_54 : decode cX7_suits 54 = .ok (.if_icmp .ne 42, 3) := by decide +kernel
theorem dX7_suits_57 : decode cX7_suits 57 = .ok (.aload_n 0, 1) := by decide +kernel
theorem dX7_suits_58 : decode cX7_suits 58 = .ok (.getfield 59, 3) := by decide +kernel
theorem dX7_suits_61 : decode cX7_suits 61 = .ok (.iload_n 3, 1) := by decide +kernel
theorem dX7_suits_62 : decode cX7_suits 62 = .ok (.iaload, 1) := by decide +kernel
theorem dX7_suits_63 : decode cX7_suits 63 = .ok (.aload_n 0, 1) := by decide +kernel
theorem dX7_suits_64 : decode cX7_suits 64 = .ok (.getfield 7, 3) := by decide +kernel
theorem dX7_suits_67 : decode cX7_suits 67 = .ok (.iload_n 1, 1) := by decide +kernel
theorem dX7_suits_68 : decode cX7_suits 68 = .ok (.iaload, 1) := by decide +kernel
theorem dX7_suits_69 : decode cX7_suits 69 = .ok (.if_icmp .ne 27, 3) := by decide +kernel
theorem dX7_suits_72 : decode cX7_suits 72 = .ok (.aload_n 0, 1) := by decide +kernel
theorem dX7_suits_73 : decode cX7_suits 73 = .ok (.getfield 13, 3) := by decide +kernel
theorem dX7_suits_76 : decode cX7_suits 76 = .ok (.iload_n 1, 1) := by decide +kernel
theorem dX7_suits_77 : decode cX7_suits 77 = .ok (.iaload, 1) := by decide +kernel
theorem dX7_suits_78 : decode cX7_suits 78 = .ok (.aload_n 0, 1) := by decide +kernel
theorem dX7_suits_79 : decode cX7_suits 79 = .ok (.getfield 62, 3) := by decide +kernel
theorem dX7_suits_82 : decode cX7_suits 82 = .ok (.iload_n 3, 1) := by decide +kernel
theorem dX7_suits_83 : decode cX7_suits 83 = .ok (.iaload, 1) := by decide +kernel
theorem dX7_suits_84 : decode cX7_suits 84 = .ok (.iadd, 1) := by decide +kernel
theorem dX7_suits_85 : decode cX7_suits 85 = .ok (.aload_n 0, 1) := by decide +kernel
theorem dX7_suits_86 : decode cX7_suits 86 = .ok (.getfield 44, 3) := by decide +kernel
theorem dX7_suits_89 : decode cX7_suits 89 = .ok (.iload_n 2, 1) := by decide +kernel
theorem dX7_suits_90 : decode cX7_suits 90 = .ok (.iaload, 1) := by decide +kernel
theorem dX7_suits_91 : decode cX7_suits 91 = .ok (.if_icmp .gt 5, 3) := by decide +kernel
theorem dX7_suits_94 : decode cX7_suits 94 = .ok (.iconst 1, 1) := by decide +kernel
theorem dX7_suits_95 : decode cX7_suits 95 = .ok (.ireturn, 1) := by decide +kernel
theorem dX7_suits_96 : decode cX7_suits 96 = .ok (.iinc 3 1, 3) := by decide +kernel
theorem dX7_suits_99 : decode cX7_suits 99 = .ok (.goto (-65), 3) := by decide +kernel
theorem dX7_suits_102 : decode cX7_suits 102 = .ok (.iconst 0, 1) := by decide +kernel
theorem dX7_suits_103 : decode cX7_suits 103 = .ok (.ireturn, 1) := by decide +kernel
theorem dX7_gather_0 : decode cX7_gather 0 = .ok (.iconst 0, 1) := by decide +kernel
theorem dX7_gather_1 : decode cX7_gather 1 = .ok (.istore_n 1, 1) := by decide +kernel
theorem dX7_gather_2 : decode cX7_gather 2 = .ok (.iconst 0, 1) := by decide +kernel
theorem dX7_gather_3 : decode cX7_gather 3 = .ok (.istore_n 2, 1) := by decide +kernel
theorem dX7_gather_4 : decode cX7_gather 4 = .ok (.iload_n 2, 1) := by decide +kernel
theorem dX7_gather_5 : decode cX7_gather 5 = .ok (.aload_n 0, 1) := by decide +kernel
theorem dX7_gather_6 : decode cX7_gather 6 = .ok (.getfield 93, 3) := by decide +kernel
theorem dX7_gather_9 : decode cX7_gather 9 = .ok (.if_icmp .ge 30, 3) := by decide +kernel
theorem dX7_gather_12 : decode cX7_gather 12 = .ok (.aload_n 0, 1) := by decide +kernel
theorem dX7_gather_13 : decode cX7_gather 13 = .ok (.getfield 22, 3) := by decide +kernel
theorem dX7_gather_16 : decode cX7_gather 16 = .ok (.iload_n 2, 1) := by decide +kernel
theorem dX7_gather_17 : decode cX7_gather 17 = .ok (.caload, 1) := by decide +kernel
theorem dX7_gather_18 : decode cX7_gather 18 = .ok (.bipush 111, 2) := by decide +kernel
theorem dX7_gather_20 : decode cX7_gather 20 = .ok (.if_icmp .ne 13, 3) := by decide +kernel
theorem dX7_gather_23 : decode cX7_gather 23 = .ok (.aload_n 0, 1) := by decide +kernel
theorem dX7_gather_24 : decode cX7_gather 24 = .ok (.getfield 65, 3) := by decide +kernel
theorem dX7_gather_27 : decode cX7_gather 27 = .ok (.iload_n 1, 1) := by decide +kernel
theorem dX7_gather_28 : decode cX7_gather 28 = .ok (.iinc 1 1, 3) := by decide +kernel
theorem dX7_gather_31 : decode cX7_gather 31 = .ok (.iload_n 2, 1) := by decide +kernel
theorem dX7_gather_32 : decode cX7_gather 32 = .ok (.iastore, 1) := by decide +kernel
theorem dX7_gather_33 : decode cX7_gather 33 = .ok (.iinc 2 1, 3) := by decide +kernel
theorem dX7_gather_36 : decode cX7_gather 36 = .ok (.goto (-32), 3) := by decide +kernel
theorem dX7_gather_39 : decode cX7_gather 39 = .ok (.iconst 0, 1) := by decide +kernel
theorem dX7_gather_40 : decode cX7_gather 40 = .ok (.istore_n 1, 1) := by decide +kernel
theorem dX7_gather_41 : decode cX7_gather 41 = .ok (.iconst 0, 1) := by decide +kernel
theorem dX7_gather_42 : decode cX7_gather 42 = .ok (.istore_n 2, 1) := by decide +kernel
theorem dX7_gather_43 : decode cX7_gather 43 = .ok (.iload_n 2, 1) := by decide +kernel
theorem dX7_gather_44 : decode cX7_gather 44 = .ok (.aload_n 0, 1) := by decide +kernel
theorem dX7_gather_45 : decode cX7_gather 45 = .ok (.getfield 100, 3) := by decide +kernel
theorem dX7_gather_48 : decode cX7_gather 48 = .ok (.if_icmp .ge 30, 3) := by decide +kernel
theorem dX7_gather_51 : decode cX7_gather 51 = .ok (.aload_n 0, 1) := by decide +kernel
theorem dX7_gather_52 : decode cX7_gather 52 = .ok (.getfield 26, 3) := by decide +kernel
theorem dX7_gather_55 : decode cX7_gather 55 = .ok (.iload_n 2, 1) := by decide +kernel
theorem dX7_gather_56 : decode cX7_gather 56 = .ok (.caload, 1) := by decide +kernel
theorem dX7_gather_57 : decode cX7_gather 57 = .ok (.bipush 111, 2) := by decide +kernel
theorem dX7_gather_59 : decode cX7_gather 59 = .ok (.if_icmp .ne 13, 3) := by decide +kernel
theorem dX7_gather_62 : decode cX7_gather 62 = .ok (.aload_n 0, 1) := by decide +kernel
theorem dX7_gather_63 : decode cX7_gather 63 = .ok (.getfield 68, 3) := by decide +kernel
theorem dX7_gather_66 : decode cX7_gather 66 = .ok (.iload_n 1, 1) := by decide +kernel
theorem dX7_gather_67 : decode cX7_gather 67 = .ok (.iinc 1 1, 3) := by decide +kernel
theorem dX7_gather_70 : decode cX7_gather 70 = .ok (.iload_n 2, 1) := by decide +kernel
theorem dX7_gather_71 : decode cX7_gather 71 = .ok (.iastore, 1) := by decide +kernel
theorem dX7_gather_72 : decode cX7_gather 72 = .ok (.iinc 2 1, 3) := by decide +kernel
theorem dX7_gather_75 : decode cX7_gather 75 = .ok (.goto (-32), 3) := by decide +kernel
theorem dX7_gather_78 : decode cX7_gather 78 = .ok (.return_, 1) := by decide +kernel
theorem dX7_adds_0 : decode cX7_adds 0 = .ok (.iconst 0, 1) := by decide +kernel
theorem dX7_adds_1 : decode cX7_adds 1 = .ok (.istore_n 3, 1) := by decide +kernel
theorem dX7_adds_2 : decode cX7_adds 2 = .ok (.iload_n 3, 1) := by decide +kernel
theorem dX7_adds_3 : decode cX7_adds 3 = .ok (.sipush 256, 3) := by decide +kernel
theorem dX7_adds_6 : decode cX7_adds 6 = .ok (.if_icmp .ge 37, 3) := by decide +kernel
theorem dX7_adds_9 : decode cX7_adds 9 = .ok (.aload_n 0, 1) := by decide +kernel
theorem dX7_adds_10 : decode cX7_adds 10 = .ok (.getfield 74, 3) := by decide +kernel
theorem dX7_adds_13 : decode cX7_adds 13 = .ok (.sipush 256, 3) := by decide +kernel
theorem dX7_adds_16 : decode cX7_adds 16 = .ok (.iload_n 2, 1) := by decide +kernel
theorem dX7_adds_17 : decode cX7_adds 17 = .ok (.imul, 1) := by decide +kernel
theorem dX7_adds_18 : decode cX7_adds 18 = .ok (.sipush 256, 3) := by decide +kernel
theorem dX7_adds_21 : decode cX7_adds 21 = .ok (.iadd, 1) := by decide +kernel
theorem dX7_adds_22 : decode cX7_adds 22 = .ok (.iload_n 3, 1) := by decide +kernel
theorem dX7_adds_23 : decode cX7_adds 23 = .ok (.iadd, 1) := by decide +kernel
theorem dX7_adds_24 : decode cX7_adds 24 = .ok (.aload_n 0, 1) := by decide +kernel
theorem dX7_adds_25 : decode cX7_adds 25 = .ok (.getfield 74, 3) := by decide +kernel
theorem dX7_adds_28 : decode cX7_adds 28 = .ok (.sipush 256, 3) := by decide +kernel
theorem dX7_adds_31 : decode cX7_adds 31 = .ok (.iload_n 2, 1) := by decide +kernel
theorem dX7_adds_32 : decode cX7_adds 32 = .ok (.imul, 1) := by decide +kernel
theorem dX7_adds_33 : decode cX7_adds 33 = .ok (.iload_n 3, 1) := by decide +kernel
theorem dX7_adds_34 : decode cX7_adds 34 = .ok (.iadd, 1) := by decide +kernel
theorem dX7_adds_35 : decode cX7_adds 35 = .ok (.iaload, 1) := by decide +kernel
theorem dX7_adds_36 : decode cX7_adds 36 = .ok (.iastore, 1) := by decide +kernel
theorem dX7_adds_37 : decode cX7_adds 37 = .ok (.iinc 3 1, 3) := by decide +kernel
theorem dX7_adds_40 : decode cX7_adds 40 = .ok (.goto (-38), 3) := by decide +kernel
theorem dX7_adds_43 : decode cX7_adds 43 = .ok (.iconst 1, 1) := by decide +kernel
theorem dX7_adds_44 : decode cX7_adds 44 = .ok (.istore_n 3, 1) := by decide +kernel
theorem dX7_adds_45 : decode cX7_adds 45 = .ok (.iconst 0, 1) := by decide +kernel
theorem dX7_adds_46 : decode cX7_adds 46 = .ok (.istore 4, 2) := by decide +kernel
theorem dX7_adds_48 : decode cX7_adds 48 = .ok (.iload 4, 2) := by decide +kernel
theorem dX7_adds_50 : decode cX7_adds 50 = .ok (.aload_n 0, 1) := by decide +kernel
theorem dX7_adds_51 : decode cX7_adds 51 = .ok (.getfield 38, 3) := by decide +kernel
theorem dX7_adds_54 : decode cX7_adds 54 = .ok (.iload_n 1, 1) := by decide +kernel
theorem dX7_adds_55 : decode cX7_adds 55 = .ok (.iaload, 1) := by decide +kernel
theorem dX7_adds_56 : decode cX7_adds 56 = .ok (.if_icmp .ge 223, 3) := by decide +kernel
theorem dX7_adds_59 : decode cX7_adds 59 = .ok (.iload_n 3, 1) := by decide +kernel
theorem dX7_adds_60 : decode cX7_adds 60 = .ok (.ifCond .eq 219, 3) := by decide +kernel
theorem dX7_adds_63 : decode cX7_adds 63 = .ok (.iconst 0, 1) := by decide +kernel
theorem dX7_adds_64 : decode cX7_adds 64 = .ok (.istore_n 3, 1) := by decide +kernel
theorem dX7_adds_65 : decode cX7_adds 65 = .ok (.iconst 0, 1) := by decide +kernel
theorem dX7_adds_66 : decode cX7_adds 66 = .ok (.istore 5, 2) := by decide +kernel
theorem dX7_adds_68 : decode cX7_adds 68 = .ok (.iload 5, 2) := by decide +kernel
theorem dX7_adds_70 : decode cX7_adds 70 = .ok (.sipush 256, 3) := by decide +kernel
theorem dX7_adds_73 : decode cX7_adds 73 = .ok (.if_icmp .ge 52, 3) := by decide +kernel
theorem dX7_adds_76 : decode cX7_adds 76 = .ok (.aload_n 0, 1) := by decide +kernel
theorem dX7_adds_77 : decode cX7_adds 77 = .ok (.getfield 77, 3) := by decide +kernel
theorem dX7_adds_80 : decode cX7_adds 80 = .ok (.iload 5, 2) := by decide +kernel
theorem dX7_adds_82 : decode cX7_adds 82 = .ok (.aload_n 0, 1) := by decide +kernel
theorem dX7_adds_83 : decode cX7_adds 83 = .ok (.getfield 74, 3) := by decide +kernel
theorem dX7_adds_86 : decode cX7_adds 86 = .ok (.sipush 256, 3) := by decide +kernel
theorem dX7_adds_89 : decode cX7_adds 89 = .ok (.iload_n 2, 1) := by decide +kernel
theorem dX7_adds_90 : decode cX7_adds 90 = .ok (.imul, 1) := by decide +kernel
theorem dX7_adds_91 : decode cX7_adds 91 = .ok (.sipush 256, 3) := by decide +kernel
theorem dX7_adds_94 : decode cX7_adds 94 = .ok (.iadd, 1) := by decide +kernel
theorem dX7_adds_95 : decode cX7_adds 95 = .ok (.iload 5, 2) := by decide +kernel
theorem dX7_adds_97 : decode cX7_adds 97 = .ok (.iadd, 1) := by decide +kernel
theorem dX7_adds_98 : decode cX7_adds 98 = .ok (.iaload, 1) := by decide +kernel
theorem dX7_adds_99 : decode cX7_adds 99 = .ok (.iastore, 1) := by decide +kernel
theorem dX7_adds_100 : decode cX7_adds 100 = .ok (.aload_n 0, 1) := by decide +kernel
theorem dX7_adds_101 : decode cX7_adds 101 = .ok (.getfield 74, 3) := by decide +kernel
theorem dX7_adds_104 : decode cX7_adds 104 = .ok (.sipush 256, 3) := by decide +kernel
theorem dX7_adds_107 : decode cX7_adds 107 = .ok (.iload_n 2, 1) := by decide +kernel
theorem dX7_adds_108 : decode cX7_adds 108 = .ok (.imul, 1) := by decide +kernel
theorem dX7_adds_109 : decode cX7_adds 109 = .ok (.sipush 256, 3) := by decide +kernel
theorem dX7_adds_112 : decode cX7_adds 112 = .ok (.iadd, 1) := by decide +kernel
theorem dX7_adds_113 : decode cX7_adds 113 = .ok (.iload 5, 2) := by decide +kernel
theorem dX7_adds_115 : decode cX7_adds 115 = .ok (.iadd, 1) := by decide +kernel
theorem dX7_adds_116 : decode cX7_adds 116 = .ok (.ldc 127, 2) := by decide +kernel
theorem dX7_adds_118 : decode cX7_adds 118 = .ok (.iastore, 1) := by decide +kernel
theorem dX7_adds_119 : decode cX7_adds 119 = .ok (.iinc 5 1, 3) := by decide +kernel
theorem dX7_adds_122 : decode cX7_adds 122 = .ok (.goto (-54), 3) := by decide +kernel
theorem dX7_adds_125 : decode cX7_adds 125 = .ok (.iconst 0, 1) := by decide +kernel
theorem dX7_adds_126 : decode cX7_adds 126 = .ok (.istore 5, 2) := by decide +kernel
theorem dX7_adds_128 : decode cX7_adds 128 = .ok (.iload 5, 2) := by decide +kernel
theorem dX7_adds_130 : decode cX7_adds 130 = .ok (.aload_n 0, 1) := by decide +kernel
theorem dX7_adds_131 : decode cX7_adds 131 = .ok (.getfield 111, 3) := by decide +kernel
theorem dX7_adds_134 : decode cX7_adds 134 = .ok (.if_icmp .ge 139, 3) := by decide +kernel
theorem dX7_adds_137 : decode cX7_adds 137 = .ok (.aload_n 0, 1) := by decide +kernel
theorem dX7_adds_138 : decode cX7_adds 138 = .ok (.aload_n 0, 1) := by decide +kernel
theorem dX7_adds_139 : decode cX7_adds 139 = .ok (.getfield 65, 3) := by decide +kernel
theorem dX7_adds_142 : decode cX7_adds 142 = .ok (.iload 5, 2) := by decide +kernel
theorem dX7_adds_144 : decode cX7_adds 144 = .ok (.iaload, 1) := by decide +kernel
theorem dX7_adds_145 : decode cX7_adds 145 = .ok (.iconst 3, 1) := by decide +kernel
theorem dX7_adds_146 : decode cX7_adds 146 = .ok (.iload_n 1, 1) := by decide +kernel
theorem dX7_adds_147 : decode cX7_adds 147 = .ok (.imul, 1) := by decide +kernel
theorem dX7_adds_148 : decode cX7_adds 148 = .ok (.iload 4, 2) := by decide +kernel
theorem dX7_adds_150 : decode cX7_adds 150 = .ok (.iadd, 1) := by decide +kernel
theorem dX7_adds_151 : decode cX7_adds 151 = .ok (.invokevirtual 128, 3) := by decide +kernel
theorem dX7_adds_154 : decode cX7_adds 154 = .ok (.ifCond .ne 6, 3) := by decide +kernel
theorem dX7_adds_157 : decode cX7_adds 157 = .ok (.goto 110, 3) := by decide +kernel
theorem dX7_adds_160 : decode cX7_adds 160 = .ok (.iconst 0, 1) := by decide +kernel
theorem dX7_adds_161 : decode cX7_adds 161 = .ok (.istore 6, 2) := by decide +kernel
theorem dX7_adds_163 : decode cX7_adds 163 = .ok (.iload 6, 2) := by decide +kernel
theorem dX7_adds_165 : decode cX7_adds 165 = .ok (.sipush 256, 3) := by decide +kernel
theorem dX7_adds_168 : decode cX7_adds 168 = .ok (.if_icmp .ge 99, 3) := by decide +kernel
theorem dX7_adds_171 : decode cX7_adds 171 = .ok (.aload_n 0, 1) := by decide +kernel
theorem dX7_adds_172 : decode cX7_adds 172 = .ok (.getfield 77, 3) := by decide +kernel
theorem dX7_adds_175 : decode cX7_adds 175 = .ok (.iload 6, 2) := by decide +kernel
theorem dX7_adds_177 : decode cX7_adds 177 = .ok (.iaload, 1) := by decide +kernel
theorem dX7_adds_178 : decode cX7_adds 178 = .ok (.ldc 127, 2) := by decide +kernel
theorem dX7_adds_180 : decode cX7_adds 180 = .ok (.if_icmp .eq 81, 3) := by decide +kernel
theorem dX7_adds_183 : decode cX7_adds 183 = .ok (.iload 6, 2) := by decide +kernel
theorem dX7_adds_185 : decode cX7_adds 185 = .ok (.iload 5, 2) := by decide +kernel
theorem dX7_adds_187 : decode cX7_adds 187 = .ok (.ishr, 1) := by decide +kernel
theorem dX7_adds_188 : decode cX7_adds 188 = .ok (.iconst 1, 1) := by decide +kernel
theorem dX7_adds_189 : decode cX7_adds 189 = .ok (.iand, 1) := by decide +kernel
theorem dX7_adds_190 : decode cX7_adds 190 = .ok (.iconst 1, 1) := by decide +kernel
theorem dX7_adds_191 : decode cX7_adds 191 = .ok (.if_icmp .ne 6, 3) := by decide +kernel
theorem dX7_adds_194 : decode cX7_adds 194 = .ok (.goto 67, 3) := by decide +kernel
theorem dX7_adds_197 : decode cX7_adds 197 = .ok (.aload_n 0, 1) := by decide +kernel
theorem dX7_adds_198 : decode cX7_adds 198 = .ok (.getfield 77, 3) := by decide +kernel
theorem dX7_adds_201 : decode cX7_adds 201 = .ok (.iload 6, 2) := by decide +kernel
theorem dX7_adds_203 : decode cX7_adds 203 = .ok (.iaload, 1) := by decide +kernel
theorem dX7_adds_204 : decode cX7_adds 204 = .ok (.aload_n 0, 1) := by decide +kernel
theorem dX7_adds_205 : decode cX7_adds 205 = .ok (.getfield 16, 3) := by decide +kernel
theorem dX7_adds_208 : decode cX7_adds 208 = .ok (.aload_n 0, 1) := by decide +kernel
theorem dX7_adds_209 : decode cX7_adds 209 = .ok (.getfield 65, 3) := by decide +kernel
theorem dX7_adds_212 : decode cX7_adds 212 = .ok (.iload 5, 2) := by decide +kernel
theorem dX7_adds_214 : decode cX7_adds 214 = .ok (.iaload, 1) := by decide +kernel
theorem dX7_adds_215 : decode cX7_adds 215 = .ok (.iaload, 1) := by decide +kernel
theorem dX7_adds_216 : decode cX7_adds 216 = .ok (.iadd, 1) := by decide +kernel
theorem dX7_adds_217 : decode cX7_adds 217 = .ok (.istore 7, 2) := by decide +kernel
theorem dX7_adds_219 : decode cX7_adds 219 = .ok (.sipush 256, 3) := by decide +kernel
theorem dX7_adds_222 : decode cX7_adds 222 = .ok (.iload_n 2, 1) := by decide +kernel
theorem dX7_adds_223 : decode cX7_adds 223 = .ok (.imul, 1) := by decide +kernel
theorem dX7_adds_224 : decode cX7_adds 224 = .ok (.sipush 256, 3) := by decide +kernel
theorem dX7_adds_227 : decode cX7_adds 227 = .ok (.iadd, 1) := by decide +kernel
theorem dX7_adds_228 : decode cX7_adds 228 = .ok (.iload 6, 2) := by decide +kernel
theorem dX7_adds_230 : decode cX7_adds 230 = .ok (.iconst 1, 1) := by decide +kernel
theorem dX7_adds_231 : decode cX7_adds 231 = .ok (.iload 5, 2) := by decide +kernel
theorem dX7_adds_233 : decode cX7_adds 233 = .ok (.ishl, 1) := by decide +kernel
theorem dX7_adds_234 : decode cX7_adds 234 = .ok (.ior, 1) := by decide +kernel
theorem dX7_adds_235 : decode cX7_adds 235 = .ok (.iadd, 1) := by decide +kernel
theorem dX7_adds_236 : decode cX7_adds 236 = .ok (.istore 8, 2) := by decide +kernel
theorem dX7_adds_238 : decode cX7_adds 238 = .ok (.iload 7, 2) := by decide +kernel
theorem dX7_adds_240 : decode cX7_adds 240 = .ok (.aload_n 0, 1) := by decide +kernel
theorem dX7_adds_241 : decode cX7_adds 241 = .ok (.getfield 74, 3) := by decide +kernel
theorem dX7_adds_244 : decode cX7_adds 244 = .ok (.iload 8, 2) := by decide +kernel
theorem dX7_adds_246 : decode cX7_adds 246 = .ok (.iaload, 1) := by decide +kernel
theorem dX7_adds_247 : decode cX7_adds 247 = .ok (.if_icmp .ge 12, 3) := by decide +kernel
theorem dX7_adds_250 : decode cX7_adds 250 = .ok (.aload_n 0, 1) := by decide +kernel
theorem dX7_adds_251 : decode cX7_adds 251 = .ok (.getfield 74, 3) := by decide +kernel
theorem dX7_adds_254 : decode cX7_adds 254 = .ok (.iload 8, 2) := by decide +kernel
theorem dX7_adds_256 : decode cX7_adds 256 = .ok (.iload 7, 2) := by decide +kernel
theorem dX7_adds_258 : decode cX7_adds 258 = .ok (.iastore, 1) := by decide +kernel
theorem dX7_adds_259 : decode cX7_adds 259 = .ok (.iconst 1, 1) := by decide +kernel
theorem dX7_adds_260 : decode cX7_adds 260 = .ok (.istore_n 3, 1) := by decide +kernel
theorem dX7_adds_261 : decode cX7_adds 261 = .ok (.iinc 6 1, 3) := by decide +kernel
theorem dX7_adds_264 : decode cX7_adds 264 = .ok (.goto (-101), 3) := by decide +kernel
theorem dX7_adds_267 : decode cX7_adds 267 = .ok (.iinc 5 1, 3) := by decide +kernel
theorem dX7_adds_270 : decode cX7_adds 270 = .ok (.goto (-142), 3) := by decide +kernel
theorem dX7_adds_273 : decode cX7_adds 273 = .ok (.iinc 4 1, 3) := by decide +kernel
theorem dX7_adds_276 : decode cX7_adds 276 = .ok (.goto (-228), 3) := by decide +kernel
theorem dX7_adds_279 : decode cX7_adds 279 = .ok (.iload_n 3, 1) := by decide +kernel
theorem dX7_adds_280 : decode cX7_adds 280 = .ok (.ireturn, 1) := by decide +kernel
theorem dX7_least_0 : decode cX7_least 0 = .ok (.ldc 127, 2) := by decide +kernel
theorem dX7_least_2 : decode cX7_least 2 = .ok (.istore_n 2, 1) := by decide +kernel
theorem dX7_least_3 : decode cX7_least 3 = .ok (.iconst 0, 1) := by decide +kernel
theorem dX7_least_4 : decode cX7_least 4 = .ok (.istore_n 3, 1) := by decide +kernel
theorem dX7_least_5 : decode cX7_least 5 = .ok (.iload_n 3, 1) := by decide +kernel
theorem dX7_least_6 : decode cX7_least 6 = .ok (.sipush 256, 3) := by decide +kernel
theorem dX7_least_9 : decode cX7_least 9 = .ok (.if_icmp .ge 38, 3) := by decide +kernel
theorem dX7_least_12 : decode cX7_least 12 = .ok (.aload_n 0, 1) := by decide +kernel
theorem dX7_least_13 : decode cX7_least 13 = .ok (.getfield 74, 3) := by decide +kernel
theorem dX7_least_16 : decode cX7_least 16 = .ok (.sipush 256, 3) := by decide +kernel
theorem dX7_least_19 : decode cX7_least 19 = .ok (.iload_n 1, 1) := by decide +kernel
theorem dX7_least_20 : decode cX7_least 20 = .ok (.imul, 1) := by decide +kernel
theorem dX7_least_21 : decode cX7_least 21 = .ok (.iload_n 3, 1) := by decide +kernel
theorem dX7_least_22 : decode cX7_least 22 = .ok (.iadd, 1) := by decide +kernel
theorem dX7_least_23 : decode cX7_least 23 = .ok (.iaload, 1) := by decide +kernel
theorem dX7_least_24 : decode cX7_least 24 = .ok (.iload_n 2, 1) := by decide +kernel
theorem dX7_least_25 : decode cX7_least 25 = .ok (.if_icmp .ge 16, 3) := by decide +kernel
theorem dX7_least_28 : decode cX7_least 28 = .ok (.aload_n 0, 1) := by decide +kernel
theorem dX7_least_29 : decode cX7_least 29 = .ok (.getfield 74, 3) := by decide +kernel
theorem dX7_least_32 : decode cX7_least 32 = .ok (.sipush 256, 3) := by decide +kernel
theorem dX7_least_35 : decode cX7_least 35 = .ok (.iload_n 1, 1) := by decide +kernel
theorem dX7_least_36 : decode cX7_least 36 = .ok (.imul, 1) := by decide +kernel
theorem dX7_least_37 : decode cX7_least 37 = .ok (.iload_n 3, 1) := by decide +kernel
theorem dX7_least_38 : decode cX7_least 38 = .ok (.iadd, 1) := by decide +kernel
theorem dX7_least_39 : decode cX7_least 39 = .ok (.iaload, 1) := by decide +kernel
theorem dX7_least_40 : decode cX7_least 40 = .ok (.istore_n 2, 1) := by decide +kernel
theorem dX7_least_41 : decode cX7_least 41 = .ok (.iinc 3 1, 3) := by decide +kernel
theorem dX7_least_44 : decode cX7_least 44 = .ok (.goto (-39), 3) := by decide +kernel
theorem dX7_least_47 : decode cX7_least 47 = .ok (.iload_n 2, 1) := by decide +kernel
theorem dX7_least_48 : decode cX7_least 48 = .ok (.ireturn, 1) := by decide +kernel
theorem dX7_walk_0 : decode cX7_walk 0 = .ok (.iload_n 1, 1) := by decide +kernel
theorem dX7_walk_1 : decode cX7_walk 1 = .ok (.istore 6, 2) := by decide +kernel
theorem dX7_walk_3 : decode cX7_walk 3 = .ok (.iload 6, 2) := by decide +kernel
theorem dX7_walk_5 : decode cX7_walk 5 = .ok (.aload_n 0, 1) := by decide +kernel
theorem dX7_walk_6 : decode cX7_walk 6 = .ok (.getfield 121, 3) := by decide +kernel
theorem dX7_walk_9 : decode cX7_walk 9 = .ok (.if_icmp .ge 125, 3) := by decide +kernel
theorem dX7_walk_12 : decode cX7_walk 12 = .ok (.aload_n 0, 1) := by decide +kernel
theorem dX7_walk_13 : decode cX7_walk 13 = .ok (.getfield 68, 3) := by decide +kernel
theorem dX7_walk_16 : decode cX7_walk 16 = .ok (.iload 6, 2) := by decide +kernel
theorem dX7_walk_18 : decode cX7_walk 18 = .ok (.iaload, 1) := by decide +kernel
theorem dX7_walk_19 : decode cX7_walk 19 = .ok (.istore 7, 2) := by decide +kernel
theorem dX7_walk_21 : decode cX7_walk 21 = .ok (.aload_n 0, 1) := by decide +kernel
theorem dX7_walk_22 : decode cX7_walk 22 = .ok (.getfield 38, 3) := by decide +kernel
theorem dX7_walk_25 : decode cX7_walk 25 = .ok (.iload 7, 2) := by decide +kernel
theorem dX7_walk_27 : decode cX7_walk 27 = .ok (.iaload, 1) := by decide +kernel
theorem dX7_walk_28 : decode cX7_walk 28 = .ok (.ifCond .eq 100, 3) := by decide +kernel
theorem dX7_walk_31 : decode cX7_walk 31 = .ok (.iload 5, 2) := by decide +kernel
theorem dX7_walk_33 : decode cX7_walk 33 = .ok (.aload_n 0, 1) := by decide +kernel
theorem dX7_walk_34 : decode cX7_walk 34 = .ok (.getfield 32, 3) := by decide +kernel
theorem dX7_walk_37 : decode cX7_walk 37 = .ok (.iload 7, 2) := by decide +kernel
theorem dX7_walk_39 : decode cX7_walk 39 = .ok (.iaload, 1) := by decide +kernel
theorem dX7_walk_40 : decode cX7_walk 40 = .ok (.ishr, 1) := by decide +kernel
theorem dX7_walk_41 : decode cX7_walk 41 = .ok (.iconst 1, 1) := by decide +kernel
theorem dX7_walk_42 : decode cX7_walk 42 = .ok (.iand, 1) := by decide +kernel
theorem dX7_walk_43 : decode cX7_walk 43 = .ok (.iconst 1, 1) := by decide +kernel
theorem dX7_walk_44 : decode cX7_walk 44 = .ok (.if_icmp .eq 84, 3) := by decide +kernel
theorem dX7_walk_47 : decode cX7_walk 47 = .ok (.aload_n 0, 1) := by decide +kernel
theorem dX7_walk_48 : decode cX7_walk 48 = .ok (.iload 7, 2) := by decide +kernel
theorem dX7_walk_50 : decode cX7_walk 50 = .ok (.iload_n 3, 1) := by decide +kernel
theorem dX7_walk_51 : decode cX7_walk 51 = .ok (.invokevirtual 132, 3) := by decide +kernel
theorem dX7_walk_54 : decode cX7_walk 54 = .ok (.ifCond .ne 6, 3) := by decide +kernel
theorem dX7_walk_57 : decode cX7_walk 57 = .ok (.goto 71, 3) := by decide +kernel
theorem dX7_walk_60 : decode cX7_walk 60 = .ok (.aload_n 0, 1) := by decide +kernel
theorem dX7_walk_61 : decode cX7_walk 61 = .ok (.getfield 71, 3) := by decide +kernel
theorem dX7_walk_64 : decode cX7_walk 64 = .ok (.iload_n 2, 1) := by decide +kernel
theorem dX7_walk_65 : decode cX7_walk 65 = .ok (.iconst 1, 1) := by decide +kernel
theorem dX7_walk_66 : decode cX7_walk 66 = .ok (.iload 6, 2) := by decide +kernel
theorem dX7_walk_68 : decode cX7_walk 68 = .ok (.ishl, 1) := by decide +kernel
theorem dX7_walk_69 : decode cX7_walk 69 = .ok (.ior, 1) := by decide +kernel
theorem dX7_walk_70 : decode cX7_walk 70 = .ok (.iload 4, 2) := by decide +kernel
theorem dX7_walk_72 : decode cX7_walk 72 = .ok (.aload_n 0, 1) := by decide +kernel
theorem dX7_walk_73 : decode cX7_walk 73 = .ok (.getfield 35, 3) := by decide +kernel
theorem dX7_walk_76 : decode cX7_walk 76 = .ok (.iload 7, 2) := by decide +kernel
theorem dX7_walk_78 : decode cX7_walk 78 = .ok (.iaload, 1) := by decide +kernel
theorem dX7_walk_79 : decode cX7_walk 79 = .ok (.iadd, 1) := by decide +kernel
theorem dX7_walk_80 : decode cX7_walk 80 = .ok (.aload_n 0, 1) := by decide +kernel
theorem dX7_walk_81 : decode cX7_walk 81 = .ok (.iload_n 3, 1) := by decide +kernel
theorem dX7_walk_82 : decode cX7_walk 82 = .ok (.iconst 1, 1) := by decide +kernel
theorem dX7_walk_83 : decode cX7_walk 83 = .ok (.iadd, 1) := by decide +kernel
theorem dX7_walk_84 : decode cX7_walk 84 = .ok (.invokevirtual 135, 3) := by decide +kernel
theorem dX7_walk_87 : decode cX7_walk 87 = .ok (.isub, 1) := by decide +kernel
theorem dX7_walk_88 : decode cX7_walk 88 = .ok (.iastore, 1) := by decide +kernel
theorem dX7_walk_89 : decode cX7_walk 89 = .ok (.aload_n 0, 1) := by decide +kernel
theorem dX7_walk_90 : decode cX7_walk 90 = .ok (.iload 6, 2) := by decide +kernel
theorem dX7_walk_92 : decode cX7_walk 92 = .ok (.iconst 1, 1) := by decide +kernel
theorem dX7_walk_93 : decode cX7_walk 93 = .ok (.iadd, 1) := by decide +kernel
theorem dX7_walk_94 : decode cX7_walk 94 = .ok (.iload_n 2, 1) := by decide +kernel
theorem dX7_walk_95 : decode cX7_walk 95 = .ok (.iconst 1, 1) := by decide +kernel
theorem dX7_walk_96 : decode cX7_walk 96 = .ok (.iload 6, 2) := by decide +kernel
theorem dX7_walk_98 : decode cX7_walk 98 = .ok (.ishl, 1) := by decide +kernel
theorem dX7_walk_99 : decode cX7_walk 99 = .ok (.ior, 1) := by decide +kernel
theorem dX7_walk_100 : decode cX7_walk 100 = .ok (.iload_n 3, 1) := by decide +kernel
theorem dX7_walk_101 : decode cX7_walk 101 = .ok (.iconst 1, 1) := by decide +kernel
theorem dX7_walk_102 : decode cX7_walk 102 = .ok (.iadd, 1) := by decide +kernel
theorem dX7_walk_103 : decode cX7_walk 103 = .ok (.iload 4, 2) := by decide +kernel
theorem dX7_walk_105 : decode cX7_walk 105 = .ok (.aload_n 0, 1) := by decide +kernel
theorem dX7_walk_106 : decode cX7_walk 106 = .ok (.getfield 35, 3) := by decide +kernel
theorem dX7_walk_109 : decode cX7_walk 109 = .ok (.iload 7, 2) := by decide +kernel
theorem dX7_walk_111 : decode cX7_walk 111 = .ok (.iaload, 1) := by decide +kernel
theorem dX7_walk_112 : decode cX7_walk 112 = .ok (.iadd, 1) := by decide +kernel
theorem dX7_walk_113 : decode cX7_walk 113 = .ok (.iload 5, 2) := by decide +kernel
theorem dX7_walk_115 : decode cX7_walk 115 = .ok (.iconst 1, 1) := by decide +kernel
theorem dX7_walk_116 : decode cX7_walk 116 = .ok (.aload_n 0, 1) := by decide +kernel
theorem dX7_walk_117 : decode cX7_walk 117 = .ok (.getfield 32, 3) := by decide +kernel
theorem dX7_walk_120 : decode cX7_walk 120 = .ok (.iload 7, 2) := by decide +kernel
theorem dX7_walk_122 : decode cX7_walk 122 = .ok (.iaload, 1) := by decide +kernel
theorem dX7_walk_123 : decode cX7_walk 123 = .ok (.ishl, 1) := by decide +kernel
theorem dX7_walk_124 : decode cX7_walk 124 = .ok (.ior, 1) := by decide +kernel
theorem dX7_walk_125 : decode cX7_walk 125 = .ok (.invokevirtual 138, 3) := by decide +kernel
theorem dX7_walk_128 : decode cX7_walk 128 = .ok (.iinc 6 1, 3) := by decide +kernel
theorem dX7_walk_131 : decode cX7_walk 131 = .ok (.goto (-128), 3) := by decide +kernel
theorem dX7_walk_134 : decode cX7_walk 134 = .ok (.return_, 1) := by decide +kernel
theorem dX7_all_0 : decode cX7_all 0 = .ok (.aload_n 0, 1) := by decide +kernel
theorem dX7_all_1 : decode cX7_all 1 = .ok (.invokevirtual 142, 3) := by decide +kernel
theorem dX7_all_4 : decode cX7_all 4 = .ok (.iconst 0, 1) := by decide +kernel
theorem dX7_all_5 : decode cX7_all 5 = .ok (.istore_n 1, 1) := by decide +kernel
theorem dX7_all_6 : decode cX7_all 6 = .ok (.iload_n 1, 1) := by decide +kernel
theorem dX7_all_7 : decode cX7_all 7 = .ok (.sipush 256, 3) := by decide +kernel
theorem dX7_all_10 : decode cX7_all 10 = .ok (.if_icmp .ge 25, 3) := by decide +kernel
theorem dX7_all_13 : decode cX7_all 13 = .ok (.aload_n 0, 1) := by decide +kernel
theorem dX7_all_14 : decode cX7_all 14 = .ok (.getfield 71, 3) := by decide +kernel
theorem dX7_all_17 : decode cX7_all 17 = .ok (.iload_n 1, 1) := by decide +kernel
theorem dX7_all_18 : decode cX7_all 18 = .ok (.ldc 145, 2) := by decide +kernel
theorem dX7_all_20 : decode cX7_all 20 = .ok (.iastore, 1) := by decide +kernel
theorem dX7_all_21 : decode cX7_all 21 = .ok (.aload_n 0, 1) := by decide +kernel
theorem dX7_all_22 : decode cX7_all 22 = .ok (.getfield 74, 3) := by decide +kernel
theorem dX7_all_25 : decode cX7_all 25 = .ok (.iload_n 1, 1) := by decide +kernel
theorem dX7_all_26 : decode cX7_all 26 = .ok (.ldc 127, 2) := by decide +kernel
theorem dX7_all_28 : decode cX7_all 28 = .ok (.iastore, 1) := by decide +kernel
theorem dX7_all_29 : decode cX7_all 29 = .ok (.iinc 1 1, 3) := by decide +kernel
theorem dX7_all_32 : decode cX7_all 32 = .ok (.goto (-26), 3) := by decide +kernel
end
section
theorem dX7_all_35 : decode cX7_all 35 = .ok (.aload_n 0, 1) := by decide +kernel
theorem dX7_all_36 : decode cX7_all 36 = .ok (.getfield 71, 3) := by decide +kernel
theorem dX7_all_39 : decode cX7_all 39 = .ok (.iconst 0, 1) := by decide +kernel
theorem dX7_all_40 : decode cX7_all 40 = .ok (.iconst 0, 1) := by decide +kernel
theorem dX7_all_41 : decode cX7_all 41 = .ok (.iastore, 1) := by decide +kernel
theorem dX7_all_42 : decode cX7_all 42 = .ok (.aload_n 0, 1) := by decide +kernel
theorem dX7_all_43 : decode cX7_all 43 = .ok (.getfield 74, 3) := by decide +kernel
theorem dX7_all_46 : decode cX7_all 46 = .ok (.iconst 0, 1) := by decide +kernel
theorem dX7_all_47 : decode cX7_all 47 = .ok (.iconst 0, 1) := by decide +kernel
theorem dX7_all_48 : decode cX7_all 48 = .ok (.iastore, 1) := by decide +kernel
theorem dX7_all_49 : decode cX7_all 49 = .ok (.aload_n 0, 1) := by decide +kernel
theorem dX7_all_50 : decode cX7_all 50 = .ok (.iconst 0, 1) := by decide +kernel
theorem dX7_all_51 : decode cX7_all 51 = .ok (.iconst 0, 1) := by decide +kernel
theorem dX7_all_52 : decode cX7_all 52 = .ok (.iconst 0, 1) := by decide +kernel
theorem dX7_all_53 : decode cX7_all 53 = .ok (.iconst 0, 1) := by decide +kernel
theorem dX7_all_54 : decode cX7_all 54 = .ok (.iconst 0, 1) := by decide +kernel
theorem dX7_all_55 : decode cX7_all 55 = .ok (.invokevirtual 138, 3) := by decide +kernel
theorem dX7_all_58 : decode cX7_all 58 = .ok (.return_, 1) := by decide +kernel
theorem dX7_isAhead_0 : decode cX7_isAhead 0 = .ok (.iload_n 0, 1) := by decide +kernel
theorem dX7_isAhead_1 : decode cX7_isAhead 1 = .ok (.iload_n 1, 1) := by decide +kernel
theorem dX7_isAhead_2 : decode cX7_isAhead 2 = .ok (.ixor, 1) := by decide +kernel
theorem dX7_isAhead_3 : decode cX7_isAhead 3 = .ok (.istore_n 2, 1) := by decide +kernel
theorem dX7_isAhead_4 : decode cX7_isAhead 4 = .ok (.iload_n 0, 1) := by decide +kernel
theorem dX7_isAhead_5 : decode cX7_isAhead 5 = .ok (.iload_n 2, 1) := by decide +kernel
theorem dX7_isAhead_6 : decode cX7_isAhead 6 = .ok (.iload_n 2, 1) := by decide +kernel
theorem dX7_isAhead_7 : decode cX7_isAhead 7 = .ok (.ineg, 1) := by decide +kernel
theorem dX7_isAhead_8 : decode cX7_isAhead 8 = .ok (.iand, 1) := by decide +kernel
theorem dX7_isAhead_9 : decode cX7_isAhead 9 = .ok (.iand, 1) := by decide +kernel
theorem dX7_isAhead_10 : decode cX7_isAhead 10 = .ok (.ifCond .eq 7, 3) := by decide +kernel
theorem dX7_isAhead_13 : decode cX7_isAhead 13 = .ok (.iconst 1, 1) := by decide +kernel
theorem dX7_isAhead_14 : decode cX7_isAhead 14 = .ok (.goto 4, 3) := by decide +kernel
theorem dX7_isAhead_17 : decode cX7_isAhead 17 = .ok (.iconst 0, 1) := by decide +kernel
theorem dX7_isAhead_18 : decode cX7_isAhead 18 = .ok (.ireturn, 1) := by decide +kernel
theorem dX7_best_0 : decode cX7_best 0 = .ok (.iconst 0, 1) := by decide +kernel
theorem dX7_best_1 : decode cX7_best 1 = .ok (.istore_n 2, 1) := by decide +kernel
theorem dX7_best_2 : decode cX7_best 2 = .ok (.iconst 1, 1) := by decide +kernel
theorem dX7_best_3 : decode cX7_best 3 = .ok (.istore_n 3, 1) := by decide +kernel
theorem dX7_best_4 : decode cX7_best 4 = .ok (.iload_n 3, 1) := by decide +kernel
theorem dX7_best_5 : decode cX7_best 5 = .ok (.sipush 256, 3) := by decide +kernel
theorem dX7_best_8 : decode cX7_best 8 = .ok (.if_icmp .ge 107, 3) := by decide +kernel
theorem dX7_best_11 : decode cX7_best 11 = .ok (.aload_n 0, 1) := by decide +kernel
theorem dX7_best_12 : decode cX7_best 12 = .ok (.getfield 71, 3) := by decide +kernel
theorem dX7_best_15 : decode cX7_best 15 = .ok (.iload_n 3, 1) := by decide +kernel
theorem dX7_best_16 : decode cX7_best 16 = .ok (.iaload, 1) := by decide +kernel
theorem dX7_best_17 : decode cX7_best 17 = .ok (.aload_n 0, 1) := by decide +kernel
theorem dX7_best_18 : decode cX7_best 18 = .ok (.getfield 71, 3) := by decide +kernel
theorem dX7_best_21 : decode cX7_best 21 = .ok (.iload_n 2, 1) := by decide +kernel
theorem dX7_best_22 : decode cX7_best 22 = .ok (.iaload, 1) := by decide +kernel
theorem dX7_best_23 : decode cX7_best 23 = .ok (.if_icmp .lt 86, 3) := by decide +kernel
theorem dX7_best_26 : decode cX7_best 26 = .ok (.aload_n 0, 1) := by decide +kernel
theorem dX7_best_27 : decode cX7_best 27 = .ok (.getfield 71, 3) := by decide +kernel
theorem dX7_best_30 : decode cX7_best 30 = .ok (.iload_n 3, 1) := by decide +kernel
theorem dX7_best_31 : decode cX7_best 31 = .ok (.iaload, 1) := by decide +kernel
theorem dX7_best_32 : decode cX7_best 32 = .ok (.aload_n 0, 1) := by decide +kernel
theorem dX7_best_33 : decode cX7_best 33 = .ok (.getfield 71, 3) := by decide +kernel
theorem dX7_best_36 : decode cX7_best 36 = .ok (.iload_n 2, 1) := by decide +kernel
theorem dX7_best_37 : decode cX7_best 37 = .ok (.iaload, 1) := by decide +kernel
theorem dX7_best_38 : decode cX7_best 38 = .ok (.if_icmp .ne 14, 3) := by decide +kernel
theorem dX7_best_41 : decode cX7_best 41 = .ok (.iload_n 3, 1) := by decide +kernel
theorem dX7_best_42 : decode cX7_best 42 = .ok (.iload_n 2, 1) := by decide +kernel
theorem dX7_best_43 : decode cX7_best 43 = .ok (.invokestatic 146, 3) := by decide +kernel
theorem dX7_best_46 : decode cX7_best 46 = .ok (.ifCond .ne 6, 3) := by decide +kernel
theorem dX7_best_49 : decode cX7_best 49 = .ok (.goto 60, 3) := by decide +kernel
theorem dX7_best_52 : decode cX7_best 52 = .ok (.iconst 0, 1) := by decide +kernel
theorem dX7_best_53 : decode cX7_best 53 = .ok (.istore 4, 2) := by decide +kernel
theorem dX7_best_55 : decode cX7_best 55 = .ok (.iconst 0, 1) := by decide +kernel
theorem dX7_best_56 : decode cX7_best 56 = .ok (.istore 5, 2) := by decide +kernel
theorem dX7_best_58 : decode cX7_best 58 = .ok (.iload 5, 2) := by decide +kernel
theorem dX7_best_60 : decode cX7_best 60 = .ok (.aload_n 0, 1) := by decide +kernel
theorem dX7_best_61 : decode cX7_best 61 = .ok (.getfield 121, 3) := by decide +kernel
theorem dX7_best_64 : decode cX7_best 64 = .ok (.if_icmp .ge 38, 3) := by decide +kernel
theorem dX7_best_67 : decode cX7_best 67 = .ok (.iload_n 3, 1) := by decide +kernel
theorem dX7_best_68 : decode cX7_best 68 = .ok (.iload 5, 2) := by decide +kernel
theorem dX7_best_70 : decode cX7_best 70 = .ok (.ishr, 1) := by decide +kernel
theorem dX7_best_71 : decode cX7_best 71 = .ok (.iconst 1, 1) := by decide +kernel
theorem dX7_best_72 : decode cX7_best 72 = .ok (.iand, 1) := by decide +kernel
theorem dX7_best_73 : decode cX7_best 73 = .ok (.iconst 1, 1) := by decide +kernel
theorem dX7_best_74 : decode cX7_best 74 = .ok (.if_icmp .ne 22, 3) := by decide +kernel
theorem dX7_best_77 : decode cX7_best 77 = .ok (.aload_n 0, 1) := by decide +kernel
theorem dX7_best_78 : decode cX7_best 78 = .ok (.getfield 32, 3) := by decide +kernel
theorem dX7_best_81 : decode cX7_best 81 = .ok (.aload_n 0, 1) := by decide +kernel
theorem dX7_best_82 : decode cX7_best 82 = .ok (.getfield 68, 3) := by decide +kernel
theorem dX7_best_85 : decode cX7_best 85 = .ok (.iload 5, 2) := by decide +kernel
theorem dX7_best_87 : decode cX7_best 87 = .ok (.iaload, 1) := by decide +kernel
theorem dX7_best_88 : decode cX7_best 88 = .ok (.iaload, 1) := by decide +kernel
theorem dX7_best_89 : decode cX7_best 89 = .ok (.iload_n 1, 1) := by decide +kernel
theorem dX7_best_90 : decode cX7_best 90 = .ok (.if_icmp .ne 6, 3) := by decide +kernel
theorem dX7_best_93 : decode cX7_best 93 = .ok (.iconst 1, 1) := by decide +kernel
theorem dX7_best_94 : decode cX7_best 94 = .ok (.istore 4, 2) := by decide +kernel
theorem dX7_best_96 : decode cX7_best 96 = .ok (.iinc 5 1, 3) := by decide +kernel
theorem dX7_best_99 : decode cX7_best 99 = .ok (.goto (-41), 3) := by decide +kernel
theorem dX7_best_102 : decode cX7_best 102 = .ok (.iload 4, 2) := by decide +kernel
theorem dX7_best_104 : decode cX7_best 104 = .ok (.ifCond .ne 5, 3) := by decide +kernel
theorem dX7_best_107 : decode cX7_best 107 = .ok (.iload_n 3, 1) := by decide +kernel
theorem dX7_best_108 : decode cX7_best 108 = .ok (.istore_n 2, 1) := by decide +kernel
theorem dX7_best_109 : decode cX7_best 109 = .ok (.iinc 3 1, 3) := by decide +kernel
theorem dX7_best_112 : decode cX7_best 112 = .ok (.goto (-108), 3) := by decide +kernel
theorem dX7_best_115 : decode cX7_best 115 = .ok (.iload_n 2, 1) := by decide +kernel
theorem dX7_best_116 : decode cX7_best 116 = .ok (.ireturn, 1) := by decide +kernel
theorem dX7_pays_0 : decode cX7_pays 0 = .ok (.aload_n 0, 1) := by decide +kernel
theorem dX7_pays_1 : decode cX7_pays 1 = .ok (.getfield 35, 3) := by decide +kernel
theorem dX7_pays_4 : decode cX7_pays 4 = .ok (.iload_n 2, 1) := by decide +kernel
theorem dX7_pays_5 : decode cX7_pays 5 = .ok (.iaload, 1) := by decide +kernel
theorem dX7_pays_6 : decode cX7_pays 6 = .ok (.aload_n 0, 1) := by decide +kernel
theorem dX7_pays_7 : decode cX7_pays 7 = .ok (.getfield 71, 3) := by decide +kernel
theorem dX7_pays_10 : decode cX7_pays 10 = .ok (.iload_n 1, 1) := by decide +kernel
theorem dX7_pays_11 : decode cX7_pays 11 = .ok (.iaload, 1) := by decide +kernel
theorem dX7_pays_12 : decode cX7_pays 12 = .ok (.isub, 1) := by decide +kernel
theorem dX7_pays_13 : decode cX7_pays 13 = .ok (.aload_n 0, 1) := by decide +kernel
theorem dX7_pays_14 : decode cX7_pays 14 = .ok (.getfield 71, 3) := by decide +kernel
theorem dX7_pays_17 : decode cX7_pays 17 = .ok (.aload_n 0, 1) := by decide +kernel
theorem dX7_pays_18 : decode cX7_pays 18 = .ok (.aload_n 0, 1) := by decide +kernel
theorem dX7_pays_19 : decode cX7_pays 19 = .ok (.getfield 32, 3) := by decide +kernel
theorem dX7_pays_22 : decode cX7_pays 22 = .ok (.iload_n 2, 1) := by decide +kernel
theorem dX7_pays_23 : decode cX7_pays 23 = .ok (.iaload, 1) := by decide +kernel
theorem dX7_pays_24 : decode cX7_pays 24 = .ok (.invokevirtual 149, 3) := by decide +kernel
theorem dX7_pays_27 : decode cX7_pays 27 = .ok (.iaload, 1) := by decide +kernel
theorem dX7_pays_28 : decode cX7_pays 28 = .ok (.iadd, 1) := by decide +kernel
theorem dX7_pays_29 : decode cX7_pays 29 = .ok (.ireturn, 1) := by decide +kernel
theorem dX7_isInSet_0 : decode cX7_isInSet 0 = .ok (.iconst 0, 1) := by decide +kernel
theorem dX7_isInSet_1 : decode cX7_isInSet 1 = .ok (.istore_n 3, 1) := by decide +kernel
theorem dX7_isInSet_2 : decode cX7_isInSet 2 = .ok (.iload_n 3, 1) := by decide +kernel
theorem dX7_isInSet_3 : decode cX7_isInSet 3 = .ok (.aload_n 0, 1) := by decide +kernel
theorem dX7_isInSet_4 : decode cX7_isInSet 4 = .ok (.getfield 121, 3) := by decide +kernel
theorem dX7_isInSet_7 : decode cX7_isInSet 7 = .ok (.if_icmp .ge 34, 3) := by decide +kernel
theorem dX7_isInSet_10 : decode cX7_isInSet 10 = .ok (.aload_n 0, 1) := by decide +kernel
theorem dX7_isInSet_11 : decode cX7_isInSet 11 = .ok (.getfield 68, 3) := by decide +kernel
theorem dX7_isInSet_14 : decode cX7_isInSet 14 = .ok (.iload_n 3, 1) := by decide +kernel
theorem dX7_isInSet_15 : decode cX7_isInSet 15 = .ok (.iaload, 1) := by decide +kernel
theorem dX7_isInSet_16 : decode cX7_isInSet 16 = .ok (.iload_n 2, 1) := by decide +kernel
theorem dX7_isInSet_17 : decode cX7_isInSet 17 = .ok (.if_icmp .ne 18, 3) := by decide +kernel
theorem dX7_isInSet_20 : decode cX7_isInSet 20 = .ok (.iload_n 1, 1) := by decide +kernel
theorem dX7_isInSet_21 : decode cX7_isInSet 21 = .ok (.iload_n 3, 1) := by decide +kernel
theorem dX7_isInSet_22 : decode cX7_isInSet 22 = .ok (.ishr, 1) := by decide +kernel
theorem dX7_isInSet_23 : decode cX7_isInSet 23 = .ok (.iconst 1, 1) := by decide +kernel
theorem dX7_isInSet_24 : decode cX7_isInSet 24 = .ok (.iand, 1) := by decide +kernel
theorem dX7_isInSet_25 : decode cX7_isInSet 25 = .ok (.iconst 1, 1) := by decide +kernel
theorem dX7_isInSet_26 : decode cX7_isInSet 26 = .ok (.if_icmp .ne 7, 3) := by decide +kernel
theorem dX7_isInSet_29 : decode cX7_isInSet 29 = .ok (.iconst 1, 1) := by decide +kernel
theorem dX7_isInSet_30 : decode cX7_isInSet 30 = .ok (.goto 4, 3) := by decide +kernel
theorem dX7_isInSet_33 : decode cX7_isInSet 33 = .ok (.iconst 0, 1) := by decide +kernel
theorem dX7_isInSet_34 : decode cX7_isInSet 34 = .ok (.ireturn, 1) := by decide +kernel
theorem dX7_isInSet_35 : decode cX7_isInSet 35 = .ok (.iinc 3 1, 3) := by decide +kernel
theorem dX7_isInSet_38 : decode cX7_isInSet 38 = .ok (.goto (-36), 3) := by decide +kernel
theorem dX7_isInSet_41 : decode cX7_isInSet 41 = .ok (.iconst 0, 1) := by decide +kernel
theorem dX7_isInSet_42 : decode cX7_isInSet 42 = .ok (.ireturn, 1) := by decide +kernel
theorem dX7_gives_0 : decode cX7_gives 0 = .ok (.iconst 0, 1) := by decide +kernel
theorem dX7_gives_1 : decode cX7_gives 1 = .ok (.istore_n 2, 1) := by decide +kernel
theorem dX7_gives_2 : decode cX7_gives 2 = .ok (.iconst 0, 1) := by decide +kernel
theorem dX7_gives_3 : decode cX7_gives 3 = .ok (.istore_n 3, 1) := by decide +kernel
theorem dX7_gives_4 : decode cX7_gives 4 = .ok (.iload_n 3, 1) := by decide +kernel
theorem dX7_gives_5 : decode cX7_gives 5 = .ok (.aload_n 0, 1) := by decide +kernel
theorem dX7_gives_6 : decode cX7_gives 6 = .ok (.getfield 121, 3) := by decide +kernel
theorem dX7_gives_9 : decode cX7_gives 9 = .ok (.if_icmp .ge 63, 3) := by decide +kernel
theorem dX7_gives_12 : decode cX7_gives 12 = .ok (.iload_n 1, 1) := by decide +kernel
theorem dX7_gives_13 : decode cX7_gives 13 = .ok (.iload_n 3, 1) := by decide +kernel
theorem dX7_gives_14 : decode cX7_gives 14 = .ok (.ishr, 1) := by decide +kernel
theorem dX7_gives_15 : decode cX7_gives 15 = .ok (.iconst 1, 1) := by decide +kernel
theorem dX7_gives_16 : decode cX7_gives 16 = .ok (.iand, 1) := by decide +kernel
theorem dX7_gives_17 : decode cX7_gives 17 = .ok (.iconst 1, 1) := by decide +kernel
theorem dX7_gives_18 : decode cX7_gives 18 = .ok (.if_icmp .ne 48, 3) := by decide +kernel
theorem dX7_gives_21 : decode cX7_gives 21 = .ok (.iconst 0, 1) := by decide +kernel
theorem dX7_gives_22 : decode cX7_gives 22 = .ok (.istore 4, 2) := by decide +kernel
theorem dX7_gives_24 : decode cX7_gives 24 = .ok (.iload 4, 2) := by decide +kernel
theorem dX7_gives_26 : decode cX7_gives 26 = .ok (.aload_n 0, 1) := by decide +kernel
theorem dX7_gives_27 : decode cX7_gives 27 = .ok (.getfield 38, 3) := by decide +kernel
theorem dX7_gives_30 : decode cX7_gives 30 = .ok (.aload_n 0, 1) := by decide +kernel
theorem dX7_gives_31 : decode cX7_gives 31 = .ok (.getfield 68, 3) := by decide +kernel
theorem dX7_gives_34 : decode cX7_gives 34 = .ok (.iload_n 3, 1) := by decide +kernel
theorem dX7_gives_35 : decode cX7_gives 35 = .ok (.iaload, 1) := by decide +kernel
theorem dX7_gives_36 : decode cX7_gives 36 = .ok (.iaload, 1) := by decide +kernel
theorem dX7_gives_37 : decode cX7_gives 37 = .ok (.if_icmp .ge 29, 3) := by decide +kernel
theorem dX7_gives_40 : decode cX7_gives 40 = .ok (.aload_n 0, 1) := by decide +kernel
theorem dX7_gives_41 : decode cX7_gives 41 = .ok (.getfield 83, 3) := by decide +kernel
theorem dX7_gives_44 : decode cX7_gives 44 = .ok (.iload_n 2, 1) := by decide +kernel
theorem dX7_gives_45 : decode cX7_gives 45 = .ok (.iinc 2 1, 3) := by decide +kernel
theorem dX7_gives_48 : decode cX7_gives 48 = .ok (.iconst 3, 1) := by decide +kernel
theorem dX7_gives_49 : decode cX7_gives 49 = .ok (.aload_n 0, 1) := by decide +kernel
theorem dX7_gives_50 : decode cX7_gives 50 = .ok (.getfield 68, 3) := by decide +kernel
theorem dX7_gives_53 : decode cX7_gives 53 = .ok (.iload_n 3, 1) := by decide +kernel
theorem dX7_gives_54 : decode cX7_gives 54 = .ok (.iaload, 1) := by decide +kernel
theorem dX7_gives_55 : decode cX7_gives 55 = .ok (.imul, 1) := by decide +kernel
theorem dX7_gives_56 : decode cX7_gives 56 = .ok (.iload 4, 2) := by decide +kernel
theorem dX7_gives_58 : decode cX7_gives 58 = .ok (.iadd, 1) := by decide +kernel
theorem dX7_gives_59 : decode cX7_gives 59 = .ok (.iastore, 1) := by decide +kernel
theorem dX7_gives_60 : decode cX7_gives 60 = .ok (.iinc 4 1, 3) := by decide +kernel
theorem dX7_gives_63 : decode cX7_gives 63 = .ok (.goto (-39), 3) := by decide +kernel
theorem dX7_gives_66 : decode cX7_gives 66 = .ok (.iinc 3 1, 3) := by decide +kernel
theorem dX7_gives_69 : decode cX7_gives 69 = .ok (.goto (-65), 3) := by decide +kernel
theorem dX7_gives_72 : decode cX7_gives 72 = .ok (.iconst 0, 1) := by decide +kernel
theorem dX7_gives_73 : decode cX7_gives 73 = .ok (.istore_n 3, 1) := by decide +kernel
theorem dX7_gives_74 : decode cX7_gives 74 = .ok (.iload_n 3, 1) := by decide +kernel
theorem dX7_gives_75 : decode cX7_gives 75 = .ok (.sipush 256, 3) := by decide +kernel
theorem dX7_gives_78 : decode cX7_gives 78 = .ok (.if_icmp .ge 22, 3) := by decide +kernel
theorem dX7_gives_81 : decode cX7_gives 81 = .ok (.aload_n 0, 1) := by decide +kernel
theorem dX7_gives_82 : decode cX7_gives 82 = .ok (.getfield 80, 3) := by decide +kernel
theorem dX7_gives_85 : decode cX7_gives 85 = .ok (.sipush 256, 3) := by decide +kernel
theorem dX7_gives_88 : decode cX7_gives 88 = .ok (.iload_n 2, 1) := by decide +kernel
theorem dX7_gives_89 : decode cX7_gives 89 = .ok (.imul, 1) := by decide +kernel
theorem dX7_gives_90 : decode cX7_gives 90 = .ok (.iload_n 3, 1) := by decide +kernel
theorem dX7_gives_91 : decode cX7_gives 91 = .ok (.iadd, 1) := by decide +kernel
theorem dX7_gives_92 : decode cX7_gives 92 = .ok (.iconst 0, 1) := by decide +kernel
theorem dX7_gives_93 : decode cX7_gives 93 = .ok (.iastore, 1) := by decide +kernel
theorem dX7_gives_94 : decode cX7_gives 94 = .ok (.iinc 3 1, 3) := by decide +kernel
theorem dX7_gives_97 : decode cX7_gives 97 = .ok (.goto (-23), 3) := by decide +kernel
theorem dX7_gives_100 : decode cX7_gives 100 = .ok (.iload_n 2, 1) := by decide +kernel
theorem dX7_gives_101 : decode cX7_gives 101 = .ok (.iconst 1, 1) := by decide +kernel
theorem dX7_gives_102 : decode cX7_gives 102 = .ok (.isub, 1) := by decide +kernel
theorem dX7_gives_103 : decode cX7_gives 103 = .ok (.istore_n 3, 1) := by decide +kernel
theorem dX7_gives_104 : decode cX7_gives 104 = .ok (.iload_n 3, 1) := by decide +kernel
theorem dX7_gives_105 : decode cX7_gives 105 = .ok (.ifCond .lt 143, 3) := by decide +kernel
theorem dX7_gives_108 : decode cX7_gives 108 = .ok (.iconst 0, 1) := by decide +kernel
theorem dX7_gives_109 : decode cX7_gives 109 = .ok (.istore 4, 2) := by decide +kernel
theorem dX7_gives_111 : decode cX7_gives 111 = .ok (.iload 4, 2) := by decide +kernel
theorem dX7_gives_113 : decode cX7_gives 113 = .ok (.sipush 256, 3) := by decide +kernel
theorem dX7_gives_116 : decode cX7_gives 116 = .ok (.if_icmp .ge 126, 3) := by decide +kernel
theorem dX7_gives_119 : decode cX7_gives 119 = .ok (.ldc 127, 2) := by decide +kernel
theorem dX7_gives_121 : decode cX7_gives 121 = .ok (.istore 5, 2) := by decide +kernel
theorem dX7_gives_123 : decode cX7_gives 123 = .ok (.iconst 0, 1) := by decide +kernel
theorem dX7_gives_124 : decode cX7_gives 124 = .ok (.istore 6, 2) := by decide +kernel
theorem dX7_gives_126 : decode cX7_gives 126 = .ok (.iload 6, 2) := by decide +kernel
theorem dX7_gives_128 : decode cX7_gives 128 = .ok (.aload_n 0, 1) := by decide +kernel
theorem dX7_gives_129 : decode cX7_gives 129 = .ok (.getfield 111, 3) := by decide +kernel
theorem dX7_gives_132 : decode cX7_gives 132 = .ok (.if_icmp .ge 89, 3) := by decide +kernel
theorem dX7_gives_135 : decode cX7_gives 135 = .ok (.iload 4, 2) := by decide +kernel
theorem dX7_gives_137 : decode cX7_gives 137 = .ok (.iload 6, 2) := by decide +kernel
theorem dX7_gives_139 : decode cX7_gives 139 = .ok (.ishr, 1) := by decide +kernel
theorem dX7_gives_140 : decode cX7_gives 140 = .ok (.iconst 1, 1) := by decide +kernel
theorem dX7_gives_141 : decode cX7_gives 141 = .ok (.iand, 1) := by decide +kernel
theorem dX7_gives_142 : decode cX7_gives 142 = .ok (.iconst 1, 1) := by decide +kernel
theorem dX7_gives_143 : decode cX7_gives 143 = .ok (.if_icmp .eq 72, 3) := by decide +kernel
theorem dX7_gives_146 : decode cX7_gives 146 = .ok (.aload_n 0, 1) := by decide +kernel
theorem dX7_gives_147 : decode cX7_gives 147 = .ok (.aload_n 0, 1) := by decide +kernel
theorem dX7_gives_148 : decode cX7_gives 148 = .ok (.getfield 65, 3) := by decide +kernel
theorem dX7_gives_151 : decode cX7_gives 151 = .ok (.iload 6, 2) := by decide +kernel
theorem dX7_gives_153 : decode cX7_gives 153 = .ok (.iaload, 1) := by decide +kernel
theorem dX7_gives_154 : decode cX7_gives 154 = .ok (.aload_n 0, 1) := by decide +kernel
theorem dX7_gives_155 : decode cX7_gives 155 = .ok (.getfield 83, 3) := by decide +kernel
theorem dX7_gives_158 : decode cX7_gives 158 = .ok (.iload_n 3, 1) := by decide +kernel
theorem dX7_gives_159 : decode cX7_gives 159 = .ok (.iaload, 1) := by decide +kernel
theorem dX7_gives_160 : decode cX7_gives 160 = .ok (.invokevirtual 128, 3) := by decide +kernel
theorem dX7_gives_163 : decode cX7_gives 163 = .ok (.ifCond .ne 6, 3) := by decide +kernel
theorem dX7_gives_166 : decode cX7_gives 166 = .ok (.goto 49, 3) := by decide +kernel
theorem dX7_gives_169 : decode cX7_gives 169 = .ok (.aload_n 0, 1) := by decide +kernel
theorem dX7_gives_170 : decode cX7_gives 170 = .ok (.getfield 16, 3) := by decide +kernel
theorem dX7_gives_173 : decode cX7_gives 173 = .ok (.aload_n 0, 1) := by decide +kernel
theorem dX7_gives_174 : decode cX7_gives 174 = .ok (.getfield 65, 3) := by decide +kernel
theorem dX7_gives_177 : decode cX7_gives 177 = .ok (.iload 6, 2) := by decide +kernel
theorem dX7_gives_179 : decode cX7_gives 179 = .ok (.iaload, 1) := by decide +kernel
theorem dX7_gives_180 : decode cX7_gives 180 = .ok (.iaload, 1) := by decide +kernel
theorem dX7_gives_181 : decode cX7_gives 181 = .ok (.aload_n 0, 1) := by decide +kernel
theorem dX7_gives_182 : decode cX7_gives 182 = .ok (.getfield 80, 3) := by decide +kernel
theorem dX7_gives_185 : decode cX7_gives 185 = .ok (.sipush 256, 3) := by decide +kernel
theorem dX7_gives_188 : decode cX7_gives 188 = .ok (.iload_n 3, 1) := by decide +kernel
theorem dX7_gives_189 : decode cX7_gives 189 = .ok (.iconst 1, 1) := by decide +kernel
theorem dX7_gives_190 : decode cX7_gives 190 = .ok (.iadd, 1) := by decide +kernel
theorem dX7_gives_191 : decode cX7_gives 191 = .ok (.imul, 1) := by decide +kernel
theorem dX7_gives_192 : decode cX7_gives 192 = .ok (.iload 4, 2) := by decide +kernel
theorem dX7_gives_194 : decode cX7_gives 194 = .ok (.iconst 1, 1) := by decide +kernel
theorem dX7_gives_195 : decode cX7_gives 195 = .ok (.iload 6, 2) := by decide +kernel
theorem dX7_gives_197 : decode cX7_gives 197 = .ok (.ishl, 1) := by decide +kernel
theorem dX7_gives_198 : decode cX7_gives 198 = .ok (.ior, 1) := by decide +kernel
theorem dX7_gives_199 : decode cX7_gives 199 = .ok (.iadd, 1) := by decide +kernel
theorem dX7_gives_200 : decode cX7_gives 200 = .ok (.iaload, 1) := by decide +kernel
theorem dX7_gives_201 : decode cX7_gives 201 = .ok (.iadd, 1) := by decide +kernel
theorem dX7_gives_202 : decode cX7_gives 202 = .ok (.istore 7, 2) := by decide +kernel
theorem dX7_gives_204 : decode cX7_gives 204 = .ok (.iload 7, 2) := by decide +kernel
theorem dX7_gives_206 : decode cX7_gives 206 = .ok (.iload 5, 2) := by decide +kernel
theorem dX7_gives_208 : decode cX7_gives 208 = .ok (.if_icmp .ge 7, 3) := by decide +kernel
theorem dX7_gives_211 : decode cX7_gives 211 = .ok (.iload 7, 2) := by decide +kernel
theorem dX7_gives_213 : decode cX7_gives 213 = .ok (.istore 5, 2) := by decide +kernel
theorem dX7_gives_215 : decode cX7_gives 215 = .ok (.iinc 6 1, 3) := by decide +kernel
theorem dX7_gives_218 : decode cX7_gives 218 = .ok (.goto (-92), 3) := by decide +kernel
theorem dX7_gives_221 : decode cX7_gives 221 = .ok (.aload_n 0, 1) := by decide +kernel
theorem dX7_gives_222 : decode cX7_gives 222 = .ok (.getfield 80, 3) := by decide +kernel
theorem dX7_gives_225 : decode cX7_gives 225 = .ok (.sipush 256, 3) := by decide +kernel
theorem dX7_gives_228 : decode cX7_gives 228 = .ok (.iload_n 3, 1) := by decide +kernel
theorem dX7_gives_229 : decode cX7_gives 229 = .ok (.imul, 1) := by decide +kernel
theorem dX7_gives_230 : decode cX7_gives 230 = .ok (.iload 4, 2) := by decide +kernel
theorem dX7_gives_232 : decode cX7_gives 232 = .ok (.iadd, 1) := by decide +kernel
theorem dX7_gives_233 : decode cX7_gives 233 = .ok (.iload 5, 2) := by decide +kernel
theorem dX7_gives_235 : decode cX7_gives 235 = .ok (.iastore, 1) := by decide +kernel
theorem dX7_gives_236 : decode cX7_gives 236 = .ok (.iinc 4 1, 3) := by decide +kernel
theorem dX7_gives_239 : decode cX7_gives 239 = .ok (.goto (-128), 3) := by decide +kernel
theorem dX7_gives_242 : decode cX7_gives 242 = .ok (.iinc 3 (-1), 3) := by decide +kernel
theorem dX7_gives_245 : decode cX7_gives 245 = .ok (.goto (-141), 3) := by decide +kernel
theorem dX7_gives_248 : decode cX7_gives 248 = .ok (.iconst 0, 1) := by decide +kernel
theorem dX7_gives_249 : decode cX7_gives 249 = .ok (.istore_n 3, 1) := by decide +kernel
theorem dX7_gives_250 : decode cX7_gives 250 = .ok (.iconst 0, 1) := by decide +kernel
theorem dX7_gives_251 : decode cX7_gives 251 = .ok (.istore 4, 2) := by decide +kernel
theorem dX7_gives_253 : decode cX7_gives 253 = .ok (.iload 4, 2) := by decide +kernel
theorem dX7_gives_255 : decode cX7_gives 255 = .ok (.iload_n 2, 1) := by decide +kernel
theorem dX7_gives_256 : decode cX7_gives 256 = .ok (.if_icmp .ge 119, 3) := by decide +kernel
theorem dX7_gives_259 : decode cX7_gives 259 = .ok (.iconst 0, 1) := by decide +kernel
theorem dX7_gives_260 : decode cX7_gives 260 = .ok (.istore 5, 2) := by decide +kernel
theorem dX7_gives_262 : decode cX7_gives 262 = .ok (.iload_n 3, 1) := by decide +kernel
theorem dX7_gives_263 : decode cX7_gives 263 = .ok (.iload 5, 2) := by decide +kernel
theorem dX7_gives_265 : decode cX7_gives 265 = .ok (.ishr, 1) := by decide +kernel
theorem dX7_gives_266 : decode cX7_gives 266 = .ok (.iconst 1, 1) := by decide +kernel
theorem dX7_gives_267 : decode cX7_gives 267 = .ok (.iand, 1) := by decide +kernel
theorem dX7_gives_268 : decode cX7_gives 268 = .ok (.iconst 1, 1) := by decide +kernel
theorem dX7_gives_269 : decode cX7_gives 269 = .ok (.if_icmp .eq 73, 3) := by decide +kernel
theorem dX7_gives_272 : decode cX7_gives 272 = .ok (.aload_n 0, 1) := by decide +kernel
theorem dX7_gives_273 : decode cX7_gives 273 = .ok (.aload_n 0, 1) := by decide +kernel
theorem dX7_gives_274 : decode cX7_gives 274 = .ok (.getfield 65, 3) := by decide +kernel
theorem dX7_gives_277 : decode cX7_gives 277 = .ok (.iload 5, 2) := by decide +kernel
theorem dX7_gives_279 : decode cX7_gives 279 = .ok (.iaload, 1) := by decide +kernel
theorem dX7_gives_280 : decode cX7_gives 280 = .ok (.aload_n 0, 1) := by decide +kernel
theorem dX7_gives_281 : decode cX7_gives 281 = .ok (.getfield 83, 3) := by decide +kernel
theorem dX7_gives_284 : decode cX7_gives 284 = .ok (.iload 4, 2) := by decide +kernel
theorem dX7_gives_286 : decode cX7_gives 286 = .ok (.iaload, 1) := by decide +kernel
theorem dX7_gives_287 : decode cX7_gives 287 = .ok (.invokevirtual 128, 3) := by decide +kernel
theorem dX7_gives_290 : decode cX7_gives 290 = .ok (.ifCond .eq 52, 3) := by decide +kernel
theorem dX7_gives_293 : decode cX7_gives 293 = .ok (.aload_n 0, 1) := by decide +kernel
theorem dX7_gives_294 : decode cX7_gives 294 = .ok (.getfield 16, 3) := by decide +kernel
theorem dX7_gives_297 : decode cX7_gives 297 = .ok (.aload_n 0, 1) := by decide +kernel
theorem dX7_gives_298 : decode cX7_gives 298 = .ok (.getfield 65, 3) := by decide +kernel
theorem dX7_gives_301 : decode cX7_gives 301 = .ok (.iload 5, 2) := by decide +kernel
theorem dX7_gives_303 : decode cX7_gives 303 = .ok (.iaload, 1) := by decide +kernel
theorem dX7_gives_304 : decode cX7_gives 304 = .ok (.iaload, 1) := by decide +kernel
theorem dX7_gives_305 : decode cX7_gives 305 = .ok (.aload_n 0, 1) := by decide +kernel
theorem dX7_gives_306 : decode cX7_gives 306 = .ok (.getfield 80, 3) := by decide +kernel
theorem dX7_gives_309 : decode cX7_gives 309 = .ok (.sipush 256, 3) := by decide +kernel
theorem dX7_gives_312 : decode cX7_gives 312 = .ok (.iload 4, 2) := by decide +kernel
theorem dX7_gives_314 : decode cX7_gives 314 = .ok (.iconst 1, 1) := by decide +kernel
theorem dX7_gives_315 : decode cX7_gives 315 = .ok (.iadd, 1) := by decide +kernel
theorem dX7_gives_316 : decode cX7_gives 316 = .ok (.imul, 1) := by decide +kernel
theorem dX7_gives_317 : decode cX7_gives 317 = .ok (.iload_n 3, 1) := by decide +kernel
theorem dX7_gives_318 : decode cX7_gives 318 = .ok (.iconst 1, 1) := by decide +kernel
theorem dX7_gives_319 : decode cX7_gives 319 = .ok (.iload 5, 2) := by decide +kernel
theorem dX7_gives_321 : decode cX7_gives 321 = .ok (.ishl, 1) := by decide +kernel
theorem dX7_gives_322 : decode cX7_gives 322 = .ok (.ior, 1) := by decide +kernel
theorem dX7_gives_323 : decode cX7_gives 323 = .ok (.iadd, 1) := by decide +kernel
theorem dX7_gives_324 : decode cX7_gives 324 = .ok (.iaload, 1) := by decide +kernel
theorem dX7_gives_325 : decode cX7_gives 325 = .ok (.iadd, 1) := by decide +kernel
theorem dX7_gives_326 : decode cX7_gives 326 = .ok (.aload_n 0, 1) := by decide +kernel
theorem dX7_gives_327 : decode cX7_gives 327 = .ok (.getfield 80, 3) := by decide +kernel
theorem dX7_gives_330 : decode cX7_gives 330 = .ok (.sipush 256, 3) := by decide +kernel
theorem dX7_gives_333 : decode cX7_gives 333 = .ok (.iload 4, 2) := by decide +kernel
theorem dX7_gives_335 : decode cX7_gives 335 = .ok (.imul, 1) := by decide +kernel
theorem dX7_gives_336 : decode cX7_gives 336 = .ok (.iload_n 3, 1) := by decide +kernel
theorem dX7_gives_337 : decode cX7_gives 337 = .ok (.iadd, 1) := by decide +kernel
theorem dX7_gives_338 : decode cX7_gives 338 = .ok (.iaload, 1) := by decide +kernel
theorem dX7_gives_339 : decode cX7_gives 339 = .ok (.if_icmp .eq 9, 3) := by decide +kernel
theorem dX7_gives_342 : decode cX7_gives 342 = .ok (.iinc 5 1, 3) := by decide +kernel
theorem dX7_gives_345 : decode cX7_gives 345 = .ok (.goto (-83), 3) := by decide +kernel
theorem dX7_gives_348 : decode cX7_gives 348 = .ok (.aload_n 0, 1) := by decide +kernel
theorem dX7_gives_349 : decode cX7_gives 349 = .ok (.getfield 86, 3) := by decide +kernel
theorem dX7_gives_352 : decode cX7_gives 352 = .ok (.iload 4, 2) := by decide +kernel
theorem dX7_gives_354 : decode cX7_gives 354 = .ok (.aload_n 0, 1) := by decide +kernel
theorem dX7_gives_355 : decode cX7_gives 355 = .ok (.getfield 65, 3) := by decide +kernel
theorem dX7_gives_358 : decode cX7_gives 358 = .ok (.iload 5, 2) := by decide +kernel
theorem dX7_gives_360 : decode cX7_gives 360 = .ok (.iaload, 1) := by decide +kernel
theorem dX7_gives_361 : decode cX7_gives 361 = .ok (.iastore, 1) := by decide +kernel
theorem dX7_gives_362 : decode cX7_gives 362 = .ok (.iload_n 3, 1) := by decide +kernel
theorem dX7_gives_363 : decode cX7_gives 363 = .ok (.iconst 1, 1) := by decide +kernel
theorem dX7_gives_364 : decode cX7_gives 364 = .ok (.iload 5, 2) := by decide +kernel
theorem dX7_gives_366 : decode cX7_gives 366 = .ok (.ishl, 1) := by decide +kernel
theorem dX7_gives_367 : decode cX7_gives 367 = .ok (.ior, 1) := by decide +kernel
theorem dX7_gives_368 : decode cX7_gives 368 = .ok (.istore_n 3, 1) := by decide +kernel
theorem dX7_gives_369 : decode cX7_gives 369 = .ok (.iinc 4 1, 3) := by decide +kernel
theorem dX7_gives_372 : decode cX7_gives 372 = .ok (.goto (-119), 3) := by decide +kernel
theorem dX7_gives_375 : decode cX7_gives 375 = .ok (.iload_n 2, 1) := by decide +kernel
theorem dX7_gives_376 : decode cX7_gives 376 = .ok (.ireturn, 1) := by decide +kernel
theorem dX7_close_0 : decode cX7_close 0 = .ok (.aload_n 0, 1) := by decide +kernel
theorem dX7_close_1 : decode cX7_close 1 = .ok (.getfield 121, 3) := by decide +kernel
theorem dX7_close_4 : decode cX7_close 4 = .ok (.ifCond .ne 9, 3) := by decide +kernel
theorem dX7_close_7 : decode cX7_close 7 = .ok (.aload_n 0, 1) := by decide +kernel
theorem dX7_close_8 : decode cX7_close 8 = .ok (.iconst 1, 1) := by decide +kernel
theorem dX7_close_9 : decode cX7_close 9 = .ok (.invokevirtual 107, 3) := by decide +kernel
theorem dX7_close_12 : decode cX7_close 12 = .ok (.ireturn, 1) := by decide +kernel
theorem dX7_close_13 : decode cX7_close 13 = .ok (.aload_n 0, 1) := by decide +kernel
theorem dX7_close_14 : decode cX7_close 14 = .ok (.iconst 0, 1) := by decide +kernel
theorem dX7_close_15 : decode cX7_close 15 = .ok (.putfield 89, 3) := by decide +kernel
theorem dX7_close_18 : decode cX7_close 18 = .ok (.aload_n 0, 1) := by decide +kernel
theorem dX7_close_19 : decode cX7_close 19 = .ok (.invokevirtual 152, 3) := by decide +kernel
theorem dX7_close_22 : decode cX7_close 22 = .ok (.aload_n 0, 1) := by decide +kernel
theorem dX7_close_23 : decode cX7_close 23 = .ok (.iconst (-1), 1) := by decide +kernel
theorem dX7_close_24 : decode cX7_close 24 = .ok (.invokevirtual 149, 3) := by decide +kernel
theorem dX7_close_27 : decode cX7_close 27 = .ok (.istore_n 1, 1) := by decide +kernel
theorem dX7_close_28 : decode cX7_close 28 = .ok (.aload_n 0, 1) := by decide +kernel
theorem dX7_close_29 : decode cX7_close 29 = .ok (.iload_n 1, 1) := by decide +kernel
theorem dX7_close_30 : decode cX7_close 30 = .ok (.invokevirtual 155, 3) := by decide +kernel
theorem dX7_close_33 : decode cX7_close 33 = .ok (.istore_n 2, 1) := by decide +kernel
theorem dX7_close_34 : decode cX7_close 34 = .ok (.iconst 0, 1) := by decide +kernel
theorem dX7_close_35 : decode cX7_close 35 = .ok (.istore_n 3, 1) := by decide +kernel
theorem dX7_close_36 : decode cX7_close 36 = .ok (.iload_n 3, 1) := by decide +kernel
theorem dX7_close_37 : decode cX7_close 37 = .ok (.aload_n 0, 1) := by decide +kernel
theorem dX7_close_38 : decode cX7_close 38 = .ok (.getfield 121, 3) := by decide +kernel
theorem dX7_close_41 : decode cX7_close 41 = .ok (.if_icmp .ge 56, 3) := by decide +kernel
theorem dX7_close_44 : decode cX7_close 44 = .ok (.aload_n 0, 1) := by decide +kernel
theorem dX7_close_45 : decode cX7_close 45 = .ok (.getfield 68, 3) := by decide +kernel
theorem dX7_close_48 : decode cX7_close 48 = .ok (.iload_n 3, 1) := by decide +kernel
theorem dX7_close_49 : decode cX7_close 49 = .ok (.iaload, 1) := by decide +kernel
theorem dX7_close_50 : decode cX7_close 50 = .ok (.istore 4, 2) := by decide +kernel
theorem dX7_close_52 : decode cX7_close 52 = .ok (.iload_n 1, 1) := by decide +kernel
theorem dX7_close_53 : decode cX7_close 53 = .ok (.iload_n 3, 1) := by decide +kernel
theorem dX7_close_54 : decode cX7_close 54 = .ok (.ishr, 1) := by decide +kernel
theorem dX7_close_55 : decode cX7_close 55 = .ok (.iconst 1, 1) := by decide +kernel
theorem dX7_close_56 : decode cX7_close 56 = .ok (.iand, 1) := by decide +kernel
theorem dX7_close_57 : decode cX7_close 57 = .ok (.iconst 1, 1) := by decide +kernel
theorem dX7_close_58 : decode cX7_close 58 = .ok (.if_icmp .ne 20, 3) := by decide +kernel
theorem dX7_close_61 : decode cX7_close 61 = .ok (.aload_n 0, 1) := by decide +kernel
theorem dX7_close_62 : decode cX7_close 62 = .ok (.getfield 50, 3) := by decide +kernel
theorem dX7_close_65 : decode cX7_close 65 = .ok (.iload 4, 2) := by decide +kernel
theorem dX7_close_67 : decode cX7_close 67 = .ok (.aload_n 0, 1) := by decide +kernel
theorem dX7_close_68 : decode cX7_close 68 = .ok (.iload_n 1, 1) := by decide +kernel
theorem dX7_close_69 : decode cX7_close 69 = .ok (.iload 4, 2) := by decide +kernel
theorem dX7_close_71 : decode cX7_close 71 = .ok (.invokevirtual 158, 3) := by decide +kernel
theorem dX7_close_74 : decode cX7_close 74 = .ok (.iastore, 1) := by decide +kernel
theorem dX7_close_75 : decode cX7_close 75 = .ok (.goto 16, 3) := by decide +kernel
theorem dX7_close_78 : decode cX7_close 78 = .ok (.aload_n 0, 1) := by decide +kernel
theorem dX7_close_79 : decode cX7_close 79 = .ok (.getfield 29, 3) := by decide +kernel
theorem dX7_close_82 : decode cX7_close 82 = .ok (.iload 4, 2) := by decide +kernel
theorem dX7_close_84 : decode cX7_close 84 = .ok (.aload_n 0, 1) := by decide +kernel
theorem dX7_close_85 : decode cX7_close 85 = .ok (.iload_n 1, 1) := by decide +kernel
theorem dX7_close_86 : decode cX7_close 86 = .ok (.iload_n 3, 1) := by decide +kernel
theorem dX7_close_87 : decode cX7_close 87 = .ok (.invokevirtual 162, 3) := by decide +kernel
theorem dX7_close_90 : decode cX7_close 90 = .ok (.castore, 1) := by decide +kernel
theorem dX7_close_91 : decode cX7_close 91 = .ok (.iinc 3 1, 3) := by decide +kernel
theorem dX7_close_94 : decode cX7_close 94 = .ok (.goto (-58), 3) := by decide +kernel
theorem dX7_close_97 : decode cX7_close 97 = .ok (.iconst 0, 1) := by decide +kernel
theorem dX7_close_98 : decode cX7_close 98 = .ok (.istore_n 3, 1) := by decide +kernel
theorem dX7_close_99 : decode cX7_close 99 = .ok (.iload_n 3, 1) := by decide +kernel
theorem dX7_close_100 : decode cX7_close 100 = .ok (.aload_n 0, 1) := by decide +kernel
theorem dX7_close_101 : decode cX7_close 101 = .ok (.getfield 121, 3) := by decide +kernel
theorem dX7_close_104 : decode cX7_close 104 = .ok (.if_icmp .ge 69, 3) := by decide +kernel
theorem dX7_close_107 : decode cX7_close 107 = .ok (.aload_n 0, 1) := by decide +kernel
theorem dX7_close_108 : decode cX7_close 108 = .ok (.getfield 68, 3) := by decide +kernel
theorem dX7_close_111 : decode cX7_close 111 = .ok (.iload_n 3, 1) := by decide +kernel
theorem dX7_close_112 : decode cX7_close 112 = .ok (.iaload, 1) := by decide +kernel
theorem dX7_close_113 : decode cX7_close 113 = .ok (.istore 4, 2) := by decide +kernel
theorem dX7_close_115 : decode cX7_close 115 = .ok (.aload_n 0, 1) := by decide +kernel
theorem dX7_close_116 : decode cX7_close 116 = .ok (.getfield 26, 3) := by decide +kernel
theorem dX7_close_119 : decode cX7_close 119 = .ok (.iload 4, 2) := by decide +kernel
theorem dX7_close_121 : decode cX7_close 121 = .ok (.iload_n 1, 1) := by decide +kernel
theorem dX7_close_122 : decode cX7_close 122 = .ok (.iload_n 3, 1) := by decide +kernel
theorem dX7_close_123 : decode cX7_close 123 = .ok (.ishr, 1) := by decide +kernel
theorem dX7_close_124 : decode cX7_close 124 = .ok (.iconst 1, 1) := by decide +kernel
theorem dX7_close_125 : decode cX7_close 125 = .ok (.iand, 1) := by decide +kernel
theorem dX7_close_126 : decode cX7_close 126 = .ok (.iconst 1, 1) := by decide +kernel
theorem dX7_close_127 : decode cX7_close 127 = .ok (.if_icmp .ne 8, 3) := by decide +kernel
theorem dX7_close_130 : decode cX7_close 130 = .ok (.bipush 119, 2) := by decide +kernel
theorem dX7_close_132 : decode cX7_close 132 = .ok (.goto 5, 3) := by decide +kernel
theorem dX7_close_135 : decode cX7_close 135 = .ok (.bipush 108, 2) := by decide +kernel
theorem dX7_close_137 : decode cX7_close 137 = .ok (.castore, 1) := by decide +kernel
theorem dX7_close_138 : decode cX7_close 138 = .ok (.aload_n 0, 1) := by decide +kernel
theorem dX7_close_139 : decode cX7_close 139 = .ok (.getfield 26, 3) := by decide +kernel
theorem dX7_close_142 : decode cX7_close 142 = .ok (.iload 4, 2) := by decide +kernel
theorem dX7_close_144 : decode cX7_close 144 = .ok (.caload, 1) := by decide +kernel
theorem dX7_close_145 : decode cX7_close 145 = .ok (.bipush 119, 2) := by decide +kernel
theorem dX7_close_147 : decode cX7_close 147 = .ok (.if_icmp .ne 20, 3) := by decide +kernel
theorem dX7_close_150 : decode cX7_close 150 = .ok (.aload_n 0, 1) := by decide +kernel
theorem dX7_close_151 : decode cX7_close 151 = .ok (.dup, 1) := by decide +kernel
theorem dX7_close_152 : decode cX7_close 152 = .ok (.getfield 166, 3) := by decide +kernel
theorem dX7_close_155 : decode cX7_close 155 = .ok (.aload_n 0, 1) := by decide +kernel
theorem dX7_close_156 : decode cX7_close 156 = .ok (.getfield 50, 3) := by decide +kernel
theorem dX7_close_159 : decode cX7_close 159 = .ok (.iload 4, 2) := by decide +kernel
theorem dX7_close_161 : decode cX7_close 161 = .ok (.iaload, 1) := by decide +kernel
theorem dX7_close_162 : decode cX7_close 162 = .ok (.i2l, 1) := by decide +kernel
theorem dX7_close_163 : decode cX7_close 163 = .ok (.ladd, 1) := by decide +kernel
theorem dX7_close_164 : decode cX7_close 164 = .ok (.putfield 166, 3) := by decide +kernel
theorem dX7_close_167 : decode cX7_close 167 = .ok (.iinc 3 1, 3) := by decide +kernel
theorem dX7_close_170 : decode cX7_close 170 = .ok (.goto (-71), 3) := by decide +kernel
theorem dX7_close_173 : decode cX7_close 173 = .ok (.iconst 0, 1) := by decide +kernel
theorem dX7_close_174 : decode cX7_close 174 = .ok (.istore_n 3, 1) := by decide +kernel
theorem dX7_close_175 : decode cX7_close 175 = .ok (.iload_n 3, 1) := by decide +kernel
theorem dX7_close_176 : decode cX7_close 176 = .ok (.iload_n 2, 1) := by decide +kernel
theorem dX7_close_177 : decode cX7_close 177 = .ok (.if_icmp .ge 58, 3) := by decide +kernel
theorem dX7_close_180 : decode cX7_close 180 = .ok (.aload_n 0, 1) := by decide +kernel
theorem dX7_close_181 : decode cX7_close 181 = .ok (.getfield 47, 3) := by decide +kernel
theorem dX7_close_184 : decode cX7_close 184 = .ok (.aload_n 0, 1) := by decide +kernel
theorem dX7_close_185 : decode cX7_close 185 = .ok (.getfield 83, 3) := by decide +kernel
theorem dX7_close_188 : decode cX7_close 188 = .ok (.iload_n 3, 1) := by decide +kernel
theorem dX7_close_189 : decode cX7_close 189 = .ok (.iaload, 1) := by decide +kernel
theorem dX7_close_190 : decode cX7_close 190 = .ok (.aload_n 0, 1) := by decide +kernel
theorem dX7_close_191 : decode cX7_close 191 = .ok (.getfield 86, 3) := by decide +kernel
theorem dX7_close_194 : decode cX7_close 194 = .ok (.iload_n 3, 1) := by decide +kernel
theorem dX7_close_195 : decode cX7_close 195 = .ok (.iaload, 1) := by decide +kernel
theorem dX7_close_196 : decode cX7_close 196 = .ok (.iastore, 1) := by decide +kernel
theorem dX7_close_197 : decode cX7_close 197 = .ok (.aload_n 0, 1) := by decide +kernel
theorem dX7_close_198 : decode cX7_close 198 = .ok (.getfield 19, 3) := by decide +kernel
theorem dX7_close_201 : decode cX7_close 201 = .ok (.aload_n 0, 1) := by decide +kernel
theorem dX7_close_202 : decode cX7_close 202 = .ok (.getfield 86, 3) := by decide +kernel
theorem dX7_close_205 : decode cX7_close 205 = .ok (.iload_n 3, 1) := by decide +kernel
theorem dX7_close_206 : decode cX7_close 206 = .ok (.iaload, 1) := by decide +kernel
theorem dX7_close_207 : decode cX7_close 207 = .ok (.aload_n 0, 1) := by decide +kernel
theorem dX7_close_208 : decode cX7_close 208 = .ok (.getfield 83, 3) := by decide +kernel
theorem dX7_close_211 : decode cX7_close 211 = .ok (.iload_n 3, 1) := by decide +kernel
theorem dX7_close_212 : decode cX7_close 212 = .ok (.iaload, 1) := by decide +kernel
theorem dX7_close_213 : decode cX7_close 213 = .ok (.iconst 3, 1) := by decide +kernel
theorem dX7_close_214 : decode cX7_close 214 = .ok (.idiv, 1) := by decide +kernel
theorem dX7_close_215 : decode cX7_close 215 = .ok (.iastore, 1) := by decide +kernel
theorem dX7_close_216 : decode cX7_close 216 = .ok (.aload_n 0, 1) := by decide +kernel
theorem dX7_close_217 : decode cX7_close 217 = .ok (.getfield 22, 3) := by decide +kernel
theorem dX7_close_220 : decode cX7_close 220 = .ok (.aload_n 0, 1) := by decide +kernel
theorem dX7_close_221 : decode cX7_close 221 = .ok (.getfield 86, 3) := by decide +kernel
theorem dX7_close_224 : decode cX7_close 224 = .ok (.iload_n 3, 1) := by decide +kernel
theorem dX7_close_225 : decode cX7_close 225 = .ok (.iaload, 1) := by decide +kernel
theorem dX7_close_226 : decode cX7_close 226 = .ok (.bipush 115, 2) := by decide +kernel
theorem dX7_close_228 : decode cX7_close 228 = .ok (.castore, 1) := by decide +kernel
theorem dX7_close_229 : decode cX7_close 229 = .ok (.iinc 3 1, 3) := by decide +kernel
theorem dX7_close_232 : decode cX7_close 232 = .ok (.goto (-57), 3) := by decide +kernel
theorem dX7_close_235 : decode cX7_close 235 = .ok (.aload_n 0, 1) := by decide +kernel
theorem dX7_close_236 : decode cX7_close 236 = .ok (.iconst 0, 1) := by decide +kernel
theorem dX7_close_237 : decode cX7_close 237 = .ok (.putfield 121, 3) := by decide +kernel
theorem dX7_close_240 : decode cX7_close 240 = .ok (.aload_n 0, 1) := by decide +kernel
theorem dX7_close_241 : decode cX7_close 241 = .ok (.dup, 1) := by decide +kernel
theorem dX7_close_242 : decode cX7_close 242 = .ok (.getfield 111, 3) := by decide +kernel
theorem dX7_close_245 : decode cX7_close 245 = .ok (.iload_n 2, 1) := by decide +kernel
theorem dX7_close_246 : decode cX7_close 246 = .ok (.isub, 1) := by decide +kernel
theorem dX7_close_247 : decode cX7_close 247 = .ok (.putfield 111, 3) := by decide +kernel
theorem dX7_close_250 : decode cX7_close 250 = .ok (.iload_n 2, 1) := by decide +kernel
theorem dX7_close_251 : decode cX7_close 251 = .ok (.ireturn, 1) := by decide +kernel
theorem dX7_why_0 : decode cX7_why 0 = .ok (.aload_n 0, 1) := by decide +kernel
theorem dX7_why_1 : decode cX7_why 1 = .ok (.getfield 68, 3) := by decide +kernel
theorem dX7_why_4 : decode cX7_why 4 = .ok (.iload_n 2, 1) := by decide +kernel
theorem dX7_why_5 : decode cX7_why 5 = .ok (.iaload, 1) := by decide +kernel
theorem dX7_why_6 : decode cX7_why 6 = .ok (.istore_n 3, 1) := by decide +kernel
theorem dX7_why_7 : decode cX7_why 7 = .ok (.aload_n 0, 1) := by decide +kernel
theorem dX7_why_8 : decode cX7_why 8 = .ok (.getfield 38, 3) := by decide +kernel
theorem dX7_why_11 : decode cX7_why 11 = .ok (.iload_n 3, 1) := by decide +kernel
theorem dX7_why_12 : decode cX7_why 12 = .ok (.iaload, 1) := by decide +kernel
theorem dX7_why_13 : decode cX7_why 13 = .ok (.ifCond .ne 6, 3) := by decide +kernel
theorem dX7_why_16 : decode cX7_why 16 = .ok (.bipush 110, 2) := by decide +kernel
theorem dX7_why_18 : decode cX7_why 18 = .ok (.ireturn, 1) := by decide +kernel
theorem dX7_why_19 : decode cX7_why 19 = .ok (.aload_n 0, 1) := by decide +kernel
theorem dX7_why_20 : decode cX7_why 20 = .ok (.getfield 71, 3) := by decide +kernel
theorem dX7_why_23 : decode cX7_why 23 = .ok (.iconst 1, 1) := by decide +kernel
theorem dX7_why_24 : decode cX7_why 24 = .ok (.iload_n 2, 1) := by decide +kernel
theorem dX7_why_25 : decode cX7_why 25 = .ok (.ishl, 1) := by decide +kernel
theorem dX7_why_26 : decode cX7_why 26 = .ok (.iaload, 1) := by decide +kernel
theorem dX7_why_27 : decode cX7_why 27 = .ok (.ldc 145, 2) := by decide +kernel
theorem dX7_why_29 : decode cX7_why 29 = .ok (.if_icmp .ne 6, 3) := by decide +kernel
theorem dX7_why_32 : decode cX7_why 32 = .ok (.bipush 108, 2) := by decide +kernel
theorem dX7_why_34 : decode cX7_why 34 = .ok (.ireturn, 1) := by decide +kernel
theorem dX7_why_35 : decode cX7_why 35 = .ok (.aload_n 0, 1) := by decide +kernel
theorem dX7_why_36 : decode cX7_why 36 = .ok (.getfield 71, 3) := by decide +kernel
theorem dX7_why_39 : decode cX7_why 39 = .ok (.iconst 1, 1) := by decide +kernel
theorem dX7_why_40 : decode cX7_why 40 = .ok (.iload_n 2, 1) := by decide +kernel
theorem dX7_why_41 : decode cX7_why 41 = .ok (.ishl, 1) := by decide +kernel
theorem dX7_why_42 : decode cX7_why 42 = .ok (.iaload, 1) := by decide +kernel
theorem dX7_why_43 : decode cX7_why 43 = .ok (.ifCond .ge 6, 3) := by decide +kernel
theorem dX7_why_46 : decode cX7_why 46 = .ok (.bipush 112, 2) := by decide +kernel
theorem dX7_why_48 : decode cX7_why 48 = .ok (.ireturn, 1) := by decide +kernel
theorem dX7_why_49 : decode cX7_why 49 = .ok (.iconst 0, 1) := by decide +kernel
theorem dX7_why_50 : decode cX7_why 50 = .ok (.istore 4, 2) := by decide +kernel
theorem dX7_why_52 : decode cX7_why 52 = .ok (.iload 4, 2) := by decide +kernel
theorem dX7_why_54 : decode cX7_why 54 = .ok (.aload_n 0, 1) := by decide +kernel
theorem dX7_why_55 : decode cX7_why 55 = .ok (.getfield 121, 3) := by decide +kernel
theorem dX7_why_58 : decode cX7_why 58 = .ok (.if_icmp .ge 56, 3) := by decide +kernel
theorem dX7_why_61 : decode cX7_why 61 = .ok (.iload_n 1, 1) := by decide +kernel
theorem dX7_why_62 : decode cX7_why 62 = .ok (.iload 4, 2) := by decide +kernel
theorem dX7_why_64 : decode cX7_why 64 = .ok (.ishr, 1) := by decide +kernel
theorem dX7_why_65 : decode cX7_why 65 = .ok (.iconst 1, 1) := by decide +kernel
theorem dX7_why_66 : decode cX7_why 66 = .ok (.iand, 1) := by decide +kernel
theorem dX7_why_67 : decode cX7_why 67 = .ok (.iconst 1, 1) := by decide +kernel
theorem dX7_why_68 : decode cX7_why 68 = .ok (.if_icmp .ne 40, 3) := by decide +kernel
theorem dX7_why_71 : decode cX7_why 71 = .ok (.aload_n 0, 1) := by decide +kernel
theorem dX7_why_72 : decode cX7_why 72 = .ok (.getfield 32, 3) := by decide +kernel
theorem dX7_why_75 : decode cX7_why 75 = .ok (.aload_n 0, 1) := by decide +kernel
theorem dX7_why_76 : decode cX7_why 76 = .ok (.getfield 68, 3) := by decide +kernel
theorem dX7_why_79 : decode cX7_why 79 = .ok (.iload 4, 2) := by decide +kernel
theorem dX7_why_81 : decode cX7_why 81 = .ok (.iaload, 1) := by decide +kernel
theorem dX7_why_82 : decode cX7_why 82 = .ok (.iaload, 1) := by decide +kernel
theorem dX7_why_83 : decode cX7_why 83 = .ok (.aload_n 0, 1) := by decide +kernel
theorem dX7_why_84 : decode cX7_why 84 = .ok (.getfield 32, 3) := by decide +kernel
theorem dX7_why_87 : decode cX7_why 87 = .ok (.iload_n 3, 1) := by decide +kernel
theorem dX7_why_88 : decode cX7_why 88 = .ok (.iaload, 1) := by decide +kernel
theorem dX7_why_89 : decode cX7_why 89 = .ok (.if_icmp .ne 19, 3) := by decide +kernel
theorem dX7_why_92 : decode cX7_why 92 = .ok (.aload_n 0, 1) := by decide +kernel
theorem dX7_why_93 : decode cX7_why 93 = .ok (.getfield 53, 3) := by decide +kernel
theorem dX7_why_96 : decode cX7_why 96 = .ok (.iload_n 3, 1) := by decide +kernel
theorem dX7_why_97 : decode cX7_why 97 = .ok (.aload_n 0, 1) := by decide +kernel
theorem dX7_why_98 : decode cX7_why 98 = .ok (.getfield 68, 3) := by decide +kernel
theorem dX7_why_101 : decode cX7_why 101 = .ok (.iload 4, 2) := by decide +kernel
theorem dX7_why_103 : decode cX7_why 103 = .ok (.iaload, 1) := by decide +kernel
theorem dX7_why_104 : decode cX7_why 104 = .ok (.iastore, 1) := by decide +kernel
theorem dX7_why_105 : decode cX7_why 105 = .ok (.bipush 98, 2) := by decide +kernel
theorem dX7_why_107 : decode cX7_why 107 = .ok (.ireturn, 1) := by decide +kernel
theorem dX7_why_108 : decode cX7_why 108 = .ok (.iinc 4 1, 3) := by decide +kernel
theorem dX7_why_111 : decode cX7_why 111 = .ok (.goto (-59), 3) := by decide +kernel
theorem dX7_why_114 : decode cX7_why 114 = .ok (.bipush 109, 2) := by decide +kernel
theorem dX7_why_116 : decode cX7_why 116 = .ok (.ireturn, 1) := by decide +kernel
theorem dX7_lots_0 : decode cX7_lots 0 = .ok (.aload_n 0, 1) := by decide +kernel
theorem dX7_lots_1 : decode cX7_lots 1 = .ok (.getfield 93, 3) := by decide +kernel
theorem dX7_lots_4 : decode cX7_lots 4 = .ok (.ireturn, 1) := by decide +kernel
theorem dX7_bids_0 : decode cX7_bids 0 = .ok (.aload_n 0, 1) := by decide +kernel
theorem dX7_bids_1 : decode cX7_bids 1 = .ok (.getfield 100, 3) := by decide +kernel
theorem dX7_bids_4 : decode cX7_bids 4 = .ok (.ireturn, 1) := by decide +kernel
theorem dX7_openLots_0 : decode cX7_openLots 0 = .ok (.aload_n 0, 1) := by decide +kernel
theorem dX7_openLots_1 : decode cX7_openLots 1 = .ok (.getfield 111, 3) := by decide +kernel
theorem dX7_openLots_4 : decode cX7_openLots 4 = .ok (.ireturn, 1) := by decide +kernel
theorem dX7_openBids_0 : decode cX7_openBids 0 = .ok (.aload_n 0, 1) := by decide +kernel
theorem dX7_openBids_1 : decode cX7_openBids 1 = .ok (.getfield 121, 3) := by decide +kernel
theorem dX7_openBids_4 : decode cX7_openBids 4 = .ok (.ireturn, 1) := by decide +kernel
theorem dX7_noLot_0 : decode cX7_noLot 0 = .ok (.aload_n 0, 1) := by decide +kernel
theorem dX7_noLot_1 : decode cX7_noLot 1 = .ok (.aload_n 0, 1) := by decide +kernel
theorem dX7_noLot_2 : decode cX7_noLot 2 = .ok (.iload_n 1, 1) := by decide +kernel
theorem dX7_noLot_3 : decode cX7_noLot 3 = .ok (.invokevirtual 114, 3) := by decide +kernel
theorem dX7_noLot_6 : decode cX7_noLot 6 = .ok (.ifCond .eq 7, 3) := by decide +kernel
theorem dX7_noLot_9 : decode cX7_noLot 9 = .ok (.iconst 0, 1) := by decide +kernel
theorem dX7_noLot_10 : decode cX7_noLot 10 = .ok (.goto 4, 3) := by decide +kernel
theorem dX7_noLot_13 : decode cX7_noLot 13 = .ok (.iconst 1, 1) := by decide +kernel
theorem dX7_noLot_14 : decode cX7_noLot 14 = .ok (.putfield 89, 3) := by decide +kernel
theorem dX7_noLot_17 : decode cX7_noLot 17 = .ok (.aload_n 0, 1) := by decide +kernel
theorem dX7_noLot_18 : decode cX7_noLot 18 = .ok (.getfield 89, 3) := by decide +kernel
theorem dX7_noLot_21 : decode cX7_noLot 21 = .ok (.ifCond .eq 7, 3) := by decide +kernel
theorem dX7_noLot_24 : decode cX7_noLot 24 = .ok (.iconst 1, 1) := by decide +kernel
theorem dX7_noLot_25 : decode cX7_noLot 25 = .ok (.goto 4, 3) := by decide +kernel
theorem dX7_noLot_28 : decode cX7_noLot 28 = .ok (.iconst 0, 1) := by decide +kernel
theorem dX7_noLot_29 : decode cX7_noLot 29 = .ok (.ireturn, 1) := by decide +kernel
theorem dX7_fibreOf_0 : decode cX7_fibreOf 0 = .ok (.aload_n 0, 1) := by decide +kernel
theorem dX7_fibreOf_1 : decode cX7_fibreOf 1 = .ok (.iload_n 1, 1) := by decide +kernel
theorem dX7_fibreOf_2 : decode cX7_fibreOf 2 = .ok (.invokevirtual 170, 3) := by decide +kernel
theorem dX7_fibreOf_5 : decode cX7_fibreOf 5 = .ok (.ifCond .eq 7, 3) := by decide +kernel
theorem dX7_fibreOf_8 : decode cX7_fibreOf 8 = .ok (.iconst 0, 1) := by decide +kernel
theorem dX7_fibreOf_9 : decode cX7_fibreOf 9 = .ok (.goto 9, 3) := by decide +kernel
theorem dX7_fibreOf_12 : decode cX7_fibreOf 12 = .ok (.aload_n 0, 1) := by decide +kernel
theorem dX7_fibreOf_13 : decode cX7_fibreOf 13 = .ok (.getfield 7, 3) := by decide +kernel
theorem dX7_fibreOf_16 : decode cX7_fibreOf 16 = .ok (.iload_n 1, 1) := by decide +kernel
theorem dX7_fibreOf_17 : decode cX7_fibreOf 17 = .ok (.iaload, 1) := by decide +kernel
theorem dX7_fibreOf_18 : decode cX7_fibreOf 18 = .ok (.ireturn, 1) := by decide +kernel
theorem dX7_gradeOf_0 : decode cX7_gradeOf 0 = .ok (.aload_n 0, 1) := by decide +kernel
theorem dX7_gradeOf_1 : decode cX7_gradeOf 1 = .ok (.iload_n 1, 1) := by decide +kernel
theorem dX7_gradeOf_2 : decode cX7_gradeOf 2 = .ok (.invokevirtual 170, 3) := by decide +kernel
theorem dX7_gradeOf_5 : decode cX7_gradeOf 5 = .ok (.ifCond .eq 8, 3) := by decide +kernel
theorem dX7_gradeOf_8 : decode cX7_gradeOf 8 = .ok (.bipush 97, 2) := by decide +kernel
theorem dX7_gradeOf_10 : decode cX7_gradeOf 10 = .ok (.goto 10, 3) := by decide +kernel
theorem dX7_gradeOf_13 : decode cX7_gradeOf 13 = .ok (.aload_n 0, 1) := by decide +kernel
theorem dX7_gradeOf_14 : decode cX7_gradeOf 14 = .ok (.getfield 13, 3) := by decide +kernel
theorem dX7_gradeOf_17 : decode cX7_gradeOf 17 = .ok (.iload_n 1, 1) := by decide +kernel
theorem dX7_gradeOf_18 : decode cX7_gradeOf 18 = .ok (.iaload, 1) := by decide +kernel
theorem dX7_gradeOf_19 : decode cX7_gradeOf 19 = .ok (.i2c, 1) := by decide +kernel
theorem dX7_gradeOf_20 : decode cX7_gradeOf 20 = .ok (.ireturn, 1) := by decide +kernel
theorem dX7_reserveOf_0 : decode cX7_reserveOf 0 = .ok (.aload_n 0, 1) := by decide +kernel
theorem dX7_reserveOf_1 : decode cX7_reserveOf 1 = .ok (.iload_n 1, 1) := by decide +kernel
theorem dX7_reserveOf_2 : decode cX7_reserveOf 2 = .ok (.invokevirtual 170, 3) := by decide +kernel
theorem dX7_reserveOf_5 : decode cX7_reserveOf 5 = .ok (.ifCond .eq 7, 3) := by decide +kernel
theorem dX7_reserveOf_8 : decode cX7_reserveOf 8 = .ok (.iconst 0, 1) := by decide +kernel
theorem dX7_reserveOf_9 : decode cX7_reserveOf 9 = .ok (.goto 9, 3) := by decide +kernel
theorem dX7_reserveOf_12 : decode cX7_reserveOf 12 = .ok (.aload_n 0, 1) := by decide +kernel
theorem dX7_reserveOf_13 : decode cX7_reserveOf 13 = .ok (.getfield 16, 3) := by decide +kernel
theorem dX7_reserveOf_16 : decode cX7_reserveOf 16 = .ok (.iload_n 1, 1) := by decide +kernel
theorem dX7_reserveOf_17 : decode cX7_reserveOf 17 = .ok (.iaload, 1) := by decide +kernel
theorem dX7_reserveOf_18 : decode cX7_reserveOf 18 = .ok (.ireturn, 1) := by decide +kernel
theorem dX7_lotState_0 : decode cX7_lotState 0 = .ok (.aload_n 0, 1) := by decide +kernel
theorem dX7_lotState_1 : decode cX7_lotState 1 = .ok (.iload_n 1, 1) := by decide +kernel
theorem dX7_lotState_2 : decode cX7_lotState 2 = .ok (.invokevirtual 170, 3) := by decide +kernel
theorem dX7_lotState_5 : decode cX7_lotState 5 = .ok (.ifCond .eq 8, 3) := by decide +kernel
theorem dX7_lotState_8 : decode cX7_lotState 8 = .ok (.bipush 111, 2) := by decide +kernel
theorem dX7_lotState_10 : decode cX7_lotState 10 = .ok (.goto 9, 3) := by decide +kernel
theorem dX7_lotState_13 : decode cX7_lotState 13 = .ok (.aload_n 0, 1) := by decide +kernel
theorem dX7_lotState_14 : decode cX7_lotState 14 = .ok (.getfield 22, 3) := by decide +kernel
theorem dX7_lotState_17 : decode cX7_lotState 17 = .ok (.iload_n 1, 1) := by decide +kernel
theorem dX7_lotState_18 : decode cX7_lotState 18 = .ok (.caload, 1) := by decide +kernel
theorem dX7_lotState_19 : decode cX7_lotState 19 = .ok (.ireturn, 1) := by decide +kernel
theorem dX7_soldTo_0 : decode cX7_soldTo 0 = .ok (.aload_n 0, 1) := by decide +kernel
theorem dX7_soldTo_1 : decode cX7_soldTo 1 = .ok (.iload_n 1, 1) := by decide +kernel
theorem dX7_soldTo_2 : decode cX7_soldTo 2 = .ok (.invokevirtual 170, 3) := by decide +kernel
theorem dX7_soldTo_5 : decode cX7_soldTo 5 = .ok (.ifCond .eq 5, 3) := by decide +kernel
theorem dX7_soldTo_8 : decode cX7_soldTo 8 = .ok (.iconst 0, 1) := by decide +kernel
theorem dX7_soldTo_9 : decode cX7_soldTo 9 = .ok (.ireturn, 1) := by decide +kernel
theorem dX7_soldTo_10 : decode cX7_soldTo 10 = .ok (.aload_n 0, 1) := by decide +kernel
theorem dX7_soldTo_11 : decode cX7_soldTo 11 = .ok (.getfield 22, 3) := by decide +kernel
theorem dX7_soldTo_14 : decode cX7_soldTo 14 = .ok (.iload_n 1, 1) := by decide +kernel
theorem dX7_soldTo_15 : decode cX7_soldTo 15 = .ok (.caload, 1) := by decide +kernel
theorem dX7_soldTo_16 : decode cX7_soldTo 16 = .ok (.bipush 115, 2) := by decide +kernel
theorem dX7_soldTo_18 : decode cX7_soldTo 18 = .ok (.if_icmp .eq 9, 3) := by decide +kernel
theorem dX7_soldTo_21 : decode cX7_soldTo 21 = .ok (.aload_n 0, 1) := by decide +kernel
theorem dX7_soldTo_22 : decode cX7_soldTo 22 = .ok (.iconst 2, 1) := by decide +kernel
theorem dX7_soldTo_23 : decode cX7_soldTo 23 = .ok (.invokevirtual 107, 3) := by decide +kernel
theorem dX7_soldTo_26 : decode cX7_soldTo 26 = .ok (.ireturn, 1) := by decide +kernel
theorem dX7_soldTo_27 : decode cX7_soldTo 27 = .ok (.aload_n 0, 1) := by decide +kernel
theorem dX7_soldTo_28 : decode cX7_soldTo 28 = .ok (.getfield 19, 3) := by decide +kernel
theorem dX7_soldTo_31 : decode cX7_soldTo 31 = .ok (.iload_n 1, 1) := by decide +kernel
theorem dX7_soldTo_32 : decode cX7_soldTo 32 = .ok (.iaload, 1) := by decide +kernel
theorem dX7_soldTo_33 : decode cX7_soldTo 33 = .ok (.ireturn, 1) := by decide +kernel
theorem dX7_countOf_0 : decode cX7_countOf 0 = .ok (.iload_n 1, 1) := by decide +kernel
theorem dX7_countOf_1 : decode cX7_countOf 1 = .ok (.iconst 0, 1) := by decide +kernel
theorem dX7_countOf_2 : decode cX7_countOf 2 = .ok (.iconst 3, 1) := by decide +kernel
theorem dX7_countOf_3 : decode cX7_countOf 3 = .ok (.invokestatic 96, 3) := by decide +kernel
theorem dX7_countOf_6 : decode cX7_countOf 6 = .ok (.ifCond .eq 10, 3) := by decide +kernel
theorem dX7_countOf_9 : decode cX7_countOf 9 = .ok (.iload_n 2, 1) := by decide +kernel
theorem dX7_countOf_10 : decode cX7_countOf 10 = .ok (.invokestatic 103, 3) := by decide +kernel
theorem dX7_countOf_13 : decode cX7_countOf 13 = .ok (.ifCond .ne 9, 3) := by decide +kernel
theorem dX7_countOf_16 : decode cX7_countOf 16 = .ok (.aload_n 0, 1) := by decide +kernel
theorem dX7_countOf_17 : decode cX7_countOf 17 = .ok (.iconst 1, 1) := by decide +kernel
theorem dX7_countOf_18 : decode cX7_countOf 18 = .ok (.invokevirtual 107, 3) := by decide +kernel
theorem dX7_countOf_21 : decode cX7_countOf 21 = .ok (.ireturn, 1) := by decide +kernel
theorem dX7_countOf_22 : decode cX7_countOf 22 = .ok (.aload_n 0, 1) := by decide +kernel
theorem dX7_countOf_23 : decode cX7_countOf 23 = .ok (.iconst 0, 1) := by decide +kernel
theorem dX7_countOf_24 : decode cX7_countOf 24 = .ok (.putfield 89, 3) := by decide +kernel
theorem dX7_countOf_27 : decode cX7_countOf 27 = .ok (.iconst 0, 1) := by decide +kernel
theorem dX7_countOf_28 : decode cX7_countOf 28 = .ok (.istore_n 3, 1) := by decide +kernel
theorem dX7_countOf_29 : decode cX7_countOf 29 = .ok (.iconst 0, 1) := by decide +kernel
theorem dX7_countOf_30 : decode cX7_countOf 30 = .ok (.istore 4, 2) := by decide +kernel
theorem dX7_countOf_32 : decode cX7_countOf 32 = .ok (.iload 4, 2) := by decide +kernel
theorem dX7_countOf_34 : decode cX7_countOf 34 = .ok (.aload_n 0, 1) := by decide +kernel
theorem dX7_countOf_35 : decode cX7_countOf 35 = .ok (.getfield 93, 3) := by decide +kernel
theorem dX7_countOf_38 : decode cX7_countOf 38 = .ok (.if_icmp .ge 46, 3) := by decide +kernel
theorem dX7_countOf_41 : decode cX7_countOf 41 = .ok (.aload_n 0, 1) := by decide +kernel
theorem dX7_countOf_42 : decode cX7_countOf 42 = .ok (.getfield 22, 3) := by decide +kernel
theorem dX7_countOf_45 : decode cX7_countOf 45 = .ok (.iload 4, 2) := by decide +kernel
theorem dX7_countOf_47 : decode cX7_countOf 47 = .ok (.caload, 1) := by decide +kernel
theorem dX7_countOf_48 : decode cX7_countOf 48 = .ok (.bipush 111, 2) := by decide +kernel
theorem dX7_countOf_50 : decode cX7_countOf 50 = .ok (.if_icmp .ne 28, 3) := by decide +kernel
theorem dX7_countOf_53 : decode cX7_countOf 53 = .ok (.aload_n 0, 1) := by decide +kernel
theorem dX7_countOf_54 : decode cX7_countOf 54 = .ok (.getfield 7, 3) := by decide +kernel
theorem dX7_countOf_57 : decode cX7_countOf 57 = .ok (.iload 4, 2) := by decide +kernel
theorem dX7_countOf_59 : decode cX7_countOf 59 = .ok (.iaload, 1) := by decide +kernel
theorem dX7_countOf_60 : decode cX7_countOf 60 = .ok (.iload_n 1, 1) := by decide +kernel
theorem dX7_countOf_61 : decode cX7_countOf 61 = .ok (.if_icmp .ne 17, 3) := by decide +kernel
theorem dX7_countOf_64 : decode cX7_countOf 64 = .ok (.aload_n 0, 1) := by decide +kernel
theorem dX7_countOf_65 : decode cX7_countOf 65 = .ok (.getfield 13, 3) := by decide +kernel
theorem dX7_countOf_68 : decode cX7_countOf 68 = .ok (.iload 4, 2) := by decide +kernel
theorem dX7_countOf_70 : decode cX7_countOf 70 = .ok (.iaload, 1) := by decide +kernel
theorem dX7_countOf_71 : decode cX7_countOf 71 = .ok (.iload_n 2, 1) := by decide +kernel
theorem dX7_countOf_72 : decode cX7_countOf 72 = .ok (.if_icmp .ne 6, 3) := by decide +kernel
theorem dX7_countOf_75 : decode cX7_countOf 75 = .ok (.iinc 3 1, 3) := by decide +kernel
theorem dX7_countOf_78 : decode cX7_countOf 78 = .ok (.iinc 4 1, 3) := by decide +kernel
theorem dX7_countOf_81 : decode cX7_countOf 81 = .ok (.goto (-49), 3) := by decide +kernel
theorem dX7_countOf_84 : decode cX7_countOf 84 = .ok (.iload_n 3, 1) := by decide +kernel
theorem dX7_countOf_85 : decode cX7_countOf 85 = .ok (.ireturn, 1) := by decide +kernel
theorem dX7_noBid_0 : decode cX7_noBid 0 = .ok (.aload_n 0, 1) := by decide +kernel
theorem dX7_noBid_1 : decode cX7_noBid 1 = .ok (.aload_n 0, 1) := by decide +kernel
theorem dX7_noBid_2 : decode cX7_noBid 2 = .ok (.iload_n 1, 1) := by decide +kernel
theorem dX7_noBid_3 : decode cX7_noBid 3 = .ok (.invokevirtual 124, 3) := by decide +kernel
theorem dX7_noBid_6 : decode cX7_noBid 6 = .ok (.ifCond .eq 7, 3) := by decide +kernel
theorem dX7_noBid_9 : decode cX7_noBid 9 = .ok (.iconst 0, 1) := by decide +kernel
theorem dX7_noBid_10 : decode cX7_noBid 10 = .ok (.goto 4, 3) := by decide +kernel
theorem dX7_noBid_13 : decode cX7_noBid 13 = .ok (.iconst 1, 1) := by decide +kernel
theorem dX7_noBid_14 : decode cX7_noBid 14 = .ok (.putfield 89, 3) := by decide +kernel
theorem dX7_noBid_17 : decode cX7_noBid 17 = .ok (.aload_n 0, 1) := by decide +kernel
theorem dX7_noBid_18 : decode cX7_noBid 18 = .ok (.getfield 89, 3) := by decide +kernel
theorem dX7_noBid_21 : decode cX7_noBid 21 = .ok (.ifCond .eq 7, 3) := by decide +kernel
theorem dX7_noBid_24 : decode cX7_noBid 24 = .ok (.iconst 1, 1) := by decide +kernel
theorem dX7_noBid_25 : decode cX7_noBid 25 = .ok (.goto 4, 3) := by decide +kernel
theorem dX7_noBid_28 : decode cX7_noBid 28 = .ok (.iconst 0, 1) := by decide +kernel
theorem dX7_noBid_29 : decode cX7_noBid 29 = .ok (.ireturn, 1) := by decide +kernel
theorem dX7_items_0 : decode cX7_items 0 = .ok (.aload_n 0, 1) := by decide +kernel
theorem dX7_items_1 : decode cX7_items 1 = .ok (.iload_n 1, 1) := by decide +kernel
theorem dX7_items_2 : decode cX7_items 2 = .ok (.invokevirtual 173, 3) := by decide +kernel
theorem dX7_items_5 : decode cX7_items 5 = .ok (.ifCond .eq 7, 3) := by decide +kernel
theorem dX7_items_8 : decode cX7_items 8 = .ok (.iconst 0, 1) := by decide +kernel
theorem dX7_items_9 : decode cX7_items 9 = .ok (.goto 9, 3) := by decide +kernel
theorem dX7_items_12 : decode cX7_items 12 = .ok (.aload_n 0, 1) := by decide +kernel
theorem dX7_items_13 : decode cX7_items 13 = .ok (.getfield 38, 3) := by decide +kernel
theorem dX7_items_16 : decode cX7_items 16 = .ok (.iload_n 1, 1) := by decide +kernel
theorem dX7_items_17 : decode cX7_items 17 = .ok (.iaload, 1) := by decide +kernel
theorem dX7_items_18 : decode cX7_items 18 = .ok (.ireturn, 1) := by decide +kernel
theorem dX7_fits_0 : decode cX7_fits 0 = .ok (.aload_n 0, 1) := by decide +kernel
theorem dX7_fits_1 : decode cX7_fits 1 = .ok (.aload_n 0, 1) := by decide +kernel
theorem dX7_fits_2 : decode cX7_fits 2 = .ok (.iload_n 1, 1) := by decide +kernel
theorem dX7_fits_3 : decode cX7_fits 3 = .ok (.invokevirtual 114, 3) := by decide +kernel
theorem dX7_fits_6 : decode cX7_fits 6 = .ok (.ifCond .eq 11, 3) := by decide +kernel
theorem dX7_fits_9 : decode cX7_fits 9 = .ok (.aload_n 0, 1) := by decide +kernel
theorem dX7_fits_10 : decode cX7_fits 10 = .ok (.iload_n 2, 1) := by decide +kernel
theorem dX7_fits_11 : decode cX7_fits 11 = .ok (.invokevirtual 124, 3) := by decide +kernel
theorem dX7_fits_14 : decode cX7_fits 14 = .ok (.ifCond .ne 7, 3) := by decide +kernel
theorem dX7_fits_17 : decode cX7_fits 17 = .ok (.iconst 1, 1) := by decide +kernel
theorem dX7_fits_18 : decode cX7_fits 18 = .ok (.goto 24, 3) := by decide +kernel
theorem dX7_fits_21 : decode cX7_fits 21 = .ok (.iload_n 3, 1) := by decide +kernel
theorem dX7_fits_22 : decode cX7_fits 22 = .ok (.iconst 0, 1) := by decide +kernel
theorem dX7_fits_23 : decode cX7_fits 23 = .ok (.aload_n 0, 1) := by decide +kernel
theorem dX7_fits_24 : decode cX7_fits 24 = .ok (.getfield 38, 3) := by decide +kernel
theorem dX7_fits_27 : decode cX7_fits 27 = .ok (.iload_n 2, 1) := by decide +kernel
theorem dX7_fits_28 : decode cX7_fits 28 = .ok (.iaload, 1) := by decide +kernel
theorem dX7_fits_29 : decode cX7_fits 29 = .ok (.iconst 1, 1) := by decide +kernel
theorem dX7_fits_30 : decode cX7_fits 30 = .ok (.isub, 1) := by decide +kernel
theorem dX7_fits_31 : decode cX7_fits 31 = .ok (.invokestatic 96, 3) := by decide +kernel
theorem dX7_fits_34 : decode cX7_fits 34 = .ok (.ifCond .ne 7, 3) := by decide +kernel
theorem dX7_fits_37 : decode cX7_fits 37 = .ok (.iconst 2, 1) := by decide +kernel
theorem dX7_fits_38 : decode cX7_fits 38 = .ok (.goto 4, 3) := by decide +kernel
theorem dX7_fits_41 : decode cX7_fits 41 = .ok (.iconst 0, 1) := by decide +kernel
theorem dX7_fits_42 : decode cX7_fits 42 = .ok (.putfield 89, 3) := by decide +kernel
theorem dX7_fits_45 : decode cX7_fits 45 = .ok (.aload_n 0, 1) := by decide +kernel
theorem dX7_fits_46 : decode cX7_fits 46 = .ok (.getfield 89, 3) := by decide +kernel
theorem dX7_fits_49 : decode cX7_fits 49 = .ok (.ifCond .ne 20, 3) := by decide +kernel
theorem dX7_fits_52 : decode cX7_fits 52 = .ok (.aload_n 0, 1) := by decide +kernel
theorem dX7_fits_53 : decode cX7_fits 53 = .ok (.iload_n 1, 1) := by decide +kernel
theorem dX7_fits_54 : decode cX7_fits 54 = .ok (.iconst 3, 1) := by decide +kernel
theorem dX7_fits_55 : decode cX7_fits 55 = .ok (.iload_n 2, 1) := by decide +kernel
theorem dX7_fits_56 : decode cX7_fits 56 = .ok (.imul, 1) := by decide +kernel
theorem dX7_fits_57 : decode cX7_fits 57 = .ok (.iload_n 3, 1) := by decide +kernel
theorem dX7_fits_58 : decode cX7_fits 58 = .ok (.iadd, 1) := by decide +kernel
theorem dX7_fits_59 : decode cX7_fits 59 = .ok (.invokevirtual 128, 3) := by decide +kernel
theorem dX7_fits_62 : decode cX7_fits 62 = .ok (.ifCond .eq 7, 3) := by decide +kernel
theorem dX7_fits_65 : decode cX7_fits 65 = .ok (.iconst 1, 1) := by decide +kernel
theorem dX7_fits_66 : decode cX7_fits 66 = .ok (.goto 4, 3) := by decide +kernel
theorem dX7_fits_69 : decode cX7_fits 69 = .ok (.iconst 0, 1) := by decide +kernel
theorem dX7_fits_70 : decode cX7_fits 70 = .ok (.ireturn, 1) := by decide +kernel
theorem dX7_fitting_0 : decode cX7_fitting 0 = .ok (.aload_n 0, 1) := by decide +kernel
theorem dX7_fitting_1 : decode cX7_fitting 1 = .ok (.iload_n 1, 1) := by decide +kernel
theorem dX7_fitting_2 : decode cX7_fitting 2 = .ok (.invokevirtual 173, 3) := by decide +kernel
theorem dX7_fitting_5 : decode cX7_fitting 5 = .ok (.ifCond .eq 5, 3) := by decide +kernel
theorem dX7_fitting_8 : decode cX7_fitting 8 = .ok (.iconst 0, 1) := by decide +kernel
theorem dX7_fitting_9 : decode cX7_fitting 9 = .ok (.ireturn, 1) := by decide +kernel
theorem dX7_fitting_10 : decode cX7_fitting 10 = .ok (.iload_n 2, 1) := by decide +kernel
theorem dX7_fitting_11 : decode cX7_fitting 11 = .ok (.iconst 0, 1) := by decide +kernel
theorem dX7_fitting_12 : decode cX7_fitting 12 = .ok (.aload_n 0, 1) := by decide +kernel
theorem dX7_fitting_13 : decode cX7_fitting 13 = .ok (.getfield 38, 3) := by decide +kernel
theorem dX7_fitting_16 : decode cX7_fitting 16 = .ok (.iload_n 1, 1) := by decide +kernel
theorem dX7_fitting_17 : decode cX7_fitting 17 = .ok (.iaload, 1) := by decide +kernel
theorem dX7_fitting_18 : decode cX7_fitting 18 = .ok (.iconst 1, 1) := by decide +kernel
theorem dX7_fitting_19 : decode cX7_fitting 19 = .ok (.isub, 1) := by decide +kernel
theorem dX7_fitting_20 : decode cX7_fitting 20 = .ok (.invokestatic 96, 3) := by decide +kernel
theorem dX7_fitting_23 : decode cX7_fitting 23 = .ok (.ifCond .ne 9, 3) := by decide +kernel
theorem dX7_fitting_26 : decode cX7_fitting 26 = .ok (.aload_n 0, 1) := by decide +kernel
theorem dX7_fitting_27 : decode cX7_fitting 27 = .ok (.iconst 2, 1) := by decide +kernel
theorem dX7_fitting_28 : decode cX7_fitting 28 = .ok (.invokevirtual 107, 3) := by decide +kernel
theorem dX7_fitting_31 : decode cX7_fitting 31 = .ok (.ireturn, 1) := by decide +kernel
theorem dX7_fitting_32 : decode cX7_fitting 32 = .ok (.iconst 0, 1) := by decide +kernel
theorem dX7_fitting_33 : decode cX7_fitting 33 = .ok (.istore_n 3, 1) := by decide +kernel
theorem dX7_fitting_34 : decode cX7_fitting 34 = .ok (.iconst 0, 1) := by decide +kernel
theorem dX7_fitting_35 : decode cX7_fitting 35 = .ok (.istore 4, 2) := by decide +kernel
theorem dX7_fitting_37 : decode cX7_fitting 37 = .ok (.iload 4, 2) := by decide +kernel
theorem dX7_fitting_39 : decode cX7_fitting 39 = .ok (.aload_n 0, 1) := by decide +kernel
theorem dX7_fitting_40 : decode cX7_fitting 40 = .ok (.getfield 93, 3) := by decide +kernel
theorem dX7_fitting_43 : decode cX7_fitting 43 = .ok (.if_icmp .ge 38, 3) := by decide +kernel
theorem dX7_fitting_46 : decode cX7_fitting 46 = .ok (.aload_n 0, 1) := by decide +kernel
theorem dX7_fitting_47 : decode cX7_fitting 47 = .ok (.getfield 22, 3) := by decide +kernel
theorem dX7_fitting_50 : decode cX7_fitting 50 = .ok (.iload 4, 2) := by decide +kernel
theorem dX7_fitting_52 : decode cX7_fitting 52 = .ok (.caload, 1) := by decide +kernel
theorem dX7_fitting_53 : decode cX7_fitting 53 = .ok (.bipush 111, 2) := by decide +kernel
theorem dX7_fitting_55 : decode cX7_fitting 55 = .ok (.if_icmp .ne 20, 3) := by decide +kernel
theorem dX7_fitting_58 : decode cX7_fitting 58 = .ok (.aload_n 0, 1) := by decide +kernel
theorem dX7_fitting_59 : decode cX7_fitting 59 = .ok (.iload 4, 2) := by decide +kernel
theorem dX7_fitting_61 : decode cX7_fitting 61 = .ok (.iconst 3, 1) := by decide +kernel
theorem dX7_fitting_62 : decode cX7_fitting 62 = .ok (.iload_n 1, 1) := by decide +kernel
theorem dX7_fitting_63 : decode cX7_fitting 63 = .ok (.imul, 1) := by decide +kernel
theorem dX7_fitting_64 : decode cX7_fitting 64 = .ok (.iload_n 2, 1) := by decide +kernel
theorem dX7_fitting_65 : decode cX7_fitting 65 = .ok (.iadd, 1) := by decide +kernel
theorem dX7_fitting_66 : decode cX7_fitting 66 = .ok (.invokevirtual 128, 3) := by decide +kernel
theorem dX7_fitting_69 : decode cX7_fitting 69 = .ok (.ifCond .eq 6, 3) := by decide +kernel
theorem dX7_fitting_72 : decode cX7_fitting 72 = .ok (.iinc 3 1, 3) := by decide +kernel
theorem dX7_fitting_75 : decode cX7_fitting 75 = .ok (.iinc 4 1, 3) := by decide +kernel
theorem dX7_fitting_78 : decode cX7_fitting 78 = .ok (.goto (-41), 3) := by decide +kernel
theorem dX7_fitting_81 : decode cX7_fitting 81 = .ok (.iload_n 3, 1) := by decide +kernel
theorem dX7_fitting_82 : decode cX7_fitting 82 = .ok (.ireturn, 1) := by decide +kernel
theorem dX7_priceOf_0 : decode cX7_priceOf 0 = .ok (.aload_n 0, 1) := by decide +kernel
theorem dX7_priceOf_1 : decode cX7_priceOf 1 = .ok (.iload_n 1, 1) := by decide +kernel
theorem dX7_priceOf_2 : decode cX7_priceOf 2 = .ok (.invokevirtual 173, 3) := by decide +kernel
theorem dX7_priceOf_5 : decode cX7_priceOf 5 = .ok (.ifCond .eq 7, 3) := by decide +kernel
theorem dX7_priceOf_8 : decode cX7_priceOf 8 = .ok (.iconst 0, 1) := by decide +kernel
theorem dX7_priceOf_9 : decode cX7_priceOf 9 = .ok (.goto 9, 3) := by decide +kernel
theorem dX7_priceOf_12 : decode cX7_priceOf 12 = .ok (.aload_n 0, 1) := by decide +kernel
theorem dX7_priceOf_13 : decode cX7_priceOf 13 = .ok (.getfield 35, 3) := by decide +kernel
theorem dX7_priceOf_16 : decode cX7_priceOf 16 = .ok (.iload_n 1, 1) := by decide +kernel
theorem dX7_priceOf_17 : decode cX7_priceOf 17 = .ok (.iaload, 1) := by decide +kernel
theorem dX7_priceOf_18 : decode cX7_priceOf 18 = .ok (.ireturn, 1) := by decide +kernel
theorem dX7_stateOf_0 : decode cX7_stateOf 0 = .ok (.aload_n 0, 1) := by decide +kernel
theorem dX7_stateOf_1 : decode cX7_stateOf 1 = .ok (.iload_n 1, 1) := by decide +kernel
theorem dX7_stateOf_2 : decode cX7_stateOf 2 = .ok (.invokevirtual 173, 3) := by decide +kernel
theorem dX7_stateOf_5 : decode cX7_stateOf 5 = .ok (.ifCond .eq 8, 3) := by decide +kernel
theorem dX7_stateOf_8 : decode cX7_stateOf 8 = .ok (.bipush 111, 2) := by decide +kernel
theorem dX7_stateOf_10 : decode cX7_stateOf 10 = .ok (.goto 9, 3) := by decide +kernel
theorem dX7_stateOf_13 : decode cX7_stateOf 13 = .ok (.aload_n 0, 1) := by decide +kernel
theorem dX7_stateOf_14 : decode cX7_stateOf 14 = .ok (.getfield 26, 3) := by decide +kernel
theorem dX7_stateOf_17 : decode cX7_stateOf 17 = .ok (.iload_n 1, 1) := by decide +kernel
theorem dX7_stateOf_18 : decode cX7_stateOf 18 = .ok (.caload, 1) := by decide +kernel
theorem dX7_stateOf_19 : decode cX7_stateOf 19 = .ok (.ireturn, 1) := by decide +kernel
theorem dX7_reason_0 : decode cX7_reason 0 = .ok (.aload_n 0, 1) := by decide +kernel
theorem dX7_reason_1 : decode cX7_reason 1 = .ok (.iload_n 1, 1) := by decide +kernel
theorem dX7_reason_2 : decode cX7_reason 2 = .ok (.invokevirtual 173, 3) := by decide +kernel
theorem dX7_reason_5 : decode cX7_reason 5 = .ok (.ifCond .ne 23, 3) := by decide +kernel
theorem dX7_reason_8 : decode cX7_reason 8 = .ok (.aload_n 0, 1) := by decide +kernel
theorem dX7_reason_9 : decode cX7_reason 9 = .ok (.aload_n 0, 1) := by decide +kernel
theorem dX7_reason_10 : decode cX7_reason 10 = .ok (.getfield 26, 3) := by decide +kernel
theorem dX7_reason_13 : decode cX7_reason 13 = .ok (.iload_n 1, 1) := by decide +kernel
theorem dX7_reason_14 : decode cX7_reason 14 = .ok (.caload, 1) := by decide +kernel
theorem dX7_reason_15 : decode cX7_reason 15 = .ok (.bipush 108, 2) := by decide +kernel
theorem dX7_reason_17 : decode cX7_reason 17 = .ok (.if_icmp .ne 7, 3) := by decide +kernel
theorem dX7_reason_20 : decode cX7_reason 20 = .ok (.iconst 0, 1) := by decide +kernel
theorem dX7_reason_21 : decode cX7_reason 21 = .ok (.goto 4, 3) := by decide +kernel
theorem dX7_reason_24 : decode cX7_reason 24 = .ok (.iconst 2, 1) := by decide +kernel
theorem dX7_reason_25 : decode cX7_reason 25 = .ok (.putfield 89, 3) := by decide +kernel
theorem dX7_reason_28 : decode cX7_reason 28 = .ok (.aload_n 0, 1) := by decide +kernel
theorem dX7_reason_29 : decode cX7_reason 29 = .ok (.getfield 89, 3) := by decide +kernel
theorem dX7_reason_32 : decode cX7_reason 32 = .ok (.ifCond .ne 12, 3) := by decide +kernel
theorem dX7_reason_35 : decode cX7_reason 35 = .ok (.aload_n 0, 1) := by decide +kernel
theorem dX7_reason_36 : decode cX7_reason 36 = .ok (.getfield 29, 3) := by decide +kernel
theorem dX7_reason_39 : decode cX7_reason 39 = .ok (.iload_n 1, 1) := by decide +kernel
theorem dX7_reason_40 : decode cX7_reason 40 = .ok (.caload, 1) := by decide +kernel
theorem dX7_reason_41 : decode cX7_reason 41 = .ok (.goto 5, 3) := by decide +kernel
theorem dX7_reason_44 : decode cX7_reason 44 = .ok (.bipush 109, 2) := by decide +kernel
theorem dX7_reason_46 : decode cX7_reason 46 = .ok (.ireturn, 1) := by decide +kernel
theorem dX7_rival_0 : decode cX7_rival 0 = .ok (.aload_n 0, 1) := by decide +kernel
theorem dX7_rival_1 : decode cX7_rival 1 = .ok (.iload_n 1, 1) := by decide +kernel
theorem dX7_rival_2 : decode cX7_rival 2 = .ok (.invokevirtual 173, 3) := by decide +kernel
theorem dX7_rival_5 : decode cX7_rival 5 = .ok (.ifCond .eq 5, 3) := by decide +kernel
theorem dX7_rival_8 : decode cX7_rival 8 = .ok (.iconst 0, 1) := by decide +kernel
theorem dX7_rival_9 : decode cX7_rival 9 = .ok (.ireturn, 1) := by decide +kernel
theorem dX7_rival_10 : decode cX7_rival 10 = .ok (.aload_n 0, 1) := by decide +kernel
theorem dX7_rival_11 : decode cX7_rival 11 = .ok (.getfield 26, 3) := by decide +kernel
theorem dX7_rival_14 : decode cX7_rival 14 = .ok (.iload_n 1, 1) := by decide +kernel
theorem dX7_rival_15 : decode cX7_rival 15 = .ok (.caload, 1) := by decide +kernel
theorem dX7_rival_16 : decode cX7_rival 16 = .ok (.bipush 108, 2) := by decide +kernel
theorem dX7_rival_18 : decode cX7_rival 18 = .ok (.if_icmp .ne 14, 3) := by decide +kernel
theorem dX7_rival_21 : decode cX7_rival 21 = .ok (.aload_n 0, 1) := by decide +kernel
theorem dX7_rival_22 : decode cX7_rival 22 = .ok (.getfield 29, 3) := by decide +kernel
theorem dX7_rival_25 : decode cX7_rival 25 = .ok (.iload_n 1, 1) := by decide +kernel
theorem dX7_rival_26 : decode cX7_rival 26 = .ok (.caload, 1) := by decide +kernel
theorem dX7_rival_27 : decode cX7_rival 27 = .ok (.bipush 98, 2) := by decide +kernel
theorem dX7_rival_29 : decode cX7_rival 29 = .ok (.if_icmp .eq 9, 3) := by decide +kernel
theorem dX7_rival_32 : decode cX7_rival 32 = .ok (.aload_n 0, 1) := by decide +kernel
theorem dX7_rival_33 : decode cX7_rival 33 = .ok (.iconst 2, 1) := by decide +kernel
theorem dX7_rival_34 : decode cX7_rival 34 = .ok (.invokevirtual 107, 3) := by decide +kernel
theorem dX7_rival_37 : decode cX7_rival 37 = .ok (.ireturn, 1) := by decide +kernel
theorem dX7_rival_38 : decode cX7_rival 38 = .ok (.aload_n 0, 1) := by decide +kernel
theorem dX7_rival_39 : decode cX7_rival 39 = .ok (.getfield 53, 3) := by decide +kernel
theorem dX7_rival_42 : decode cX7_rival 42 = .ok (.iload_n 1, 1) := by decide +kernel
theorem dX7_rival_43 : decode cX7_rival 43 = .ok (.iaload, 1) := by decide +kernel
theorem dX7_rival_44 : decode cX7_rival 44 = .ok (.ireturn, 1) := by decide +kernel
theorem dX7_lotOf_0 : decode cX7_lotOf 0 = .ok (.aload_n 0, 1) := by decide +kernel
theorem dX7_lotOf_1 : decode cX7_lotOf 1 = .ok (.iload_n 1, 1) := by decide +kernel
theorem dX7_lotOf_2 : decode cX7_lotOf 2 = .ok (.invokevirtual 173, 3) := by decide +kernel
theorem dX7_lotOf_5 : decode cX7_lotOf 5 = .ok (.ifCond .eq 5, 3) := by decide +kernel
theorem dX7_lotOf_8 : decode cX7_lotOf 8 = .ok (.iconst 0, 1) := by decide +kernel
theorem dX7_lotOf_9 : decode cX7_lotOf 9 = .ok (.ireturn, 1) := by decide +kernel
theorem dX7_lotOf_10 : decode cX7_lotOf 10 = .ok (.iload_n 2, 1) := by decide +kernel
theorem dX7_lotOf_11 : decode cX7_lotOf 11 = .ok (.iconst 0, 1) := by decide +kernel
theorem dX7_lotOf_12 : decode cX7_lotOf 12 = .ok (.aload_n 0, 1) := by decide +kernel
theorem dX7_lotOf_13 : decode cX7_lotOf 13 = .ok (.getfield 38, 3) := by decide +kernel
theorem dX7_lotOf_16 : decode cX7_lotOf 16 = .ok (.iload_n 1, 1) := by decide +kernel
theorem dX7_lotOf_17 : decode cX7_lotOf 17 = .ok (.iaload, 1) := by decide +kernel
theorem dX7_lotOf_18 : decode cX7_lotOf 18 = .ok (.iconst 1, 1) := by decide +kernel
theorem dX7_lotOf_19 : decode cX7_lotOf 19 = .ok (.isub, 1) := by decide +kernel
theorem dX7_lotOf_20 : decode cX7_lotOf 20 = .ok (.invokestatic 96, 3) := by decide +kernel
theorem dX7_lotOf_23 : decode cX7_lotOf 23 = .ok (.ifCond .ne 9, 3) := by decide +kernel
theorem dX7_lotOf_26 : decode cX7_lotOf 26 = .ok (.aload_n 0, 1) := by decide +kernel
theorem dX7_lotOf_27 : decode cX7_lotOf 27 = .ok (.iconst 2, 1) := by decide +kernel
theorem dX7_lotOf_28 : decode cX7_lotOf 28 = .ok (.invokevirtual 107, 3) := by decide +kernel
theorem dX7_lotOf_31 : decode cX7_lotOf 31 = .ok (.ireturn, 1) := by decide +kernel
theorem dX7_lotOf_32 : decode cX7_lotOf 32 = .ok (.aload_n 0, 1) := by decide +kernel
theorem dX7_lotOf_33 : decode cX7_lotOf 33 = .ok (.getfield 26, 3) := by decide +kernel
theorem dX7_lotOf_36 : decode cX7_lotOf 36 = .ok (.iload_n 1, 1) := by decide +kernel
theorem dX7_lotOf_37 : decode cX7_lotOf 37 = .ok (.caload, 1) := by decide +kernel
theorem dX7_lotOf_38 : decode cX7_lotOf 38 = .ok (.bipush 119, 2) := by decide +kernel
theorem dX7_lotOf_40 : decode cX7_lotOf 40 = .ok (.if_icmp .eq 9, 3) := by decide +kernel
theorem dX7_lotOf_43 : decode cX7_lotOf 43 = .ok (.aload_n 0, 1) := by decide +kernel
theorem dX7_lotOf_44 : decode cX7_lotOf 44 = .ok (.iconst 3, 1) := by decide +kernel
theorem dX7_lotOf_45 : decode cX7_lotOf 45 = .ok (.invokevirtual 107, 3) := by decide +kernel
theorem dX7_lotOf_48 : decode cX7_lotOf 48 = .ok (.ireturn, 1) := by decide +kernel
theorem dX7_lotOf_49 : decode cX7_lotOf 49 = .ok (.aload_n 0, 1) := by decide +kernel
theorem dX7_lotOf_50 : decode cX7_lotOf 50 = .ok (.getfield 47, 3) := by decide +kernel
theorem dX7_lotOf_53 : decode cX7_lotOf 53 = .ok (.iconst 3, 1) := by decide +kernel
theorem dX7_lotOf_54 : decode cX7_lotOf 54 = .ok (.iload_n 1, 1) := by decide +kernel
theorem dX7_lotOf_55 : decode cX7_lotOf 55 = .ok (.imul, 1) := by decide +kernel
theorem dX7_lotOf_56 : decode cX7_lotOf 56 = .ok (.iload_n 2, 1) := by decide +kernel
theorem dX7_lotOf_57 : decode cX7_lotOf 57 = .ok (.iadd, 1) := by decide +kernel
theorem dX7_lotOf_58 : decode cX7_lotOf 58 = .ok (.iaload, 1) := by decide +kernel
theorem dX7_lotOf_59 : decode cX7_lotOf 59 = .ok (.ireturn, 1) := by decide +kernel
theorem dX7_paid_0 : decode cX7_paid 0 = .ok (.aload_n 0, 1) := by decide +kernel
theorem dX7_paid_1 : decode cX7_paid 1 = .ok (.iload_n 1, 1) := by decide +kernel
theorem dX7_paid_2 : decode cX7_paid 2 = .ok (.invokevirtual 173, 3) := by decide +kernel
theorem dX7_paid_5 : decode cX7_paid 5 = .ok (.ifCond .eq 5, 3) := by decide +kernel
theorem dX7_paid_8 : decode cX7_paid 8 = .ok (.iconst 0, 1) := by decide +kernel
theorem dX7_paid_9 : decode cX7_paid 9 = .ok (.ireturn, 1) := by decide +kernel
theorem dX7_paid_10 : decode cX7_paid 10 = .ok (.aload_n 0, 1) := by decide +kernel
theorem dX7_paid_11 : decode cX7_paid 11 = .ok (.getfield 26, 3) := by decide +kernel
theorem dX7_paid_14 : decode cX7_paid 14 = .ok (.iload_n 1, 1) := by decide +kernel
theorem dX7_paid_15 : decode cX7_paid 15 = .ok (.caload, 1) := by decide +kernel
theorem dX7_paid_16 : decode cX7_paid 16 = .ok (.bipush 119, 2) := by decide +kernel
theorem dX7_paid_18 : decode cX7_paid 18 = .ok (.if_icmp .eq 9, 3) := by decide +kernel
theorem dX7_paid_21 : decode cX7_paid 21 = .ok (.aload_n 0, 1) := by decide +kernel
theorem dX7_paid_22 : decode cX7_paid 22 = .ok (.iconst 2, 1) := by decide +kernel
theorem dX7_paid_23 : decode cX7_paid 23 = .ok (.invokevirtual 107, 3) := by decide +kernel
theorem dX7_paid_26 : decode cX7_paid 26 = .ok (.ireturn, 1) := by decide +kernel
theorem dX7_paid_27 : decode cX7_paid 27 = .ok (.aload_n 0, 1) := by decide +kernel
theorem dX7_paid_28 : decode cX7_paid 28 = .ok (.getfield 50, 3) := by decide +kernel
theorem dX7_paid_31 : decode cX7_paid 31 = .ok (.iload_n 1, 1) := by decide +kernel
theorem dX7_paid_32 : decode cX7_paid 32 = .ok (.iaload, 1) := by decide +kernel
theorem dX7_paid_33 : decode cX7_paid 33 = .ok (.ireturn, 1) := by decide +kernel
theorem dX7_costOf_0 : decode cX7_costOf 0 = .ok (.aload_n 0, 1) := by decide +kernel
theorem dX7_costOf_1 : decode cX7_costOf 1 = .ok (.iload_n 1, 1) := by decide +kernel
theorem dX7_costOf_2 : decode cX7_costOf 2 = .ok (.invokevirtual 173, 3) := by decide +kernel
theorem dX7_costOf_5 : decode cX7_costOf 5 = .ok (.ifCond .eq 5, 3) := by decide +kernel
theorem dX7_costOf_8 : decode cX7_costOf 8 = .ok (.iconst 0, 1) := by decide +kernel
theorem dX7_costOf_9 : decode cX7_costOf 9 = .ok (.ireturn, 1) := by decide +kernel
theorem dX7_costOf_10 : decode cX7_costOf 10 = .ok (.aload_n 0, 1) := by decide +kernel
theorem dX7_costOf_11 : decode cX7_costOf 11 = .ok (.getfield 26, 3) := by decide +kernel
theorem dX7_costOf_14 : decode cX7_costOf 14 = .ok (.iload_n 1, 1) := by decide +kernel
theorem dX7_costOf_15 : decode cX7_costOf 15 = .ok (.caload, 1) := by decide +kernel
theorem dX7_costOf_16 : decode cX7_costOf 16 = .ok (.bipush 111, 2) := by decide +kernel
theorem dX7_costOf_18 : decode cX7_costOf 18 = .ok (.if_icmp .eq 9, 3) := by decide +kernel
theorem dX7_costOf_21 : decode cX7_costOf 21 = .ok (.aload_n 0, 1) := by decide +kernel
theorem dX7_costOf_22 : decode cX7_costOf 22 = .ok (.iconst 2, 1) := by decide +kernel
theorem dX7_costOf_23 : decode cX7_costOf 23 = .ok (.invokevirtual 107, 3) := by decide +kernel
theorem dX7_costOf_26 : decode cX7_costOf 26 = .ok (.ireturn, 1) := by decide +kernel
theorem dX7_costOf_27 : decode cX7_costOf 27 = .ok (.aload_n 0, 1) := by decide +kernel
theorem dX7_costOf_28 : decode cX7_costOf 28 = .ok (.invokevirtual 152, 3) := by decide +kernel
theorem dX7_costOf_31 : decode cX7_costOf 31 = .ok (.iconst 0, 1) := by decide +kernel
theorem dX7_costOf_32 : decode cX7_costOf 32 = .ok (.istore_n 2, 1) := by decide +kernel
theorem dX7_costOf_33 : decode cX7_costOf 33 = .ok (.iload_n 2, 1) := by decide +kernel
theorem dX7_costOf_34 : decode cX7_costOf 34 = .ok (.aload_n 0, 1) := by decide +kernel
theorem dX7_costOf_35 : decode cX7_costOf 35 = .ok (.getfield 121, 3) := by decide +kernel
theorem dX7_costOf_38 : decode cX7_costOf 38 = .ok (.if_icmp .ge 48, 3) := by decide +kernel
theorem dX7_costOf_41 : decode cX7_costOf 41 = .ok (.aload_n 0, 1) := by decide +kernel
theorem dX7_costOf_42 : decode cX7_costOf 42 = .ok (.getfield 68, 3) := by decide +kernel
theorem dX7_costOf_45 : decode cX7_costOf 45 = .ok (.iload_n 2, 1) := by decide +kernel
theorem dX7_costOf_46 : decode cX7_costOf 46 = .ok (.iaload, 1) := by decide +kernel
theorem dX7_costOf_47 : decode cX7_costOf 47 = .ok (.iload_n 1, 1) := by decide +kernel
theorem dX7_costOf_48 : decode cX7_costOf 48 = .ok (.if_icmp .ne 32, 3) := by decide +kernel
theorem dX7_costOf_51 : decode cX7_costOf 51 = .ok (.aload_n 0, 1) := by decide +kernel
theorem dX7_costOf_52 : decode cX7_costOf 52 = .ok (.getfield 71, 3) := by decide +kernel
theorem dX7_costOf_55 : decode cX7_costOf 55 = .ok (.iconst 1, 1) := by decide +kernel
theorem dX7_costOf_56 : decode cX7_costOf 56 = .ok (.iload_n 2, 1) := by decide +kernel
theorem dX7_costOf_57 : decode cX7_costOf 57 = .ok (.ishl, 1) := by decide +kernel
theorem dX7_costOf_58 : decode cX7_costOf 58 = .ok (.iaload, 1) := by decide +kernel
theorem dX7_costOf_59 : decode cX7_costOf 59 = .ok (.ldc 145, 2) := by decide +kernel
theorem dX7_costOf_61 : decode cX7_costOf 61 = .ok (.if_icmp .eq 19, 3) := by decide +kernel
theorem dX7_costOf_64 : decode cX7_costOf 64 = .ok (.aload_n 0, 1) := by decide +kernel
theorem dX7_costOf_65 : decode cX7_costOf 65 = .ok (.getfield 35, 3) := by decide +kernel
theorem dX7_costOf_68 : decode cX7_costOf 68 = .ok (.iload_n 1, 1) := by decide +kernel
theorem dX7_costOf_69 : decode cX7_costOf 69 = .ok (.iaload, 1) := by decide +kernel
theorem dX7_costOf_70 : decode cX7_costOf 70 = .ok (.aload_n 0, 1) := by decide +kernel
theorem dX7_costOf_71 : decode cX7_costOf 71 = .ok (.getfield 71, 3) := by decide +kernel
theorem dX7_costOf_74 : decode cX7_costOf 74 = .ok (.iconst 1, 1) := by decide +kernel
theorem dX7_costOf_75 : decode cX7_costOf 75 = .ok (.iload_n 2, 1) := by decide +kernel
theorem dX7_costOf_76 : decode cX7_costOf 76 = .ok (.ishl, 1) := by decide +kernel
theorem dX7_costOf_77 : decode cX7_costOf 77 = .ok (.iaload, 1) := by decide +kernel
theorem dX7_costOf_78 : decode cX7_costOf 78 = .ok (.isub, 1) := by decide +kernel
theorem dX7_costOf_79 : decode cX7_costOf 79 = .ok (.ireturn, 1) := by decide +kernel
theorem dX7_costOf_80 : decode cX7_costOf 80 = .ok (.iinc 2 1, 3) := by decide +kernel
theorem dX7_costOf_83 : decode cX7_costOf 83 = .ok (.goto (-50), 3) := by decide +kernel
theorem dX7_costOf_86 : decode cX7_costOf 86 = .ok (.aload_n 0, 1) := by decide +kernel
theorem dX7_costOf_87 : decode cX7_costOf 87 = .ok (.iconst 3, 1) := by decide +kernel
theorem dX7_costOf_88 : decode cX7_costOf 88 = .ok (.invokevirtual 107, 3) := by decide +kernel
theorem dX7_costOf_91 : decode cX7_costOf 91 = .ok (.ireturn, 1) := by decide +kernel
theorem dX7_surplus_0 : decode cX7_surplus 0 = .ok (.aload_n 0, 1) := by decide +kernel
theorem dX7_surplus_1 : decode cX7_surplus 1 = .ok (.invokevirtual 152, 3) := by decide +kernel
theorem dX7_surplus_4 : decode cX7_surplus 4 = .ok (.aload_n 0, 1) := by decide +kernel
theorem dX7_surplus_5 : decode cX7_surplus 5 = .ok (.getfield 71, 3) := by decide +kernel
theorem dX7_surplus_8 : decode cX7_surplus 8 = .ok (.aload_n 0, 1) := by decide +kernel
theorem dX7_surplus_9 : decode cX7_surplus 9 = .ok (.iconst (-1), 1) := by decide +kernel
theorem dX7_surplus_10 : decode cX7_surplus 10 = .ok (.invokevirtual 149, 3) := by decide +kernel
theorem dX7_surplus_13 : decode cX7_surplus 13 = .ok (.iaload, 1) := by decide +kernel
theorem dX7_surplus_14 : decode cX7_surplus 14 = .ok (.ireturn, 1) := by decide +kernel
theorem dX7_surplusBySets_0 : decode cX7_surplusBySets 0 = .ok (.aload_n 0, 1) := by decide +kernel
theorem dX7_surplusBySets_1 : decode cX7_surplusBySets 1 = .ok (.invokevirtual 176, 3) := by decide +kernel
theorem dX7_surplusBySets_4 : decode cX7_surplusBySets 4 = .ok (.ireturn, 1) := by decide +kernel
theorem dX7_surplusWithout_0 : decode cX7_surplusWithout 0 = .ok (.iload_n 1, 1) := by decide +kernel
theorem dX7_surplusWithout_1 : decode cX7_surplusWithout 1 = .ok (.iconst 0, 1) := by decide +kernel
theorem dX7_surplusWithout_2 : decode cX7_surplusWithout 2 = .ok (.bipush 7, 2) := by decide +kernel
theorem dX7_surplusWithout_4 : decode cX7_surplusWithout 4 = .ok (.invokestatic 96, 3) := by decide +kernel
theorem dX7_surplusWithout_7 : decode cX7_surplusWithout 7 = .ok (.ifCond .ne 9, 3) := by decide +kernel
theorem dX7_surplusWithout_10 : decode cX7_surplusWithout 10 = .ok (.aload_n 0, 1) := by decide +kernel
theorem dX7_surplusWithout_11 : decode cX7_surplusWithout 11 = .ok (.iconst 1, 1) := by decide +kernel
theorem dX7_surplusWithout_12 : decode cX7_surplusWithout 12 = .ok (.invokevirtual 107, 3) := by decide +kernel
theorem dX7_surplusWithout_15 : decode cX7_surplusWithout 15 = .ok (.ireturn, 1) := by decide +kernel
theorem dX7_surplusWithout_16 : decode cX7_surplusWithout 16 = .ok (.aload_n 0, 1) := by decide +kernel
theorem dX7_surplusWithout_17 : decode cX7_surplusWithout 17 = .ok (.iconst 0, 1) := by decide +kernel
theorem dX7_surplusWithout_18 : decode cX7_surplusWithout 18 = .ok (.putfield 89, 3) := by decide +kernel
theorem dX7_surplusWithout_21 : decode cX7_surplusWithout 21 = .ok (.aload_n 0, 1) := by decide +kernel
theorem dX7_surplusWithout_22 : decode cX7_surplusWithout 22 = .ok (.invokevirtual 152, 3) := by decide +kernel
theorem dX7_surplusWithout_25 : decode cX7_surplusWithout 25 = .ok (.aload_n 0, 1) := by decide +kernel
theorem dX7_surplusWithout_26 : decode cX7_surplusWithout 26 = .ok (.getfield 71, 3) := by decide +kernel
theorem dX7_surplusWithout_29 : decode cX7_surplusWithout 29 = .ok (.aload_n 0, 1) := by decide +kernel
theorem dX7_surplusWithout_30 : decode cX7_surplusWithout 30 = .ok (.iload_n 1, 1) := by decide +kernel
theorem dX7_surplusWithout_31 : decode cX7_surplusWithout 31 = .ok (.invokevirtual 149, 3) := by decide +kernel
theorem dX7_surplusWithout_34 : decode cX7_surplusWithout 34 = .ok (.iaload, 1) := by decide +kernel
theorem dX7_surplusWithout_35 : decode cX7_surplusWithout 35 = .ok (.ireturn, 1) := by decide +kernel
theorem dX7_wouldWin_0 : decode cX7_wouldWin 0 = .ok (.aload_n 0, 1) := by decide +kernel
theorem dX7_wouldWin_1 : decode cX7_wouldWin 1 = .ok (.iload_n 1, 1) := by decide +kernel
theorem dX7_wouldWin_2 : decode cX7_wouldWin 2 = .ok (.invokevirtual 173, 3) := by decide +kernel
theorem dX7_wouldWin_5 : decode cX7_wouldWin 5 = .ok (.ifCond .eq 5, 3) := by decide +kernel
theorem dX7_wouldWin_8 : decode cX7_wouldWin 8 = .ok (.iconst 0, 1) := by decide +kernel
theorem dX7_wouldWin_9 : decode cX7_wouldWin 9 = .ok (.ireturn, 1) := by decide +kernel
theorem dX7_wouldWin_10 : decode cX7_wouldWin 10 = .ok (.aload_n 0, 1) := by decide +kernel
theorem dX7_wouldWin_11 : decode cX7_wouldWin 11 = .ok (.aload_n 0, 1) := by decide +kernel
theorem dX7_wouldWin_12 : decode cX7_wouldWin 12 = .ok (.getfield 26, 3) := by decide +kernel
theorem dX7_wouldWin_15 : decode cX7_wouldWin 15 = .ok (.iload_n 1, 1) := by decide +kernel
theorem dX7_wouldWin_16 : decode cX7_wouldWin 16 = .ok (.caload, 1) := by decide +kernel
theorem dX7_wouldWin_17 : decode cX7_wouldWin 17 = .ok (.bipush 111, 2) := by decide +kernel
theorem dX7_wouldWin_19 : decode cX7_wouldWin 19 = .ok (.if_icmp .ne 7, 3) := by decide +kernel
theorem dX7_wouldWin_22 : decode cX7_wouldWin 22 = .ok (.iconst 0, 1) := by decide +kernel
theorem dX7_wouldWin_23 : decode cX7_wouldWin 23 = .ok (.goto 4, 3) := by decide +kernel
theorem dX7_wouldWin_26 : decode cX7_wouldWin 26 = .ok (.iconst 2, 1) := by decide +kernel
theorem dX7_wouldWin_27 : decode cX7_wouldWin 27 = .ok (.putfield 89, 3) := by decide +kernel
theorem dX7_wouldWin_30 : decode cX7_wouldWin 30 = .ok (.aload_n 0, 1) := by decide +kernel
theorem dX7_wouldWin_31 : decode cX7_wouldWin 31 = .ok (.getfield 89, 3) := by decide +kernel
theorem dX7_wouldWin_34 : decode cX7_wouldWin 34 = .ok (.ifCond .eq 5, 3) := by decide +kernel
theorem dX7_wouldWin_37 : decode cX7_wouldWin 37 = .ok (.iconst 0, 1) := by decide +kernel
theorem dX7_wouldWin_38 : decode cX7_wouldWin 38 = .ok (.ireturn, 1) := by decide +kernel
theorem dX7_wouldWin_39 : decode cX7_wouldWin 39 = .ok (.aload_n 0, 1) := by decide +kernel
theorem dX7_wouldWin_40 : decode cX7_wouldWin 40 = .ok (.invokevirtual 152, 3) := by decide +kernel
theorem dX7_wouldWin_43 : decode cX7_wouldWin 43 = .ok (.aload_n 0, 1) := by decide +kernel
theorem dX7_wouldWin_44 : decode cX7_wouldWin 44 = .ok (.aload_n 0, 1) := by decide +kernel
theorem dX7_wouldWin_45 : decode cX7_wouldWin 45 = .ok (.iconst (-1), 1) := by decide +kernel
theorem dX7_wouldWin_46 : decode cX7_wouldWin 46 = .ok (.invokevirtual 149, 3) := by decide +kernel
theorem dX7_wouldWin_49 : decode cX7_wouldWin 49 = .ok (.iload_n 1, 1) := by decide +kernel
theorem dX7_wouldWin_50 : decode cX7_wouldWin 50 = .ok (.invokevirtual 180, 3) := by decide +kernel
theorem dX7_wouldWin_53 : decode cX7_wouldWin 53 = .ok (.ireturn, 1) := by decide +kernel
theorem dX7_wouldWinBySets_0 : decode cX7_wouldWinBySets 0 = .ok (.aload_n 0, 1) := by decide +kernel
theorem dX7_wouldWinBySets_1 : decode cX7_wouldWinBySets 1 = .ok (.iload_n 1, 1) := by decide +kernel
theorem dX7_wouldWinBySets_2 : decode cX7_wouldWinBySets 2 = .ok (.invokevirtual 183, 3) := by decide +kernel
theorem dX7_wouldWinBySets_5 : decode cX7_wouldWinBySets 5 = .ok (.ireturn, 1) := by decide +kernel
theorem dX7_lotFor_0 : decode cX7_lotFor 0 = .ok (.aload_n 0, 1) := by decide +kernel
theorem dX7_lotFor_1 : decode cX7_lotFor 1 = .ok (.iload_n 1, 1) := by decide +kernel
end
section
theorem dX7_lotFor_2 : decode cX7_lotFor 2 = .ok (.invokevirtual 173, 3) := by decide +kernel
theorem dX7_lotFor_5 : decode cX7_lotFor 5 = .ok (.ifCond .eq 5, 3) := by decide +kernel
theorem dX7_lotFor_8 : decode cX7_lotFor 8 = .ok (.iconst 0, 1) := by decide +kernel
theorem dX7_lotFor_9 : decode cX7_lotFor 9 = .ok (.ireturn, 1) := by decide +kernel
theorem dX7_lotFor_10 : decode cX7_lotFor 10 = .ok (.iload_n 2, 1) := by decide +kernel
theorem dX7_lotFor_11 : decode cX7_lotFor 11 = .ok (.iconst 0, 1) := by decide +kernel
theorem dX7_lotFor_12 : decode cX7_lotFor 12 = .ok (.aload_n 0, 1) := by decide +kernel
theorem dX7_lotFor_13 : decode cX7_lotFor 13 = .ok (.getfield 38, 3) := by decide +kernel
theorem dX7_lotFor_16 : decode cX7_lotFor 16 = .ok (.iload_n 1, 1) := by decide +kernel
theorem dX7_lotFor_17 : decode cX7_lotFor 17 = .ok (.iaload, 1) := by decide +kernel
theorem dX7_lotFor_18 : decode cX7_lotFor 18 = .ok (.iconst 1, 1) := by decide +kernel
theorem dX7_lotFor_19 : decode cX7_lotFor 19 = .ok (.isub, 1) := by decide +kernel
theorem dX7_lotFor_20 : decode cX7_lotFor 20 = .ok (.invokestatic 96, 3) := by decide +kernel
theorem dX7_lotFor_23 : decode cX7_lotFor 23 = .ok (.ifCond .ne 9, 3) := by decide +kernel
theorem dX7_lotFor_26 : decode cX7_lotFor 26 = .ok (.aload_n 0, 1) := by decide +kernel
theorem dX7_lotFor_27 : decode cX7_lotFor 27 = .ok (.iconst 2, 1) := by decide +kernel
theorem dX7_lotFor_28 : decode cX7_lotFor 28 = .ok (.invokevirtual 107, 3) := by decide +kernel
theorem dX7_lotFor_31 : decode cX7_lotFor 31 = .ok (.ireturn, 1) := by decide +kernel
theorem dX7_lotFor_32 : decode cX7_lotFor 32 = .ok (.aload_n 0, 1) := by decide +kernel
theorem dX7_lotFor_33 : decode cX7_lotFor 33 = .ok (.getfield 26, 3) := by decide +kernel
theorem dX7_lotFor_36 : decode cX7_lotFor 36 = .ok (.iload_n 1, 1) := by decide +kernel
theorem dX7_lotFor_37 : decode cX7_lotFor 37 = .ok (.caload, 1) := by decide +kernel
theorem dX7_lotFor_38 : decode cX7_lotFor 38 = .ok (.bipush 111, 2) := by decide +kernel
theorem dX7_lotFor_40 : decode cX7_lotFor 40 = .ok (.if_icmp .eq 9, 3) := by decide +kernel
theorem dX7_lotFor_43 : decode cX7_lotFor 43 = .ok (.aload_n 0, 1) := by decide +kernel
theorem dX7_lotFor_44 : decode cX7_lotFor 44 = .ok (.iconst 3, 1) := by decide +kernel
theorem dX7_lotFor_45 : decode cX7_lotFor 45 = .ok (.invokevirtual 107, 3) := by decide +kernel
theorem dX7_lotFor_48 : decode cX7_lotFor 48 = .ok (.ireturn, 1) := by decide +kernel
theorem dX7_lotFor_49 : decode cX7_lotFor 49 = .ok (.aload_n 0, 1) := by decide +kernel
theorem dX7_lotFor_50 : decode cX7_lotFor 50 = .ok (.invokevirtual 152, 3) := by decide +kernel
theorem dX7_lotFor_53 : decode cX7_lotFor 53 = .ok (.aload_n 0, 1) := by decide +kernel
theorem dX7_lotFor_54 : decode cX7_lotFor 54 = .ok (.iconst (-1), 1) := by decide +kernel
theorem dX7_lotFor_55 : decode cX7_lotFor 55 = .ok (.invokevirtual 149, 3) := by decide +kernel
theorem dX7_lotFor_58 : decode cX7_lotFor 58 = .ok (.istore_n 3, 1) := by decide +kernel
theorem dX7_lotFor_59 : decode cX7_lotFor 59 = .ok (.aload_n 0, 1) := by decide +kernel
theorem dX7_lotFor_60 : decode cX7_lotFor 60 = .ok (.iload_n 3, 1) := by decide +kernel
theorem dX7_lotFor_61 : decode cX7_lotFor 61 = .ok (.iload_n 1, 1) := by decide +kernel
theorem dX7_lotFor_62 : decode cX7_lotFor 62 = .ok (.invokevirtual 180, 3) := by decide +kernel
theorem dX7_lotFor_65 : decode cX7_lotFor 65 = .ok (.ifCond .ne 9, 3) := by decide +kernel
theorem dX7_lotFor_68 : decode cX7_lotFor 68 = .ok (.aload_n 0, 1) := by decide +kernel
theorem dX7_lotFor_69 : decode cX7_lotFor 69 = .ok (.iconst 4, 1) := by decide +kernel
theorem dX7_lotFor_70 : decode cX7_lotFor 70 = .ok (.invokevirtual 107, 3) := by decide +kernel
theorem dX7_lotFor_73 : decode cX7_lotFor 73 = .ok (.ireturn, 1) := by decide +kernel
theorem dX7_lotFor_74 : decode cX7_lotFor 74 = .ok (.aload_n 0, 1) := by decide +kernel
theorem dX7_lotFor_75 : decode cX7_lotFor 75 = .ok (.iload_n 3, 1) := by decide +kernel
theorem dX7_lotFor_76 : decode cX7_lotFor 76 = .ok (.invokevirtual 155, 3) := by decide +kernel
theorem dX7_lotFor_79 : decode cX7_lotFor 79 = .ok (.istore 4, 2) := by decide +kernel
theorem dX7_lotFor_81 : decode cX7_lotFor 81 = .ok (.iconst 0, 1) := by decide +kernel
theorem dX7_lotFor_82 : decode cX7_lotFor 82 = .ok (.istore 5, 2) := by decide +kernel
theorem dX7_lotFor_84 : decode cX7_lotFor 84 = .ok (.aload_n 0, 1) := by decide +kernel
theorem dX7_lotFor_85 : decode cX7_lotFor 85 = .ok (.getfield 83, 3) := by decide +kernel
theorem dX7_lotFor_88 : decode cX7_lotFor 88 = .ok (.iload 5, 2) := by decide +kernel
theorem dX7_lotFor_90 : decode cX7_lotFor 90 = .ok (.iaload, 1) := by decide +kernel
theorem dX7_lotFor_91 : decode cX7_lotFor 91 = .ok (.iconst 3, 1) := by decide +kernel
theorem dX7_lotFor_92 : decode cX7_lotFor 92 = .ok (.iload_n 1, 1) := by decide +kernel
theorem dX7_lotFor_93 : decode cX7_lotFor 93 = .ok (.imul, 1) := by decide +kernel
theorem dX7_lotFor_94 : decode cX7_lotFor 94 = .ok (.iload_n 2, 1) := by decide +kernel
theorem dX7_lotFor_95 : decode cX7_lotFor 95 = .ok (.iadd, 1) := by decide +kernel
theorem dX7_lotFor_96 : decode cX7_lotFor 96 = .ok (.if_icmp .eq 9, 3) := by decide +kernel
theorem dX7_lotFor_99 : decode cX7_lotFor 99 = .ok (.iinc 5 1, 3) := by decide +kernel
theorem dX7_lotFor_102 : decode cX7_lotFor 102 = .ok (.goto (-18), 3) := by decide +kernel
theorem dX7_lotFor_105 : decode cX7_lotFor 105 = .ok (.aload_n 0, 1) := by decide +kernel
theorem dX7_lotFor_106 : decode cX7_lotFor 106 = .ok (.getfield 86, 3) := by decide +kernel
theorem dX7_lotFor_109 : decode cX7_lotFor 109 = .ok (.iload 5, 2) := by decide +kernel
theorem dX7_lotFor_111 : decode cX7_lotFor 111 = .ok (.iaload, 1) := by decide +kernel
theorem dX7_lotFor_112 : decode cX7_lotFor 112 = .ok (.ireturn, 1) := by decide +kernel
theorem dX7_payment_0 : decode cX7_payment 0 = .ok (.aload_n 0, 1) := by decide +kernel
theorem dX7_payment_1 : decode cX7_payment 1 = .ok (.iload_n 1, 1) := by decide +kernel
theorem dX7_payment_2 : decode cX7_payment 2 = .ok (.invokevirtual 173, 3) := by decide +kernel
theorem dX7_payment_5 : decode cX7_payment 5 = .ok (.ifCond .eq 5, 3) := by decide +kernel
theorem dX7_payment_8 : decode cX7_payment 8 = .ok (.iconst 0, 1) := by decide +kernel
theorem dX7_payment_9 : decode cX7_payment 9 = .ok (.ireturn, 1) := by decide +kernel
theorem dX7_payment_10 : decode cX7_payment 10 = .ok (.aload_n 0, 1) := by decide +kernel
theorem dX7_payment_11 : decode cX7_payment 11 = .ok (.getfield 26, 3) := by decide +kernel
theorem dX7_payment_14 : decode cX7_payment 14 = .ok (.iload_n 1, 1) := by decide +kernel
theorem dX7_payment_15 : decode cX7_payment 15 = .ok (.caload, 1) := by decide +kernel
theorem dX7_payment_16 : decode cX7_payment 16 = .ok (.bipush 111, 2) := by decide +kernel
theorem dX7_payment_18 : decode cX7_payment 18 = .ok (.if_icmp .eq 9, 3) := by decide +kernel
theorem dX7_payment_21 : decode cX7_payment 21 = .ok (.aload_n 0, 1) := by decide +kernel
theorem dX7_payment_22 : decode cX7_payment 22 = .ok (.iconst 2, 1) := by decide +kernel
theorem dX7_payment_23 : decode cX7_payment 23 = .ok (.invokevirtual 107, 3) := by decide +kernel
theorem dX7_payment_26 : decode cX7_payment 26 = .ok (.ireturn, 1) := by decide +kernel
theorem dX7_payment_27 : decode cX7_payment 27 = .ok (.aload_n 0, 1) := by decide +kernel
theorem dX7_payment_28 : decode cX7_payment 28 = .ok (.invokevirtual 152, 3) := by decide +kernel
theorem dX7_payment_31 : decode cX7_payment 31 = .ok (.aload_n 0, 1) := by decide +kernel
theorem dX7_payment_32 : decode cX7_payment 32 = .ok (.iconst (-1), 1) := by decide +kernel
theorem dX7_payment_33 : decode cX7_payment 33 = .ok (.invokevirtual 149, 3) := by decide +kernel
theorem dX7_payment_36 : decode cX7_payment 36 = .ok (.istore_n 2, 1) := by decide +kernel
theorem dX7_payment_37 : decode cX7_payment 37 = .ok (.aload_n 0, 1) := by decide +kernel
theorem dX7_payment_38 : decode cX7_payment 38 = .ok (.iload_n 2, 1) := by decide +kernel
theorem dX7_payment_39 : decode cX7_payment 39 = .ok (.iload_n 1, 1) := by decide +kernel
theorem dX7_payment_40 : decode cX7_payment 40 = .ok (.invokevirtual 180, 3) := by decide +kernel
theorem dX7_payment_43 : decode cX7_payment 43 = .ok (.ifCond .ne 9, 3) := by decide +kernel
theorem dX7_payment_46 : decode cX7_payment 46 = .ok (.aload_n 0, 1) := by decide +kernel
theorem dX7_payment_47 : decode cX7_payment 47 = .ok (.iconst 3, 1) := by decide +kernel
theorem dX7_payment_48 : decode cX7_payment 48 = .ok (.invokevirtual 107, 3) := by decide +kernel
theorem dX7_payment_51 : decode cX7_payment 51 = .ok (.ireturn, 1) := by decide +kernel
theorem dX7_payment_52 : decode cX7_payment 52 = .ok (.aload_n 0, 1) := by decide +kernel
theorem dX7_payment_53 : decode cX7_payment 53 = .ok (.iload_n 2, 1) := by decide +kernel
theorem dX7_payment_54 : decode cX7_payment 54 = .ok (.iload_n 1, 1) := by decide +kernel
theorem dX7_payment_55 : decode cX7_payment 55 = .ok (.invokevirtual 158, 3) := by decide +kernel
theorem dX7_payment_58 : decode cX7_payment 58 = .ok (.ireturn, 1) := by decide +kernel
theorem dX7_takings_0 : decode cX7_takings 0 = .ok (.aload_n 0, 1) := by decide +kernel
theorem dX7_takings_1 : decode cX7_takings 1 = .ok (.getfield 166, 3) := by decide +kernel
theorem dX7_takings_4 : decode cX7_takings 4 = .ok (.lreturn, 1) := by decide +kernel
theorem dX7_soldShare_0 : decode cX7_soldShare 0 = .ok (.aload_n 0, 1) := by decide +kernel
theorem dX7_soldShare_1 : decode cX7_soldShare 1 = .ok (.aload_n 0, 1) := by decide +kernel
theorem dX7_soldShare_2 : decode cX7_soldShare 2 = .ok (.getfield 93, 3) := by decide +kernel
theorem dX7_soldShare_5 : decode cX7_soldShare 5 = .ok (.ifCond .ne 7, 3) := by decide +kernel
theorem dX7_soldShare_8 : decode cX7_soldShare 8 = .ok (.iconst 1, 1) := by decide +kernel
theorem dX7_soldShare_9 : decode cX7_soldShare 9 = .ok (.goto 4, 3) := by decide +kernel
theorem dX7_soldShare_12 : decode cX7_soldShare 12 = .ok (.iconst 0, 1) := by decide +kernel
theorem dX7_soldShare_13 : decode cX7_soldShare 13 = .ok (.putfield 89, 3) := by decide +kernel
theorem dX7_soldShare_16 : decode cX7_soldShare 16 = .ok (.aload_n 0, 1) := by decide +kernel
theorem dX7_soldShare_17 : decode cX7_soldShare 17 = .ok (.getfield 93, 3) := by decide +kernel
theorem dX7_soldShare_20 : decode cX7_soldShare 20 = .ok (.ifCond .ne 5, 3) := by decide +kernel
theorem dX7_soldShare_23 : decode cX7_soldShare 23 = .ok (.fconst 0, 1) := by decide +kernel
theorem dX7_soldShare_24 : decode cX7_soldShare 24 = .ok (.freturn, 1) := by decide +kernel
theorem dX7_soldShare_25 : decode cX7_soldShare 25 = .ok (.iconst 0, 1) := by decide +kernel
theorem dX7_soldShare_26 : decode cX7_soldShare 26 = .ok (.istore_n 1, 1) := by decide +kernel
theorem dX7_soldShare_27 : decode cX7_soldShare 27 = .ok (.iconst 0, 1) := by decide +kernel
theorem dX7_soldShare_28 : decode cX7_soldShare 28 = .ok (.istore_n 2, 1) := by decide +kernel
theorem dX7_soldShare_29 : decode cX7_soldShare 29 = .ok (.iload_n 2, 1) := by decide +kernel
theorem dX7_soldShare_30 : decode cX7_soldShare 30 = .ok (.aload_n 0, 1) := by decide +kernel
theorem dX7_soldShare_31 : decode cX7_soldShare 31 = .ok (.getfield 93, 3) := by decide +kernel
theorem dX7_soldShare_34 : decode cX7_soldShare 34 = .ok (.if_icmp .ge 23, 3) := by decide +kernel
theorem dX7_soldShare_37 : decode cX7_soldShare 37 = .ok (.aload_n 0, 1) := by decide +kernel
theorem dX7_soldShare_38 : decode cX7_soldShare 38 = .ok (.getfield 22, 3) := by decide +kernel
theorem dX7_soldShare_41 : decode cX7_soldShare 41 = .ok (.iload_n 2, 1) := by decide +kernel
theorem dX7_soldShare_42 : decode cX7_soldShare 42 = .ok (.caload, 1) := by decide +kernel
theorem dX7_soldShare_43 : decode cX7_soldShare 43 = .ok (.bipush 115, 2) := by decide +kernel
theorem dX7_soldShare_45 : decode cX7_soldShare 45 = .ok (.if_icmp .ne 6, 3) := by decide +kernel
theorem dX7_soldShare_48 : decode cX7_soldShare 48 = .ok (.iinc 1 1, 3) := by decide +kernel
theorem dX7_soldShare_51 : decode cX7_soldShare 51 = .ok (.iinc 2 1, 3) := by decide +kernel
theorem dX7_soldShare_54 : decode cX7_soldShare 54 = .ok (.goto (-25), 3) := by decide +kernel
theorem dX7_soldShare_57 : decode cX7_soldShare 57 = .ok (.iload_n 1, 1) := by decide +kernel
theorem dX7_soldShare_58 : decode cX7_soldShare 58 = .ok (.i2f, 1) := by decide +kernel
theorem dX7_soldShare_59 : decode cX7_soldShare 59 = .ok (.aload_n 0, 1) := by decide +kernel
theorem dX7_soldShare_60 : decode cX7_soldShare 60 = .ok (.getfield 93, 3) := by decide +kernel
theorem dX7_soldShare_63 : decode cX7_soldShare 63 = .ok (.i2f, 1) := by decide +kernel
theorem dX7_soldShare_64 : decode cX7_soldShare 64 = .ok (.fdiv, 1) := by decide +kernel
theorem dX7_soldShare_65 : decode cX7_soldShare 65 = .ok (.freturn, 1) := by decide +kernel
theorem dX7_meanPaid_0 : decode cX7_meanPaid 0 = .ok (.iconst 0, 1) := by decide +kernel
theorem dX7_meanPaid_1 : decode cX7_meanPaid 1 = .ok (.istore_n 1, 1) := by decide +kernel
theorem dX7_meanPaid_2 : decode cX7_meanPaid 2 = .ok (.iconst 0, 1) := by decide +kernel
theorem dX7_meanPaid_3 : decode cX7_meanPaid 3 = .ok (.istore_n 2, 1) := by decide +kernel
theorem dX7_meanPaid_4 : decode cX7_meanPaid 4 = .ok (.iload_n 2, 1) := by decide +kernel
theorem dX7_meanPaid_5 : decode cX7_meanPaid 5 = .ok (.aload_n 0, 1) := by decide +kernel
theorem dX7_meanPaid_6 : decode cX7_meanPaid 6 = .ok (.getfield 100, 3) := by decide +kernel
theorem dX7_meanPaid_9 : decode cX7_meanPaid 9 = .ok (.if_icmp .ge 23, 3) := by decide +kernel
theorem dX7_meanPaid_12 : decode cX7_meanPaid 12 = .ok (.aload_n 0, 1) := by decide +kernel
theorem dX7_meanPaid_13 : decode cX7_meanPaid 13 = .ok (.getfield 26, 3) := by decide +kernel
theorem dX7_meanPaid_16 : decode cX7_meanPaid 16 = .ok (.iload_n 2, 1) := by decide +kernel
theorem dX7_meanPaid_17 : decode cX7_meanPaid 17 = .ok (.caload, 1) := by decide +kernel
theorem dX7_meanPaid_18 : decode cX7_meanPaid 18 = .ok (.bipush 119, 2) := by decide +kernel
theorem dX7_meanPaid_20 : decode cX7_meanPaid 20 = .ok (.if_icmp .ne 6, 3) := by decide +kernel
theorem dX7_meanPaid_23 : decode cX7_meanPaid 23 = .ok (.iinc 1 1, 3) := by decide +kernel
theorem dX7_meanPaid_26 : decode cX7_meanPaid 26 = .ok (.iinc 2 1, 3) := by decide +kernel
theorem dX7_meanPaid_29 : decode cX7_meanPaid 29 = .ok (.goto (-25), 3) := by decide +kernel
theorem dX7_meanPaid_32 : decode cX7_meanPaid 32 = .ok (.aload_n 0, 1) := by decide +kernel
theorem dX7_meanPaid_33 : decode cX7_meanPaid 33 = .ok (.iload_n 1, 1) := by decide +kernel
theorem dX7_meanPaid_34 : decode cX7_meanPaid 34 = .ok (.ifCond .ne 7, 3) := by decide +kernel
theorem dX7_meanPaid_37 : decode cX7_meanPaid 37 = .ok (.iconst 1, 1) := by decide +kernel
theorem dX7_meanPaid_38 : decode cX7_meanPaid 38 = .ok (.goto 4, 3) := by decide +kernel
theorem dX7_meanPaid_41 : decode cX7_meanPaid 41 = .ok (.iconst 0, 1) := by decide +kernel
theorem dX7_meanPaid_42 : decode cX7_meanPaid 42 = .ok (.putfield 89, 3) := by decide +kernel
theorem dX7_meanPaid_45 : decode cX7_meanPaid 45 = .ok (.iload_n 1, 1) := by decide +kernel
theorem dX7_meanPaid_46 : decode cX7_meanPaid 46 = .ok (.ifCond .ne 7, 3) := by decide +kernel
theorem dX7_meanPaid_49 : decode cX7_meanPaid 49 = .ok (.dconst 0, 1) := by decide +kernel
theorem dX7_meanPaid_50 : decode cX7_meanPaid 50 = .ok (.goto 11, 3) := by decide +kernel
theorem dX7_meanPaid_53 : decode cX7_meanPaid 53 = .ok (.aload_n 0, 1) := by decide +kernel
theorem dX7_meanPaid_54 : decode cX7_meanPaid 54 = .ok (.getfield 166, 3) := by decide +kernel
theorem dX7_meanPaid_57 : decode cX7_meanPaid 57 = .ok (.l2d, 1) := by decide +kernel
theorem dX7_meanPaid_58 : decode cX7_meanPaid 58 = .ok (.iload_n 1, 1) := by decide +kernel
theorem dX7_meanPaid_59 : decode cX7_meanPaid 59 = .ok (.i2d, 1) := by decide +kernel
theorem dX7_meanPaid_60 : decode cX7_meanPaid 60 = .ok (.ddiv, 1) := by decide +kernel
theorem dX7_meanPaid_61 : decode cX7_meanPaid 61 = .ok (.dreturn, 1) := by decide +kernel
theorem dJx00060_init_a7421_0 : decode cJx00060_init_a7421 0 = .ok (.aload_n 0, 1) := by decide +kernel
theorem dJx00060_init_a7421_1 : decode cJx00060_init_a7421 1 = .ok (.aload_n 1, 1) := by decide +kernel
theorem dJx00060_init_a7421_2 : decode cJx00060_init_a7421 2 = .ok (.invokespecial 7, 3) := by decide +kernel
theorem dJx00060_init_a7421_5 : decode cJx00060_init_a7421 5 = .ok (.return_, 1) := by decide +kernel
theorem dJ6_bitCount_0f7a4_0 : decode cJ6_bitCount_0f7a4 0 = .ok (.iload_n 0, 1) := by decide +kernel
theorem dJ6_bitCount_0f7a4_1 : decode cJ6_bitCount_0f7a4 1 = .ok (.iload_n 0, 1) := by decide +kernel
theorem dJ6_bitCount_0f7a4_2 : decode cJ6_bitCount_0f7a4 2 = .ok (.iconst 1, 1) := by decide +kernel
theorem dJ6_bitCount_0f7a4_3 : decode cJ6_bitCount_0f7a4 3 = .ok (.iushr, 1) := by decide +kernel
theorem dJ6_bitCount_0f7a4_4 : decode cJ6_bitCount_0f7a4 4 = .ok (.ldc_w 265, 3) := by decide +kernel
theorem dJ6_bitCount_0f7a4_7 : decode cJ6_bitCount_0f7a4 7 = .ok (.iand, 1) := by decide +kernel
theorem dJ6_bitCount_0f7a4_8 : decode cJ6_bitCount_0f7a4 8 = .ok (.isub, 1) := by decide +kernel
theorem dJ6_bitCount_0f7a4_9 : decode cJ6_bitCount_0f7a4 9 = .ok (.istore_n 0, 1) := by decide +kernel
theorem dJ6_bitCount_0f7a4_10 : decode cJ6_bitCount_0f7a4 10 = .ok (.iload_n 0, 1) := by decide +kernel
theorem dJ6_bitCount_0f7a4_11 : decode cJ6_bitCount_0f7a4 11 = .ok (.ldc_w 266, 3) := by decide +kernel
theorem dJ6_bitCount_0f7a4_14 : decode cJ6_bitCount_0f7a4 14 = .ok (.iand, 1) := by decide +kernel
theorem dJ6_bitCount_0f7a4_15 : decode cJ6_bitCount_0f7a4 15 = .ok (.iload_n 0, 1) := by decide +kernel
theorem dJ6_bitCount_0f7a4_16 : decode cJ6_bitCount_0f7a4 16 = .ok (.iconst 2, 1) := by decide +kernel
theorem dJ6_bitCount_0f7a4_17 : decode cJ6_bitCount_0f7a4 17 = .ok (.iushr, 1) := by decide +kernel
theorem dJ6_bitCount_0f7a4_18 : decode cJ6_bitCount_0f7a4 18 = .ok (.ldc_w 266, 3) := by decide +kernel
theorem dJ6_bitCount_0f7a4_21 : decode cJ6_bitCount_0f7a4 21 = .ok (.iand, 1) := by decide +kernel
theorem dJ6_bitCount_0f7a4_22 : decode cJ6_bitCount_0f7a4 22 = .ok (.iadd, 1) := by decide +kernel
theorem dJ6_bitCount_0f7a4_23 : decode cJ6_bitCount_0f7a4 23 = .ok (.istore_n 0, 1) := by decide +kernel
theorem dJ6_bitCount_0f7a4_24 : decode cJ6_bitCount_0f7a4 24 = .ok (.iload_n 0, 1) := by decide +kernel
theorem dJ6_bitCount_0f7a4_25 : decode cJ6_bitCount_0f7a4 25 = .ok (.iload_n 0, 1) := by decide +kernel
theorem dJ6_bitCount_0f7a4_26 : decode cJ6_bitCount_0f7a4 26 = .ok (.iconst 4, 1) := by decide +kernel
theorem dJ6_bitCount_0f7a4_27 : decode cJ6_bitCount_0f7a4 27 = .ok (.iushr, 1) := by decide +kernel
theorem dJ6_bitCount_0f7a4_28 : decode cJ6_bitCount_0f7a4 28 = .ok (.iadd, 1) := by decide +kernel
theorem dJ6_bitCount_0f7a4_29 : decode cJ6_bitCount_0f7a4 29 = .ok (.ldc_w 267, 3) := by decide +kernel
theorem dJ6_bitCount_0f7a4_32 : decode cJ6_bitCount_0f7a4 32 = .ok (.iand, 1) := by decide +kernel
theorem dJ6_bitCount_0f7a4_33 : decode cJ6_bitCount_0f7a4 33 = .ok (.istore_n 0, 1) := by decide +kernel
theorem dJ6_bitCount_0f7a4_34 : decode cJ6_bitCount_0f7a4 34 = .ok (.iload_n 0, 1) := by decide +kernel
theorem dJ6_bitCount_0f7a4_35 : decode cJ6_bitCount_0f7a4 35 = .ok (.iload_n 0, 1) := by decide +kernel
theorem dJ6_bitCount_0f7a4_36 : decode cJ6_bitCount_0f7a4 36 = .ok (.bipush 8, 2) := by decide +kernel
theorem dJ6_bitCount_0f7a4_38 : decode cJ6_bitCount_0f7a4 38 = .ok (.iushr, 1) := by decide +kernel
theorem dJ6_bitCount_0f7a4_39 : decode cJ6_bitCount_0f7a4 39 = .ok (.iadd, 1) := by decide +kernel
theorem dJ6_bitCount_0f7a4_40 : decode cJ6_bitCount_0f7a4 40 = .ok (.istore_n 0, 1) := by decide +kernel
theorem dJ6_bitCount_0f7a4_41 : decode cJ6_bitCount_0f7a4 41 = .ok (.iload_n 0, 1) := by decide +kernel
theorem dJ6_bitCount_0f7a4_42 : decode cJ6_bitCount_0f7a4 42 = .ok (.iload_n 0, 1) := by decide +kernel
theorem dJ6_bitCount_0f7a4_43 : decode cJ6_bitCount_0f7a4 43 = .ok (.bipush 16, 2) := by decide +kernel
theorem dJ6_bitCount_0f7a4_45 : decode cJ6_bitCount_0f7a4 45 = .ok (.iushr, 1) := by decide +kernel
theorem dJ6_bitCount_0f7a4_46 : decode cJ6_bitCount_0f7a4 46 = .ok (.iadd, 1) := by decide +kernel
theorem dJ6_bitCount_0f7a4_47 : decode cJ6_bitCount_0f7a4 47 = .ok (.istore_n 0, 1) := by decide +kernel
theorem dJ6_bitCount_0f7a4_48 : decode cJ6_bitCount_0f7a4 48 = .ok (.iload_n 0, 1) := by decide +kernel
theorem dJ6_bitCount_0f7a4_49 : decode cJ6_bitCount_0f7a4 49 = .ok (.bipush 63, 2) := by decide +kernel
theorem dJ6_bitCount_0f7a4_51 : decode cJ6_bitCount_0f7a4 51 = .ok (.iand, 1) := by decide +kernel
theorem dJ6_bitCount_0f7a4_52 : decode cJ6_bitCount_0f7a4 52 = .ok (.ireturn, 1) := by decide +kernel
theorem dJ9_max_7cf53_0 : decode cJ9_max_7cf53 0 = .ok (.iload_n 0, 1) := by decide +kernel
theorem dJ9_max_7cf53_1 : decode cJ9_max_7cf53 1 = .ok (.iload_n 1, 1) := by decide +kernel
theorem dJ9_max_7cf53_2 : decode cJ9_max_7cf53 2 = .ok (.if_icmp .lt 7, 3) := by decide +kernel
theorem dJ9_max_7cf53_5 : decode cJ9_max_7cf53 5 = .ok (.iload_n 0, 1) := by decide +kernel
theorem dJ9_max_7cf53_6 : decode cJ9_max_7cf53 6 = .ok (.goto 4, 3) := by decide +kernel
theorem dJ9_max_7cf53_9 : decode cJ9_max_7cf53 9 = .ok (.iload_n 1, 1) := by decide +kernel
theorem dJ9_max_7cf53_10 : decode cJ9_max_7cf53 10 = .ok (.ireturn, 1) := by decide +kernel
theorem dJ9_min_7cf53_0 : decode cJ9_min_7cf53 0 = .ok (.iload_n 0, 1) := by decide +kernel
theorem dJ9_min_7cf53_1 : decode cJ9_min_7cf53 1 = .ok (.iload_n 1, 1) := by decide +kernel
theorem dJ9_min_7cf53_2 : decode cJ9_min_7cf53 2 = .ok (.if_icmp .gt 7, 3) := by decide +kernel
theorem dJ9_min_7cf53_5 : decode cJ9_min_7cf53 5 = .ok (.iload_n 0, 1) := by decide +kernel
theorem dJ9_min_7cf53_6 : decode cJ9_min_7cf53 6 = .ok (.goto 4, 3) := by decide +kernel
theorem dJ9_min_7cf53_9 : decode cJ9_min_7cf53 9 = .ok (.iload_n 1, 1) := by decide +kernel
theorem dJ9_min_7cf53_10 : decode cJ9_min_7cf53 10 = .ok (.ireturn, 1) := by decide +kernel
theorem dJxa1e45_init_da8c8_0 : decode cJxa1e45_init_da8c8 0 = .ok (.aload_n 0, 1) := by decide +kernel
theorem dJxa1e45_init_da8c8_1 : decode cJxa1e45_init_da8c8 1 = .ok (.invokespecial 1, 3) := by decide +kernel
theorem dJxa1e45_init_da8c8_4 : decode cJxa1e45_init_da8c8 4 = .ok (.return_, 1) := by decide +kernel
theorem dJxc12de_init_da8c8_0 : decode cJxc12de_init_da8c8 0 = .ok (.aload_n 0, 1) := by decide +kernel
theorem dJxc12de_init_da8c8_1 : decode cJxc12de_init_da8c8 1 = .ok (.invokespecial 1, 3) := by decide +kernel
theorem dJxc12de_init_da8c8_4 : decode cJxc12de_init_da8c8 4 = .ok (.aload_n 0, 1) := by decide +kernel
theorem dJxc12de_init_da8c8_5 : decode cJxc12de_init_da8c8 5 = .ok (.iconst 0, 1) := by decide +kernel
theorem dJxc12de_init_da8c8_6 : decode cJxc12de_init_da8c8 6 = .ok (.putfield 7, 3) := by decide +kernel
theorem dJxc12de_init_da8c8_9 : decode cJxc12de_init_da8c8 9 = .ok (.return_, 1) := by decide +kernel
theorem dJx4a65c_init_da8c8_0 : decode cJx4a65c_init_da8c8 0 = .ok (.aload_n 0, 1) := by decide +kernel
theorem dJx4a65c_init_da8c8_1 : decode cJx4a65c_init_da8c8 1 = .ok (.invokespecial 1, 3) := by decide +kernel
theorem dJx4a65c_init_da8c8_4 : decode cJx4a65c_init_da8c8 4 = .ok (.aload_n 0, 1) := by decide +kernel
theorem dJx4a65c_init_da8c8_5 : decode cJx4a65c_init_da8c8 5 = .ok (.getstatic 39, 3) := by decide +kernel
theorem dJx4a65c_init_da8c8_8 : decode cJx4a65c_init_da8c8 8 = .ok (.putfield 9, 3) := by decide +kernel
theorem dJx4a65c_init_da8c8_11 : decode cJx4a65c_init_da8c8 11 = .ok (.return_, 1) := by decide +kernel
theorem dJx4a65c_grow_92f84_0 : decode cJx4a65c_grow_92f84 0 = .ok (.aload_n 0, 1) := by decide +kernel
theorem dJx4a65c_grow_92f84_1 : decode cJx4a65c_grow_92f84 1 = .ok (.getfield 9, 3) := by decide +kernel
theorem dJx4a65c_grow_92f84_4 : decode cJx4a65c_grow_92f84 4 = .ok (.arraylength, 1) := by decide +kernel
theorem dJx4a65c_grow_92f84_5 : decode cJx4a65c_grow_92f84 5 = .ok (.istore_n 2, 1) := by decide +kernel
theorem dJx4a65c_grow_92f84_6 : decode cJx4a65c_grow_92f84 6 = .ok (.iload_n 2, 1) := by decide +kernel
theorem dJx4a65c_grow_92f84_7 : decode cJx4a65c_grow_92f84 7 = .ok (.ifCond .gt 13, 3) := by decide +kernel
theorem dJx4a65c_grow_92f84_10 : decode cJx4a65c_grow_92f84 10 = .ok (.aload_n 0, 1) := by decide +kernel
theorem dJx4a65c_grow_92f84_11 : decode cJx4a65c_grow_92f84 11 = .ok (.getfield 9, 3) := by decide +kernel
theorem dJx4a65c_grow_92f84_14 : decode cJx4a65c_grow_92f84 14 = .ok (.getstatic 39, 3) := by decide +kernel
theorem dJx4a65c_grow_92f84_17 : decode cJx4a65c_grow_92f84 17 = .ok (.if_acmp .eq 28, 3) := by decide +kernel
theorem dJx4a65c_grow_92f84_20 : decode cJx4a65c_grow_92f84 20 = .ok (.iload_n 2, 1) := by decide +kernel
theorem dJx4a65c_grow_92f84_21 : decode cJx4a65c_grow_92f84 21 = .ok (.iload_n 1, 1) := by decide +kernel
theorem dJx4a65c_grow_92f84_22 : decode cJx4a65c_grow_92f84 22 = .ok (.iload_n 2, 1) := by decide +kernel
theorem dJx4a65c_grow_92f84_23 : decode cJx4a65c_grow_92f84 23 = .ok (.isub, 1) := by decide +kernel
theorem dJx4a65c_grow_92f84_24 : decode cJx4a65c_grow_92f84 24 = .ok (.iload_n 2, 1) := by decide +kernel
theorem dJx4a65c_grow_92f84_25 : decode cJx4a65c_grow_92f84 25 = .ok (.iconst 1, 1) := by decide +kernel
theorem dJx4a65c_grow_92f84_26 : decode cJx4a65c_grow_92f84 26 = .ok (.ishr, 1) := by decide +kernel
theorem dJx4a65c_grow_92f84_27 : decode cJx4a65c_grow_92f84 27 = .ok (.invokestatic 73, 3) := by decide +kernel
theorem dJx4a65c_grow_92f84_30 : decode cJx4a65c_grow_92f84 30 = .ok (.istore_n 3, 1) := by decide +kernel
theorem dJx4a65c_grow_92f84_31 : decode cJx4a65c_grow_92f84 31 = .ok (.aload_n 0, 1) := by decide +kernel
theorem dJx4a65c_grow_92f84_32 : decode cJx4a65c_grow_92f84 32 = .ok (.aload_n 0, 1) := by decide +kernel
theorem dJx4a65c_grow_92f84_33 : decode cJx4a65c_grow_92f84 33 = .ok (.getfield 9, 3) := by decide +kernel
theorem dJx4a65c_grow_92f84_36 : decode cJx4a65c_grow_92f84 36 = .ok (.iload_n 3, 1) := by decide +kernel
theorem dJx4a65c_grow_92f84_37 : decode cJx4a65c_grow_92f84 37 = .ok (.invokestatic 66, 3) := by decide +kernel
theorem dJx4a65c_grow_92f84_40 : decode cJx4a65c_grow_92f84 40 = .ok (.dup_x1, 1) := by decide +kernel
theorem dJx4a65c_grow_92f84_41 : decode cJx4a65c_grow_92f84 41 = .ok (.putfield 9, 3) := by decide +kernel
theorem dJx4a65c_grow_92f84_44 : decode cJx4a65c_grow_92f84 44 = .ok (.areturn, 1) := by decide +kernel
theorem dJx4a65c_grow_92f84_45 : decode cJx4a65c_grow_92f84 45 = .ok (.aload_n 0, 1) := by decide +kernel
theorem dJx4a65c_grow_92f84_46 : decode cJx4a65c_grow_92f84 46 = .ok (.bipush 10, 2) := by decide +kernel
theorem dJx4a65c_grow_92f84_48 : decode cJx4a65c_grow_92f84 48 = .ok (.iload_n 1, 1) := by decide +kernel
theorem dJx4a65c_grow_92f84_49 : decode cJx4a65c_grow_92f84 49 = .ok (.invokestatic 79, 3) := by decide +kernel
theorem dJx4a65c_grow_92f84_52 : decode cJx4a65c_grow_92f84 52 = .ok (.anewarray 7, 3) := by decide +kernel
theorem dJx4a65c_grow_92f84_55 : decode cJx4a65c_grow_92f84 55 = .ok (.dup_x1, 1) := by decide +kernel
theorem dJx4a65c_grow_92f84_56 : decode cJx4a65c_grow_92f84 56 = .ok (.putfield 9, 3) := by decide +kernel
theorem dJx4a65c_grow_92f84_59 : decode cJx4a65c_grow_92f84 59 = .ok (.areturn, 1) := by decide +kernel
theorem dJx4a65c_grow_d5877_0 : decode cJx4a65c_grow_d5877 0 = .ok (.aload_n 0, 1) := by decide +kernel
theorem dJx4a65c_grow_d5877_1 : decode cJx4a65c_grow_d5877 1 = .ok (.aload_n 0, 1) := by decide +kernel
theorem dJx4a65c_grow_d5877_2 : decode cJx4a65c_grow_d5877 2 = .ok (.getfield 48, 3) := by decide +kernel
theorem dJx4a65c_grow_d5877_5 : decode cJx4a65c_grow_d5877 5 = .ok (.iconst 1, 1) := by decide +kernel
theorem dJx4a65c_grow_d5877_6 : decode cJx4a65c_grow_d5877 6 = .ok (.iadd, 1) := by decide +kernel
theorem dJx4a65c_grow_d5877_7 : decode cJx4a65c_grow_d5877 7 = .ok (.invokevirtual 69, 3) := by decide +kernel
theorem dJx4a65c_grow_d5877_10 : decode cJx4a65c_grow_d5877 10 = .ok (.areturn, 1) := by decide +kernel
theorem dJx4a65c_size_8abf5_0 : decode cJx4a65c_size_8abf5 0 = .ok (.aload_n 0, 1) := by decide +kernel
theorem dJx4a65c_size_8abf5_1 : decode cJx4a65c_size_8abf5 1 = .ok (.getfield 48, 3) := by decide +kernel
theorem dJx4a65c_size_8abf5_4 : decode cJx4a65c_size_8abf5 4 = .ok (.ireturn, 1) := by decide +kernel
theorem dJx4a65c_isEmpty_aae02_0 : decode cJx4a65c_isEmpty_aae02 0 = .ok (.aload_n 0, 1) := by decide +kernel
theorem dJx4a65c_isEmpty_aae02_1 : decode cJx4a65c_isEmpty_aae02 1 = .ok (.getfield 48, 3) := by decide +kernel
theorem dJx4a65c_isEmpty_aae02_4 : decode cJx4a65c_isEmpty_aae02 4 = .ok (.ifCond .ne 7, 3) := by decide +kernel
theorem dJx4a65c_isEmpty_aae02_7 : decode cJx4a65c_isEmpty_aae02 7 = .ok (.iconst 1, 1) := by decide +kernel
theorem dJx4a65c_isEmpty_aae02_8 : decode cJx4a65c_isEmpty_aae02 8 = .ok (.goto 4, 3) := by decide +kernel
theorem dJx4a65c_isEmpty_aae02_11 : decode cJx4a65c_isEmpty_aae02 11 = .ok (.iconst 0, 1) := by decide +kernel
theorem dJx4a65c_isEmpty_aae02_12 : decode cJx4a65c_isEmpty_aae02 12 = .ok (.ireturn, 1) := by decide +kernel
theorem dJx4a65c_elementData_915e3_0 : decode cJx4a65c_elementData_915e3 0 = .ok (.aload_n 0, 1) := by decide +kernel
theorem dJx4a65c_elementData_915e3_1 : decode cJx4a65c_elementData_915e3 1 = .ok (.getfield 9, 3) := by decide +kernel
theorem dJx4a65c_elementData_915e3_4 : decode cJx4a65c_elementData_915e3 4 = .ok (.iload_n 1, 1) := by decide +kernel
theorem dJx4a65c_elementData_915e3_5 : decode cJx4a65c_elementData_915e3 5 = .ok (.aaload, 1) := by decide +kernel
theorem dJx4a65c_elementData_915e3_6 : decode cJx4a65c_elementData_915e3 6 = .ok (.areturn, 1) := by decide +kernel
theorem dJx4a65c_get_915e3_0 : decode cJx4a65c_get_915e3 0 = .ok (.iload_n 1, 1) := by decide +kernel
theorem dJx4a65c_get_915e3_1 : decode cJx4a65c_get_915e3 1 = .ok (.aload_n 0, 1) := by decide +kernel
theorem dJx4a65c_get_915e3_2 : decode cJx4a65c_get_915e3 2 = .ok (.getfield 48, 3) := by decide +kernel
theorem dJx4a65c_get_915e3_5 : decode cJx4a65c_get_915e3 5 = .ok (.invokestatic 118, 3) := by decide +kernel
theorem dJx4a65c_get_915e3_8 : decode cJx4a65c_get_915e3 8 = .ok (.pop, 1) := by decide +kernel
theorem dJx4a65c_get_915e3_9 : decode cJx4a65c_get_915e3 9 = .ok (.aload_n 0, 1) := by decide +kernel
theorem dJx4a65c_get_915e3_10 : decode cJx4a65c_get_915e3 10 = .ok (.iload_n 1, 1) := by decide +kernel
theorem dJx4a65c_get_915e3_11 : decode cJx4a65c_get_915e3 11 = .ok (.invokevirtual 123, 3) := by decide +kernel
theorem dJx4a65c_get_915e3_14 : decode cJx4a65c_get_915e3 14 = .ok (.areturn, 1) := by decide +kernel
theorem dJx4a65c_add_72be8_0 : decode cJx4a65c_add_72be8 0 = .ok (.iload_n 3, 1) := by decide +kernel
theorem dJx4a65c_add_72be8_1 : decode cJx4a65c_add_72be8 1 = .ok (.aload_n 2, 1) := by decide +kernel
theorem dJx4a65c_add_72be8_2 : decode cJx4a65c_add_72be8 2 = .ok (.arraylength, 1) := by decide +kernel
theorem dJx4a65c_add_72be8_3 : decode cJx4a65c_add_72be8 3 = .ok (.if_icmp .ne 8, 3) := by decide +kernel
theorem dJx4a65c_add_72be8_6 : decode cJx4a65c_add_72be8 6 = .ok (.aload_n 0, 1) := by decide +kernel
theorem dJx4a65c_add_72be8_7 : decode cJx4a65c_add_72be8 7 = .ok (.invokevirtual 129, 3) := by decide +kernel
theorem dJx4a65c_add_72be8_10 : decode cJx4a65c_add_72be8 10 = .ok (.astore_n 2, 1) := by decide +kernel
theorem dJx4a65c_add_72be8_11 : decode cJx4a65c_add_72be8 11 = .ok (.aload_n 2, 1) := by decide +kernel
theorem dJx4a65c_add_72be8_12 : decode cJx4a65c_add_72be8 12 = .ok (.iload_n 3, 1) := by decide +kernel
theorem dJx4a65c_add_72be8_13 : decode cJx4a65c_add_72be8 13 = .ok (.aload_n 1, 1) := by decide +kernel
theorem dJx4a65c_add_72be8_14 : decode cJx4a65c_add_72be8 14 = .ok (.aastore, 1) := by decide +kernel
theorem dJx4a65c_add_72be8_15 : decode cJx4a65c_add_72be8 15 = .ok (.aload_n 0, 1) := by decide +kernel
theorem dJx4a65c_add_72be8_16 : decode cJx4a65c_add_72be8 16 = .ok (.iload_n 3, 1) := by decide +kernel
theorem dJx4a65c_add_72be8_17 : decode cJx4a65c_add_72be8 17 = .ok (.iconst 1, 1) := by decide +kernel
theorem dJx4a65c_add_72be8_18 : decode cJx4a65c_add_72be8 18 = .ok (.iadd, 1) := by decide +kernel
theorem dJx4a65c_add_72be8_19 : decode cJx4a65c_add_72be8 19 = .ok (.putfield 48, 3) := by decide +kernel
theorem dJx4a65c_add_72be8_22 : decode cJx4a65c_add_72be8 22 = .ok (.return_, 1) := by decide +kernel
theorem dJx4a65c_add_9ea2d_0 : decode cJx4a65c_add_9ea2d 0 = .ok (.aload_n 0, 1) := by decide +kernel
theorem dJx4a65c_add_9ea2d_1 : decode cJx4a65c_add_9ea2d 1 = .ok (.dup, 1) := by decide +kernel
theorem dJx4a65c_add_9ea2d_2 : decode cJx4a65c_add_9ea2d 2 = .ok (.getfield 63, 3) := by decide +kernel
theorem dJx4a65c_add_9ea2d_5 : decode cJx4a65c_add_9ea2d 5 = .ok (.iconst 1, 1) := by decide +kernel
theorem dJx4a65c_add_9ea2d_6 : decode cJx4a65c_add_9ea2d 6 = .ok (.iadd, 1) := by decide +kernel
theorem dJx4a65c_add_9ea2d_7 : decode cJx4a65c_add_9ea2d 7 = .ok (.putfield 63, 3) := by decide +kernel
theorem dJx4a65c_add_9ea2d_10 : decode cJx4a65c_add_9ea2d 10 = .ok (.aload_n 0, 1) := by decide +kernel
theorem dJx4a65c_add_9ea2d_11 : decode cJx4a65c_add_9ea2d 11 = .ok (.aload_n 1, 1) := by decide +kernel
theorem dJx4a65c_add_9ea2d_12 : decode cJx4a65c_add_9ea2d 12 = .ok (.aload_n 0, 1) := by decide +kernel
theorem dJx4a65c_add_9ea2d_13 : decode cJx4a65c_add_9ea2d 13 = .ok (.getfield 9, 3) := by decide +kernel
theorem dJx4a65c_add_9ea2d_16 : decode cJx4a65c_add_9ea2d 16 = .ok (.aload_n 0, 1) := by decide +kernel
theorem dJx4a65c_add_9ea2d_17 : decode cJx4a65c_add_9ea2d 17 = .ok (.getfield 48, 3) := by decide +kernel
theorem dJx4a65c_add_9ea2d_20 : decode cJx4a65c_add_9ea2d 20 = .ok (.invokevirtual 131, 3) := by decide +kernel
theorem dJx4a65c_add_9ea2d_23 : decode cJx4a65c_add_9ea2d 23 = .ok (.iconst 1, 1) := by decide +kernel
theorem dJx4a65c_add_9ea2d_24 : decode cJx4a65c_add_9ea2d 24 = .ok (.ireturn, 1) := by decide +kernel
theorem dJx4a65c_remove_915e3_0 : decode cJx4a65c_remove_915e3 0 = .ok (.iload_n 1, 1) := by decide +kernel
theorem dJx4a65c_remove_915e3_1 : decode cJx4a65c_remove_915e3 1 = .ok (.aload_n 0, 1) := by decide +kernel
theorem dJx4a65c_remove_915e3_2 : decode cJx4a65c_remove_915e3 2 = .ok (.getfield 48, 3) := by decide +kernel
theorem dJx4a65c_remove_915e3_5 : decode cJx4a65c_remove_915e3 5 = .ok (.invokestatic 118, 3) := by decide +kernel
theorem dJx4a65c_remove_915e3_8 : decode cJx4a65c_remove_915e3 8 = .ok (.pop, 1) := by decide +kernel
theorem dJx4a65c_remove_915e3_9 : decode cJx4a65c_remove_915e3 9 = .ok (.aload_n 0, 1) := by decide +kernel
theorem dJx4a65c_remove_915e3_10 : decode cJx4a65c_remove_915e3 10 = .ok (.getfield 9, 3) := by decide +kernel
theorem dJx4a65c_remove_915e3_13 : decode cJx4a65c_remove_915e3 13 = .ok (.astore_n 2, 1) := by decide +kernel
theorem dJx4a65c_remove_915e3_14 : decode cJx4a65c_remove_915e3 14 = .ok (.aload_n 2, 1) := by decide +kernel
theorem dJx4a65c_remove_915e3_15 : decode cJx4a65c_remove_915e3 15 = .ok (.iload_n 1, 1) := by decide +kernel
theorem dJx4a65c_remove_915e3_16 : decode cJx4a65c_remove_915e3 16 = .ok (.aaload, 1) := by decide +kernel
theorem dJx4a65c_remove_915e3_17 : decode cJx4a65c_remove_915e3 17 = .ok (.astore_n 3, 1) := by decide +kernel
theorem dJx4a65c_remove_915e3_18 : decode cJx4a65c_remove_915e3 18 = .ok (.aload_n 0, 1) := by decide +kernel
theorem dJx4a65c_remove_915e3_19 : decode cJx4a65c_remove_915e3 19 = .ok (.aload_n 2, 1) := by decide +kernel
theorem dJx4a65c_remove_915e3_20 : decode cJx4a65c_remove_915e3 20 = .ok (.iload_n 1, 1) := by decide +kernel
theorem dJx4a65c_remove_915e3_21 : decode cJx4a65c_remove_915e3 21 = .ok (.invokevirtual 144, 3) := by decide +kernel
theorem dJx4a65c_remove_915e3_24 : decode cJx4a65c_remove_915e3 24 = .ok (.aload_n 3, 1) := by decide +kernel
theorem dJx4a65c_remove_915e3_25 : decode cJx4a65c_remove_915e3 25 = .ok (.areturn, 1) := by decide +kernel
theorem dJx4a65c_fastRemove_b59b0_0 : decode cJx4a65c_fastRemove_b59b0 0 = .ok (.aload_n 0, 1) := by decide +kernel
theorem dJx4a65c_fastRemove_b59b0_1 : decode cJx4a65c_fastRemove_b59b0 1 = .ok (.dup, 1) := by decide +kernel
theorem dJx4a65c_fastRemove_b59b0_2 : decode cJx4a65c_fastRemove_b59b0 2 = .ok (.getfield 63, 3) := by decide +kernel
theorem dJx4a65c_fastRemove_b59b0_5 : decode cJx4a65c_fastRemove_b59b0 5 = .ok (.iconst 1, 1) := by decide +kernel
theorem dJx4a65c_fastRemove_b59b0_6 : decode cJx4a65c_fastRemove_b59b0 6 = .ok (.iadd, 1) := by decide +kernel
theorem dJx4a65c_fastRemove_b59b0_7 : decode cJx4a65c_fastRemove_b59b0 7 = .ok (.putfield 63, 3) := by decide +kernel
theorem dJx4a65c_fastRemove_b59b0_10 : decode cJx4a65c_fastRemove_b59b0 10 = .ok (.aload_n 0, 1) := by decide +kernel
theorem dJx4a65c_fastRemove_b59b0_11 : decode cJx4a65c_fastRemove_b59b0 11 = .ok (.getfield 48, 3) := by decide +kernel
theorem dJx4a65c_fastRemove_b59b0_14 : decode cJx4a65c_fastRemove_b59b0 14 = .ok (.iconst 1, 1) := by decide +kernel
theorem dJx4a65c_fastRemove_b59b0_15 : decode cJx4a65c_fastRemove_b59b0 15 = .ok (.isub, 1) := by decide +kernel
theorem dJx4a65c_fastRemove_b59b0_16 : decode cJx4a65c_fastRemove_b59b0 16 = .ok (.dup, 1) := by decide +kernel
theorem dJx4a65c_fastRemove_b59b0_17 : decode cJx4a65c_fastRemove_b59b0 17 = .ok (.istore_n 3, 1) := by decide +kernel
theorem dJx4a65c_fastRemove_b59b0_18 : decode cJx4a65c_fastRemove_b59b0 18 = .ok (.iload_n 2, 1) := by decide +kernel
theorem dJx4a65c_fastRemove_b59b0_19 : decode cJx4a65c_fastRemove_b59b0 19 = .ok (.if_icmp .le 15, 3) := by decide +kernel
theorem dJx4a65c_fastRemove_b59b0_22 : decode cJx4a65c_fastRemove_b59b0 22 = .ok (.aload_n 1, 1) := by decide +kernel
theorem dJx4a65c_fastRemove_b59b0_23 : decode cJx4a65c_fastRemove_b59b0 23 = .ok (.iload_n 2, 1) := by decide +kernel
theorem dJx4a65c_fastRemove_b59b0_24 : decode cJx4a65c_fastRemove_b59b0 24 = .ok (.iconst 1, 1) := by decide +kernel
theorem dJx4a65c_fastRemove_b59b0_25 : decode cJx4a65c_fastRemove_b59b0 25 = .ok (.iadd, 1) := by decide +kernel
theorem dJx4a65c_fastRemove_b59b0_26 : decode cJx4a65c_fastRemove_b59b0 26 = .ok (.aload_n 1, 1) := by decide +kernel
theorem dJx4a65c_fastRemove_b59b0_27 : decode cJx4a65c_fastRemove_b59b0 27 = .ok (.iload_n 2, 1) := by decide +kernel
theorem dJx4a65c_fastRemove_b59b0_28 : decode cJx4a65c_fastRemove_b59b0 28 = .ok (.iload_n 3, 1) := by decide +kernel
theorem dJx4a65c_fastRemove_b59b0_29 : decode cJx4a65c_fastRemove_b59b0 29 = .ok (.iload_n 2, 1) := by decide +kernel
theorem dJx4a65c_fastRemove_b59b0_30 : decode cJx4a65c_fastRemove_b59b0 30 = .ok (.isub, 1) := by decide +kernel
theorem dJx4a65c_fastRemove_b59b0_31 : decode cJx4a65c_fastRemove_b59b0 31 = .ok (.invokestatic 112, 3) := by decide +kernel
theorem dJx4a65c_fastRemove_b59b0_34 : decode cJx4a65c_fastRemove_b59b0 34 = .ok (.aload_n 1, 1) := by decide +kernel
theorem dJx4a65c_fastRemove_b59b0_35 : decode cJx4a65c_fastRemove_b59b0 35 = .ok (.aload_n 0, 1) := by decide +kernel
theorem dJx4a65c_fastRemove_b59b0_36 : decode cJx4a65c_fastRemove_b59b0 36 = .ok (.iload_n 3, 1) := by decide +kernel
theorem dJx4a65c_fastRemove_b59b0_37 : decode cJx4a65c_fastRemove_b59b0 37 = .ok (.dup_x1, 1) := by decide +kernel
theorem dJx4a65c_fastRemove_b59b0_38 : decode cJx4a65c_fastRemove_b59b0 38 = .ok (.putfield 48, 3) := by decide +kernel
theorem dJx4a65c_fastRemove_b59b0_41 : decode cJx4a65c_fastRemove_b59b0 41 = .ok (.aconst_null, 1) := by decide +kernel
theorem dJx4a65c_fastRemove_b59b0_42 : decode cJx4a65c_fastRemove_b59b0 42 = .ok (.aastore, 1) := by decide +kernel
theorem dJx4a65c_fastRemove_b59b0_43 : decode cJx4a65c_fastRemove_b59b0 43 = .ok (.return_, 1) := by decide +kernel
theorem dJ7_copyOf_1904c_0 : decode cJ7_copyOf_1904c 0 = .ok (.aload_n 0, 1) := by decide +kernel
theorem dJ7_copyOf_1904c_1 : decode cJ7_copyOf_1904c 1 = .ok (.iload_n 1, 1) := by decide +kernel
theorem dJ7_copyOf_1904c_2 : decode cJ7_copyOf_1904c 2 = .ok (.aload_n 0, 1) := by decide +kernel
theorem dJ7_copyOf_1904c_3 : decode cJ7_copyOf_1904c 3 = .ok (.invokevirtual 86, 3) := by decide +kernel
theorem dJ7_copyOf_1904c_6 : decode cJ7_copyOf_1904c 6 = .ok (.invokestatic 300, 3) := by decide +kernel
theorem dJ7_copyOf_1904c_9 : decode cJ7_copyOf_1904c 9 = .ok (.areturn, 1) := by decide +kernel
theorem dJ7_copyOf_6403c_0 : decode cJ7_copyOf_6403c 0 = .ok (.aload_n 2, 1) := by decide +kernel
theorem dJ7_copyOf_6403c_1 : decode cJ7_copyOf_6403c 1 = .ok (.ldc 110, 2) := by decide +kernel
theorem dJ7_copyOf_6403c_3 : decode cJ7_copyOf_6403c 3 = .ok (.if_acmp .ne 10, 3) := by decide +kernel
theorem dJ7_copyOf_6403c_6 : decode cJ7_copyOf_6403c 6 = .ok (.iload_n 1, 1) := by decide +kernel
theorem dJ7_copyOf_6403c_7 : decode cJ7_copyOf_6403c 7 = .ok (.anewarray 2, 3) := by decide +kernel
theorem dJ7_copyOf_6403c_10 : decode cJ7_copyOf_6403c 10 = .ok (.goto 14, 3) := by decide +kernel
theorem dJ7_copyOf_6403c_13 : decode cJ7_copyOf_6403c 13 = .ok (.aload_n 2, 1) := by decide +kernel
theorem dJ7_copyOf_6403c_14 : decode cJ7_copyOf_6403c 14 = .ok (.invokevirtual 90, 3) := by decide +kernel
theorem dJ7_copyOf_6403c_17 : decode cJ7_copyOf_6403c 17 = .ok (.iload_n 1, 1) := by decide +kernel
theorem dJ7_copyOf_6403c_18 : decode cJ7_copyOf_6403c 18 = .ok (.invokestatic 95, 3) := by decide +kernel
theorem dJ7_copyOf_6403c_21 : decode cJ7_copyOf_6403c 21 = .ok (.checkcast 110, 3) := by decide +kernel
theorem dJ7_copyOf_6403c_24 : decode cJ7_copyOf_6403c 24 = .ok (.astore_n 3, 1) := by decide +kernel
theorem dJ7_copyOf_6403c_25 : decode cJ7_copyOf_6403c 25 = .ok (.aload_n 0, 1) := by decide +kernel
theorem dJ7_copyOf_6403c_26 : decode cJ7_copyOf_6403c 26 = .ok (.iconst 0, 1) := by decide +kernel
theorem dJ7_copyOf_6403c_27 : decode cJ7_copyOf_6403c 27 = .ok (.aload_n 3, 1) := by decide +kernel
theorem dJ7_copyOf_6403c_28 : decode cJ7_copyOf_6403c 28 = .ok (.iconst 0, 1) := by decide +kernel
theorem dJ7_copyOf_6403c_29 : decode cJ7_copyOf_6403c 29 = .ok (.aload_n 0, 1) := by decide +kernel
theorem dJ7_copyOf_6403c_30 : decode cJ7_copyOf_6403c 30 = .ok (.arraylength, 1) := by decide +kernel
theorem dJ7_copyOf_6403c_31 : decode cJ7_copyOf_6403c 31 = .ok (.iload_n 1, 1) := by decide +kernel
theorem dJ7_copyOf_6403c_32 : decode cJ7_copyOf_6403c 32 = .ok (.invokestatic 304, 3) := by decide +kernel
theorem dJ7_copyOf_6403c_35 : decode cJ7_copyOf_6403c 35 = .ok (.invokestatic 150, 3) := by decide +kernel
theorem dJ7_copyOf_6403c_38 : decode cJ7_copyOf_6403c 38 = .ok (.aload_n 3, 1) := by decide +kernel
theorem dJ7_copyOf_6403c_39 : decode cJ7_copyOf_6403c 39 = .ok (.areturn, 1) := by decide +kernel
theorem dJ15_checkIndex_7cf53_0 : decode cJ15_checkIndex_7cf53 0 = .ok (.iload_n 0, 1) := by decide +kernel
theorem dJ15_checkIndex_7cf53_1 : decode cJ15_checkIndex_7cf53 1 = .ok (.iload_n 1, 1) := by decide +kernel
theorem dJ15_checkIndex_7cf53_2 : decode cJ15_checkIndex_7cf53 2 = .ok (.aconst_null, 1) := by decide +kernel
theorem dJ15_checkIndex_7cf53_3 : decode cJ15_checkIndex_7cf53 3 = .ok (.invokestatic 105, 3) := by decide +kernel
theorem dJ15_checkIndex_7cf53_6 : decode cJ15_checkIndex_7cf53 6 = .ok (.ireturn, 1) := by decide +kernel
theorem dJ8_newLength_cabcc_0 : decode cJ8_newLength_cabcc 0 = .ok (.iload_n 0, 1) := by decide +kernel
theorem dJ8_newLength_cabcc_1 : decode cJ8_newLength_cabcc 1 = .ok (.iload_n 1, 1) := by decide +kernel
theorem dJ8_newLength_cabcc_2 : decode cJ8_newLength_cabcc 2 = .ok (.iload_n 2, 1) := by decide +kernel
theorem dJ8_newLength_cabcc_3 : decode cJ8_newLength_cabcc 3 = .ok (.invokestatic 194, 3) := by decide +kernel
theorem dJ8_newLength_cabcc_6 : decode cJ8_newLength_cabcc 6 = .ok (.iadd, 1) := by decide +kernel
theorem dJ8_newLength_cabcc_7 : decode cJ8_newLength_cabcc 7 = .ok (.istore_n 3, 1) := by decide +kernel
theorem dJ8_newLength_cabcc_8 : decode cJ8_newLength_cabcc 8 = .ok (.iconst 0, 1) := by decide +kernel
theorem dJ8_newLength_cabcc_9 : decode cJ8_newLength_cabcc 9 = .ok (.iload_n 3, 1) := by decide +kernel
theorem dJ8_newLength_cabcc_10 : decode cJ8_newLength_cabcc 10 = .ok (.if_icmp .ge 11, 3) := by decide +kernel
theorem dJ8_newLength_cabcc_13 : decode cJ8_newLength_cabcc 13 = .ok (.iload_n 3, 1) := by decide +kernel
theorem dJ8_newLength_cabcc_14 : decode cJ8_newLength_cabcc 14 = .ok (.ldc 200, 2) := by decide +kernel
theorem dJ8_newLength_cabcc_16 : decode cJ8_newLength_cabcc 16 = .ok (.if_icmp .gt 5, 3) := by decide +kernel
theorem dJ8_newLength_cabcc_19 : decode cJ8_newLength_cabcc 19 = .ok (.iload_n 3, 1) := by decide +kernel
theorem dJ8_newLength_cabcc_20 : decode cJ8_newLength_cabcc 20 = .ok (.ireturn, 1) := by decide +kernel
theorem dJ8_newLength_cabcc_21 : decode cJ8_newLength_cabcc 21 = .ok (.iload_n 0, 1) := by decide +kernel
theorem dJ8_newLength_cabcc_22 : decode cJ8_newLength_cabcc 22 = .ok (.iload_n 1, 1) := by decide +kernel
theorem dJ8_newLength_cabcc_23 : decode cJ8_newLength_cabcc 23 = .ok (.invokestatic 201, 3) := by decide +kernel
theorem dJ8_newLength_cabcc_26 : decode cJ8_newLength_cabcc 26 = .ok (.ireturn, 1) := by decide +kernel
theorem dJ8_hugeLength_7cf53_0 : decode cJ8_hugeLength_7cf53 0 = .ok (.iload_n 0, 1) := by decide +kernel
theorem dJ8_hugeLength_7cf53_1 : decode cJ8_hugeLength_7cf53 1 = .ok (.iload_n 1, 1) := by decide +kernel
theorem dJ8_hugeLength_7cf53_2 : decode cJ8_hugeLength_7cf53 2 = .ok (.iadd, 1) := by decide +kernel
theorem dJ8_hugeLength_7cf53_3 : decode cJ8_hugeLength_7cf53 3 = .ok (.istore_n 2, 1) := by decide +kernel
theorem dJ8_hugeLength_7cf53_4 : decode cJ8_hugeLength_7cf53 4 = .ok (.iload_n 2, 1) := by decide +kernel
theorem dJ8_hugeLength_7cf53_5 : decode cJ8_hugeLength_7cf53 5 = .ok (.ifCond .ge 44, 3) := by decide +kernel
theorem dJ8_hugeLength_7cf53_8 : decode cJ8_hugeLength_7cf53 8 = .ok (.new 204, 3) := by decide +kernel
theorem dJ8_hugeLength_7cf53_11 : decode cJ8_hugeLength_7cf53 11 = .ok (.dup, 1) := by decide +kernel
theorem dJ8_hugeLength_7cf53_12 : decode cJ8_hugeLength_7cf53 12 = .ok (.new 89, 3) := by decide +kernel
theorem dJ8_hugeLength_7cf53_15 : decode cJ8_hugeLength_7cf53 15 = .ok (.dup, 1) := by decide +kernel
theorem dJ8_hugeLength_7cf53_16 : decode cJ8_hugeLength_7cf53 16 = .ok (.invokespecial 91, 3) := by decide +kernel
theorem dJ8_hugeLength_7cf53_19 : decode cJ8_hugeLength_7cf53 19 = .ok (.ldc 206, 2) := by decide +kernel
theorem dJ8_hugeLength_7cf53_21 : decode cJ8_hugeLength_7cf53 21 = .ok (.invokevirtual 94, 3) := by decide +kernel
theorem dJ8_hugeLength_7cf53_24 : decode cJ8_hugeLength_7cf53 24 = .ok (.iload_n 0, 1) := by decide +kernel
theorem dJ8_hugeLength_7cf53_25 : decode cJ8_hugeLength_7cf53 25 = .ok (.invokevirtual 98, 3) := by decide +kernel
theorem dJ8_hugeLength_7cf53_28 : decode cJ8_hugeLength_7cf53 28 = .ok (.ldc 208, 2) := by decide +kernel
theorem dJ8_hugeLength_7cf53_30 : decode cJ8_hugeLength_7cf53 30 = .ok (.invokevirtual 94, 3) := by decide +kernel
theorem dJ8_hugeLength_7cf53_33 : decode cJ8_hugeLength_7cf53 33 = .ok (.iload_n 1, 1) := by decide +kernel
theorem dJ8_hugeLength_7cf53_34 : decode cJ8_hugeLength_7cf53 34 = .ok (.invokevirtual 98, 3) := by decide +kernel
theorem dJ8_hugeLength_7cf53_37 : decode cJ8_hugeLength_7cf53 37 = .ok (.ldc 210, 2) := by decide +kernel
theorem dJ8_hugeLength_7cf53_39 : decode cJ8_hugeLength_7cf53 39 = .ok (.invokevirtual 94, 3) := by decide +kernel
theorem dJ8_hugeLength_7cf53_42 : decode cJ8_hugeLength_7cf53 42 = .ok (.invokevirtual 101, 3) := by decide +kernel
theorem dJ8_hugeLength_7cf53_45 : decode cJ8_hugeLength_7cf53 45 = .ok (.invokespecial 212, 3) := by decide +kernel
theorem dJ8_hugeLength_7cf53_48 : decode cJ8_hugeLength_7cf53 48 = .ok (.athrow, 1) := by decide +kernel
theorem dJ8_hugeLength_7cf53_49 : decode cJ8_hugeLength_7cf53 49 = .ok (.iload_n 2, 1) := by decide +kernel
theorem dJ8_hugeLength_7cf53_50 : decode cJ8_hugeLength_7cf53 50 = .ok (.ldc 200, 2) := by decide +kernel
theorem dJ8_hugeLength_7cf53_52 : decode cJ8_hugeLength_7cf53 52 = .ok (.if_icmp .gt 6, 3) := by decide +kernel
theorem dJ8_hugeLength_7cf53_55 : decode cJ8_hugeLength_7cf53 55 = .ok (.ldc 200, 2) := by decide +kernel
theorem dJ8_hugeLength_7cf53_57 : decode cJ8_hugeLength_7cf53 57 = .ok (.ireturn, 1) := by decide +kernel
theorem dJ8_hugeLength_7cf53_58 : decode cJ8_hugeLength_7cf53 58 = .ok (.iload_n 2, 1) := by decide +kernel
theorem dJ8_hugeLength_7cf53_59 : decode cJ8_hugeLength_7cf53 59 = .ok (.ireturn, 1) := by decide +kernel
theorem dJ3_checkIndex_8e157_0 : decode cJ3_checkIndex_8e157 0 = .ok (.iload_n 0, 1) := by decide +kernel
theorem dJ3_checkIndex_8e157_1 : decode cJ3_checkIndex_8e157 1 = .ok (.ifCond .lt 8, 3) := by decide +kernel
theorem dJ3_checkIndex_8e157_4 : decode cJ3_checkIndex_8e157 4 = .ok (.iload_n 0, 1) := by decide +kernel
theorem dJ3_checkIndex_8e157_5 : decode cJ3_checkIndex_8e157 5 = .ok (.iload_n 1, 1) := by decide +kernel
theorem dJ3_checkIndex_8e157_6 : decode cJ3_checkIndex_8e157 6 = .ok (.if_icmp .lt 10, 3) := by decide +kernel
theorem dJ3_checkIndex_8e157_9 : decode cJ3_checkIndex_8e157 9 = .ok (.aload_n 2, 1) := by decide +kernel
theorem dJ3_checkIndex_8e157_10 : decode cJ3_checkIndex_8e157 10 = .ok (.iload_n 0, 1) := by decide +kernel
theorem dJ3_checkIndex_8e157_11 : decode cJ3_checkIndex_8e157 11 = .ok (.iload_n 1, 1) := by decide +kernel
theorem dJ3_checkIndex_8e157_12 : decode cJ3_checkIndex_8e157 12 = .ok (.invokestatic 95, 3) := by decide +kernel
theorem dJ3_checkIndex_8e157_15 : decode cJ3_checkIndex_8e157 15 = .ok (.athrow, 1) := by decide +kernel
theorem dJ3_checkIndex_8e157_16 : decode cJ3_checkIndex_8e157 16 = .ok (.iload_n 0, 1) := by decide +kernel
theorem dJ3_checkIndex_8e157_17 : decode cJ3_checkIndex_8e157 17 = .ok (.ireturn, 1) := by decide +kernel
theorem dL_offer_0 : decode cL_offer 0 = .ok (.aload 4, 2) := by decide +kernel
theorem dL_offer_2 : decode cL_offer 2 = .ok (.iconst 0, 1) := by decide +kernel
theorem dL_offer_3 : decode cL_offer 3 = .ok (.aload_n 0, 1) := by decide +kernel
theorem dL_offer_4 : decode cL_offer 4 = .ok (.iload_n 1, 1) := by decide +kernel
theorem dL_offer_5 : decode cL_offer 5 = .ok (.iload_n 2, 1) := by decide +kernel
theorem dL_offer_6 : decode cL_offer 6 = .ok (.iload_n 3, 1) := by decide +kernel
theorem dL_offer_7 : decode cL_offer 7 = .ok (.invokevirtual 7, 3) := by decide +kernel
theorem dL_offer_10 : decode cL_offer 10 = .ok (.i2l, 1) := by decide +kernel
theorem dL_offer_11 : decode cL_offer 11 = .ok (.lastore, 1) := by decide +kernel
theorem dL_offer_12 : decode cL_offer 12 = .ok (.goto 11, 3) := by decide +kernel
theorem dL_offer_15 : decode cL_offer 15 = .ok (.astore 5, 2) := by decide +kernel
theorem dL_offer_17 : decode cL_offer 17 = .ok (.iconst 1, 1) := by decide +kernel
theorem dL_offer_18 : decode cL_offer 18 = .ok (.ireturn, 1) := by decide +kernel
theorem dL_offer_19 : decode cL_offer 19 = .ok (.astore 5, 2) := by decide +kernel
theorem dL_offer_21 : decode cL_offer 21 = .ok (.iconst 2, 1) := by decide +kernel
theorem dL_offer_22 : decode cL_offer 22 = .ok (.ireturn, 1) := by decide +kernel
theorem dL_offer_23 : decode cL_offer 23 = .ok (.iconst 0, 1) := by decide +kernel
theorem dL_offer_24 : decode cL_offer 24 = .ok (.ireturn, 1) := by decide +kernel
theorem dL_withdraw_0 : decode cL_withdraw 0 = .ok (.aload_n 2, 1) := by decide +kernel
theorem dL_withdraw_1 : decode cL_withdraw 1 = .ok (.iconst 0, 1) := by decide +kernel
theorem dL_withdraw_2 : decode cL_withdraw 2 = .ok (.aload_n 0, 1) := by decide +kernel
theorem dL_withdraw_3 : decode cL_withdraw 3 = .ok (.iload_n 1, 1) := by decide +kernel
theorem dL_withdraw_4 : decode cL_withdraw 4 = .ok (.invokevirtual 17, 3) := by decide +kernel
theorem dL_withdraw_7 : decode cL_withdraw 7 = .ok (.i2l, 1) := by decide +kernel
theorem dL_withdraw_8 : decode cL_withdraw 8 = .ok (.lastore, 1) := by decide +kernel
theorem dL_withdraw_9 : decode cL_withdraw 9 = .ok (.goto 9, 3) := by decide +kernel
theorem dL_withdraw_12 : decode cL_withdraw 12 = .ok (.astore_n 3, 1) := by decide +kernel
theorem dL_withdraw_13 : decode cL_withdraw 13 = .ok (.iconst 1, 1) := by decide +kernel
theorem dL_withdraw_14 : decode cL_withdraw 14 = .ok (.ireturn, 1) := by decide +kernel
theorem dL_withdraw_15 : decode cL_withdraw 15 = .ok (.astore_n 3, 1) := by decide +kernel
theorem dL_withdraw_16 : decode cL_withdraw 16 = .ok (.iconst 2, 1) := by decide +kernel
theorem dL_withdraw_17 : decode cL_withdraw 17 = .ok (.ireturn, 1) := by decide +kernel
theorem dL_withdraw_18 : decode cL_withdraw 18 = .ok (.iconst 0, 1) := by decide +kernel
theorem dL_withdraw_19 : decode cL_withdraw 19 = .ok (.ireturn, 1) := by decide +kernel
theorem dL_allow_0 : decode cL_allow 0 = .ok (.aload 4, 2) := by decide +kernel
theorem dL_allow_2 : decode cL_allow 2 = .ok (.iconst 0, 1) := by decide +kernel
theorem dL_allow_3 : decode cL_allow 3 = .ok (.aload_n 0, 1) := by decide +kernel
theorem dL_allow_4 : decode cL_allow 4 = .ok (.iload_n 1, 1) := by decide +kernel
theorem dL_allow_5 : decode cL_allow 5 = .ok (.iload_n 2, 1) := by decide +kernel
theorem dL_allow_6 : decode cL_allow 6 = .ok (.iload_n 3, 1) := by decide +kernel
theorem dL_allow_7 : decode cL_allow 7 = .ok (.invokevirtual 23, 3) := by decide +kernel
theorem dL_allow_10 : decode cL_allow 10 = .ok (.i2l, 1) := by decide +kernel
theorem dL_allow_11 : decode cL_allow 11 = .ok (.lastore, 1) := by decide +kernel
theorem dL_allow_12 : decode cL_allow 12 = .ok (.goto 11, 3) := by decide +kernel
theorem dL_allow_15 : decode cL_allow 15 = .ok (.astore 5, 2) := by decide +kernel
theorem dL_allow_17 : decode cL_allow 17 = .ok (.iconst 1, 1) := by decide +kernel
theorem dL_allow_18 : decode cL_allow 18 = .ok (.ireturn, 1) := by decide +kernel
theorem dL_allow_19 : decode cL_allow 19 = .ok (.astore 5, 2) := by decide +kernel
theorem dL_allow_21 : decode cL_allow 21 = .ok (.iconst 2, 1) := by decide +kernel
theorem dL_allow_22 : decode cL_allow 22 = .ok (.ireturn, 1) := by decide +kernel
theorem dL_allow_23 : decode cL_allow 23 = .ok (.iconst 0, 1) := by decide +kernel
theorem dL_allow_24 : decode cL_allow 24 = .ok (.ireturn, 1) := by decide +kernel
theorem dL_forbid_0 : decode cL_forbid 0 = .ok (.aload_n 1, 1) := by decide +kernel
theorem dL_forbid_1 : decode cL_forbid 1 = .ok (.iconst 0, 1) := by decide +kernel
theorem dL_forbid_2 : decode cL_forbid 2 = .ok (.aload_n 0, 1) := by decide +kernel
theorem dL_forbid_3 : decode cL_forbid 3 = .ok (.invokevirtual 27, 3) := by decide +kernel
theorem dL_forbid_6 : decode cL_forbid 6 = .ok (.i2l, 1) := by decide +kernel
theorem dL_forbid_7 : decode cL_forbid 7 = .ok (.lastore, 1) := by decide +kernel
theorem dL_forbid_8 : decode cL_forbid 8 = .ok (.goto 6, 3) := by decide +kernel
theorem dL_forbid_11 : decode cL_forbid 11 = .ok (.astore_n 2, 1) := by decide +kernel
theorem dL_forbid_12 : decode cL_forbid 12 = .ok (.iconst 1, 1) := by decide +kernel
theorem dL_forbid_13 : decode cL_forbid 13 = .ok (.ireturn, 1) := by decide +kernel
theorem dL_forbid_14 : decode cL_forbid 14 = .ok (.iconst 0, 1) := by decide +kernel
theorem dL_forbid_15 : decode cL_forbid 15 = .ok (.ireturn, 1) := by decide +kernel
theorem dL_bid_0 : decode cL_bid 0 = .ok (.aload_n 3, 1) := by decide +kernel
theorem dL_bid_1 : decode cL_bid 1 = .ok (.iconst 0, 1) := by decide +kernel
theorem dL_bid_2 : decode cL_bid 2 = .ok (.aload_n 0, 1) := by decide +kernel
theorem dL_bid_3 : decode cL_bid 3 = .ok (.iload_n 1, 1) := by decide +kernel
theorem dL_bid_4 : decode cL_bid 4 = .ok (.iload_n 2, 1) := by decide +kernel
theorem dL_bid_5 : decode cL_bid 5 = .ok (.invokevirtual 31, 3) := by decide +kernel
theorem dL_bid_8 : decode cL_bid 8 = .ok (.i2l, 1) := by decide +kernel
theorem dL_bid_9 : decode cL_bid 9 = .ok (.lastore, 1) := by decide +kernel
theorem dL_bid_10 : decode cL_bid 10 = .ok (.goto 11, 3) := by decide +kernel
theorem dL_bid_13 : decode cL_bid 13 = .ok (.astore 4, 2) := by decide +kernel
theorem dL_bid_15 : decode cL_bid 15 = .ok (.iconst 1, 1) := by decide +kernel
theorem dL_bid_16 : decode cL_bid 16 = .ok (.ireturn, 1) := by decide +kernel
theorem dL_bid_17 : decode cL_bid 17 = .ok (.astore 4, 2) := by decide +kernel
theorem dL_bid_19 : decode cL_bid 19 = .ok (.iconst 2, 1) := by decide +kernel
theorem dL_bid_20 : decode cL_bid 20 = .ok (.ireturn, 1) := by decide +kernel
theorem dL_bid_21 : decode cL_bid 21 = .ok (.iconst 0, 1) := by decide +kernel
theorem dL_bid_22 : decode cL_bid 22 = .ok (.ireturn, 1) := by decide +kernel
theorem dL_ask_0 : decode cL_ask 0 = .ok (.aload 4, 2) := by decide +kernel
theorem dL_ask_2 : decode cL_ask 2 = .ok (.iconst 0, 1) := by decide +kernel
theorem dL_ask_3 : decode cL_ask 3 = .ok (.aload_n 0, 1) := by decide +kernel
theorem dL_ask_4 : decode cL_ask 4 = .ok (.iload_n 1, 1) := by decide +kernel
theorem dL_ask_5 : decode cL_ask 5 = .ok (.iload_n 2, 1) := by decide +kernel
theorem dL_ask_6 : decode cL_ask 6 = .ok (.iload_n 3, 1) := by decide +kernel
theorem dL_ask_7 : decode cL_ask 7 = .ok (.invokevirtual 35, 3) := by decide +kernel
theorem dL_ask_10 : decode cL_ask 10 = .ok (.i2l, 1) := by decide +kernel
theorem dL_ask_11 : decode cL_ask 11 = .ok (.lastore, 1) := by decide +kernel
theorem dL_ask_12 : decode cL_ask 12 = .ok (.goto 15, 3) := by decide +kernel
theorem dL_ask_15 : decode cL_ask 15 = .ok (.astore 5, 2) := by decide +kernel
theorem dL_ask_17 : decode cL_ask 17 = .ok (.iconst 1, 1) := by decide +kernel
theorem dL_ask_18 : decode cL_ask 18 = .ok (.ireturn, 1) := by decide +kernel
theorem dL_ask_19 : decode cL_ask 19 = .ok (.astore 5, 2) := by decide +kernel
theorem dL_ask_21 : decode cL_ask 21 = .ok (.iconst 2, 1) := by decide +kernel
theorem dL_ask_22 : decode cL_ask 22 = .ok (.ireturn, 1) := by decide +kernel
theorem dL_ask_23 : decode cL_ask 23 = .ok (.astore 5, 2) := by decide +kernel
theorem dL_ask_25 : decode cL_ask 25 = .ok (.iconst 3, 1) := by decide +kernel
theorem dL_ask_26 : decode cL_ask 26 = .ok (.ireturn, 1) := by decide +kernel
theorem dL_ask_27 : decode cL_ask 27 = .ok (.iconst 0, 1) := by decide +kernel
theorem dL_ask_28 : decode cL_ask 28 = .ok (.ireturn, 1) := by decide +kernel
theorem dL_raise_0 : decode cL_raise 0 = .ok (.aload_n 3, 1) := by decide +kernel
theorem dL_raise_1 : decode cL_raise 1 = .ok (.iconst 0, 1) := by decide +kernel
theorem dL_raise_2 : decode cL_raise 2 = .ok (.aload_n 0, 1) := by decide +kernel
theorem dL_raise_3 : decode cL_raise 3 = .ok (.iload_n 1, 1) := by decide +kernel
theorem dL_raise_4 : decode cL_raise 4 = .ok (.iload_n 2, 1) := by decide +kernel
theorem dL_raise_5 : decode cL_raise 5 = .ok (.invokevirtual 39, 3) := by decide +kernel
theorem dL_raise_8 : decode cL_raise 8 = .ok (.i2l, 1) := by decide +kernel
theorem dL_raise_9 : decode cL_raise 9 = .ok (.lastore, 1) := by decide +kernel
theorem dL_raise_10 : decode cL_raise 10 = .ok (.goto 15, 3) := by decide +kernel
theorem dL_raise_13 : decode cL_raise 13 = .ok (.astore 4, 2) := by decide +kernel
theorem dL_raise_15 : decode cL_raise 15 = .ok (.iconst 1, 1) := by decide +kernel
theorem dL_raise_16 : decode cL_raise 16 = .ok (.ireturn, 1) := by decide +kernel
theorem dL_raise_17 : decode cL_raise 17 = .ok (.astore 4, 2) := by decide +kernel
theorem dL_raise_19 : decode cL_raise 19 = .ok (.iconst 2, 1) := by decide +kernel
theorem dL_raise_20 : decode cL_raise 20 = .ok (.ireturn, 1) := by decide +kernel
theorem dL_raise_21 : decode cL_raise 21 = .ok (.astore 4, 2) := by decide +kernel
theorem dL_raise_23 : decode cL_raise 23 = .ok (.iconst 3, 1) := by decide +kernel
theorem dL_raise_24 : decode cL_raise 24 = .ok (.ireturn, 1) := by decide +kernel
theorem dL_raise_25 : decode cL_raise 25 = .ok (.iconst 0, 1) := by decide +kernel
theorem dL_raise_26 : decode cL_raise 26 = .ok (.ireturn, 1) := by decide +kernel
theorem dL_cancel_0 : decode cL_cancel 0 = .ok (.aload_n 2, 1) := by decide +kernel
theorem dL_cancel_1 : decode cL_cancel 1 = .ok (.iconst 0, 1) := by decide +kernel
theorem dL_cancel_2 : decode cL_cancel 2 = .ok (.aload_n 0, 1) := by decide +kernel
theorem dL_cancel_3 : decode cL_cancel 3 = .ok (.iload_n 1, 1) := by decide +kernel
theorem dL_cancel_4 : decode cL_cancel 4 = .ok (.invokevirtual 42, 3) := by decide +kernel
theorem dL_cancel_7 : decode cL_cancel 7 = .ok (.i2l, 1) := by decide +kernel
theorem dL_cancel_8 : decode cL_cancel 8 = .ok (.lastore, 1) := by decide +kernel
theorem dL_cancel_9 : decode cL_cancel 9 = .ok (.goto 9, 3) := by decide +kernel
theorem dL_cancel_12 : decode cL_cancel 12 = .ok (.astore_n 3, 1) := by decide +kernel
theorem dL_cancel_13 : decode cL_cancel 13 = .ok (.iconst 1, 1) := by decide +kernel
theorem dL_cancel_14 : decode cL_cancel 14 = .ok (.ireturn, 1) := by decide +kernel
theorem dL_cancel_15 : decode cL_cancel 15 = .ok (.astore_n 3, 1) := by decide +kernel
theorem dL_cancel_16 : decode cL_cancel 16 = .ok (.iconst 2, 1) := by decide +kernel
theorem dL_cancel_17 : decode cL_cancel 17 = .ok (.ireturn, 1) := by decide +kernel
theorem dL_cancel_18 : decode cL_cancel 18 = .ok (.iconst 0, 1) := by decide +kernel
theorem dL_cancel_19 : decode cL_cancel 19 = .ok (.ireturn, 1) := by decide +kernel
theorem dL_close_0 : decode cL_close 0 = .ok (.aload_n 1, 1) := by decide +kernel
theorem dL_close_1 : decode cL_close 1 = .ok (.iconst 0, 1) := by decide +kernel
theorem dL_close_2 : decode cL_close 2 = .ok (.aload_n 0, 1) := by decide +kernel
theorem dL_close_3 : decode cL_close 3 = .ok (.invokevirtual 45, 3) := by decide +kernel
theorem dL_close_6 : decode cL_close 6 = .ok (.i2l, 1) := by decide +kernel
theorem dL_close_7 : decode cL_close 7 = .ok (.lastore, 1) := by decide +kernel
theorem dL_close_8 : decode cL_close 8 = .ok (.goto 6, 3) := by decide +kernel
theorem dL_close_11 : decode cL_close 11 = .ok (.astore_n 2, 1) := by decide +kernel
theorem dL_close_12 : decode cL_close 12 = .ok (.iconst 1, 1) := by decide +kernel
theorem dL_close_13 : decode cL_close 13 = .ok (.ireturn, 1) := by decide +kernel
theorem dL_close_14 : decode cL_close 14 = .ok (.iconst 0, 1) := by decide +kernel
theorem dL_close_15 : decode cL_close 15 = .ok (.ireturn, 1) := by decide +kernel
theorem dL_fibreOf_0 : decode cL_fibreOf 0 = .ok (.aload_n 2, 1) := by decide +kernel
theorem dL_fibreOf_1 : decode cL_fibreOf 1 = .ok (.iconst 0, 1) := by decide +kernel
theorem dL_fibreOf_2 : decode cL_fibreOf 2 = .ok (.aload_n 0, 1) := by decide +kernel
theorem dL_fibreOf_3 : decode cL_fibreOf 3 = .ok (.iload_n 1, 1) := by decide +kernel
theorem dL_fibreOf_4 : decode cL_fibreOf 4 = .ok (.invokevirtual 48, 3) := by decide +kernel
theorem dL_fibreOf_7 : decode cL_fibreOf 7 = .ok (.i2l, 1) := by decide +kernel
theorem dL_fibreOf_8 : decode cL_fibreOf 8 = .ok (.lastore, 1) := by decide +kernel
theorem dL_fibreOf_9 : decode cL_fibreOf 9 = .ok (.goto 6, 3) := by decide +kernel
theorem dL_fibreOf_12 : decode cL_fibreOf 12 = .ok (.astore_n 3, 1) := by decide +kernel
theorem dL_fibreOf_13 : decode cL_fibreOf 13 = .ok (.iconst 1, 1) := by decide +kernel
theorem dL_fibreOf_14 : decode cL_fibreOf 14 = .ok (.ireturn, 1) := by decide +kernel
theorem dL_fibreOf_15 : decode cL_fibreOf 15 = .ok (.iconst 0, 1) := by decide +kernel
theorem dL_fibreOf_16 : decode cL_fibreOf 16 = .ok (.ireturn, 1) := by decide +kernel
theorem dL_gradeOf_0 : decode cL_gradeOf 0 = .ok (.aload_n 2, 1) := by decide +kernel
theorem dL_gradeOf_1 : decode cL_gradeOf 1 = .ok (.iconst 0, 1) := by decide +kernel
theorem dL_gradeOf_2 : decode cL_gradeOf 2 = .ok (.aload_n 0, 1) := by decide +kernel
theorem dL_gradeOf_3 : decode cL_gradeOf 3 = .ok (.iload_n 1, 1) := by decide +kernel
theorem dL_gradeOf_4 : decode cL_gradeOf 4 = .ok (.invokevirtual 51, 3) := by decide +kernel
theorem dL_gradeOf_7 : decode cL_gradeOf 7 = .ok (.i2l, 1) := by decide +kernel
theorem dL_gradeOf_8 : decode cL_gradeOf 8 = .ok (.lastore, 1) := by decide +kernel
theorem dL_gradeOf_9 : decode cL_gradeOf 9 = .ok (.goto 6, 3) := by decide +kernel
theorem dL_gradeOf_12 : decode cL_gradeOf 12 = .ok (.astore_n 3, 1) := by decide +kernel
theorem dL_gradeOf_13 : decode cL_gradeOf 13 = .ok (.iconst 1, 1) := by decide +kernel
theorem dL_gradeOf_14 : decode cL_gradeOf 14 = .ok (.ireturn, 1) := by decide +kernel
theorem dL_gradeOf_15 : decode cL_gradeOf 15 = .ok (.iconst 0, 1) := by decide +kernel
theorem dL_gradeOf_16 : decode cL_gradeOf 16 = .ok (.ireturn, 1) := by decide +kernel
theorem dL_reserveOf_0 : decode cL_reserveOf 0 = .ok (.aload_n 2, 1) := by decide +kernel
theorem dL_reserveOf_1 : decode cL_reserveOf 1 = .ok (.iconst 0, 1) := by decide +kernel
theorem dL_reserveOf_2 : decode cL_reserveOf 2 = .ok (.aload_n 0, 1) := by decide +kernel
theorem dL_reserveOf_3 : decode cL_reserveOf 3 = .ok (.iload_n 1, 1) := by decide +kernel
theorem dL_reserveOf_4 : decode cL_reserveOf 4 = .ok (.invokevirtual 55, 3) := by decide +kernel
theorem dL_reserveOf_7 : decode cL_reserveOf 7 = .ok (.i2l, 1) := by decide +kernel
theorem dL_reserveOf_8 : decode cL_reserveOf 8 = .ok (.lastore, 1) := by decide +kernel
theorem dL_reserveOf_9 : decode cL_reserveOf 9 = .ok (.goto 6, 3) := by decide +kernel
theorem dL_reserveOf_12 : decode cL_reserveOf 12 = .ok (.astore_n 3, 1) := by decide +kernel
theorem dL_reserveOf_13 : decode cL_reserveOf 13 = .ok (.iconst 1, 1) := by decide +kernel
theorem dL_reserveOf_14 : decode cL_reserveOf 14 = .ok (.ireturn, 1) := by decide +kernel
theorem dL_reserveOf_15 : decode cL_reserveOf 15 = .ok (.iconst 0, 1) := by decide +kernel
theorem dL_reserveOf_16 : decode cL_reserveOf 16 = .ok (.ireturn, 1) := by decide +kernel
theorem dL_lotState_0 : decode cL_lotState 0 = .ok (.aload_n 2, 1) := by decide +kernel
theorem dL_lotState_1 : decode cL_lotState 1 = .ok (.iconst 0, 1) := by decide +kernel
theorem dL_lotState_2 : decode cL_lotState 2 = .ok (.aload_n 0, 1) := by decide +kernel
theorem dL_lotState_3 : decode cL_lotState 3 = .ok (.iload_n 1, 1) := by decide +kernel
theorem dL_lotState_4 : decode cL_lotState 4 = .ok (.invokevirtual 58, 3) := by decide +kernel
theorem dL_lotState_7 : decode cL_lotState 7 = .ok (.i2l, 1) := by decide +kernel
theorem dL_lotState_8 : decode cL_lotState 8 = .ok (.lastore, 1) := by decide +kernel
theorem dL_lotState_9 : decode cL_lotState 9 = .ok (.goto 6, 3) := by decide +kernel
theorem dL_lotState_12 : decode cL_lotState 12 = .ok (.astore_n 3, 1) := by decide +kernel
theorem dL_lotState_13 : decode cL_lotState 13 = .ok (.iconst 1, 1) := by decide +kernel
theorem dL_lotState_14 : decode cL_lotState 14 = .ok (.ireturn, 1) := by decide +kernel
theorem dL_lotState_15 : decode cL_lotState 15 = .ok (.iconst 0, 1) := by decide +kernel
theorem dL_lotState_16 : decode cL_lotState 16 = .ok (.ireturn, 1) := by decide +kernel
theorem dL_soldTo_0 : decode cL_soldTo 0 = .ok (.aload_n 2, 1) := by decide +kernel
theorem dL_soldTo_1 : decode cL_soldTo 1 = .ok (.iconst 0, 1) := by decide +kernel
theorem dL_soldTo_2 : decode cL_soldTo 2 = .ok (.aload_n 0, 1) := by decide +kernel
theorem dL_soldTo_3 : decode cL_soldTo 3 = .ok (.iload_n 1, 1) := by decide +kernel
theorem dL_soldTo_4 : decode cL_soldTo 4 = .ok (.invokevirtual 61, 3) := by decide +kernel
theorem dL_soldTo_7 : decode cL_soldTo 7 = .ok (.i2l, 1) := by decide +kernel
theorem dL_soldTo_8 : decode cL_soldTo 8 = .ok (.lastore, 1) := by decide +kernel
theorem dL_soldTo_9 : decode cL_soldTo 9 = .ok (.goto 9, 3) := by decide +kernel
theorem dL_soldTo_12 : decode cL_soldTo 12 = .ok (.astore_n 3, 1) := by decide +kernel
theorem dL_soldTo_13 : decode cL_soldTo 13 = .ok (.iconst 1, 1) := by decide +kernel
theorem dL_soldTo_14 : decode cL_soldTo 14 = .ok (.ireturn, 1) := by decide +kernel
theorem dL_soldTo_15 : decode cL_soldTo 15 = .ok (.astore_n 3, 1) := by decide +kernel
theorem dL_soldTo_16 : decode cL_soldTo 16 = .ok (.iconst 2, 1) := by decide +kernel
theorem dL_soldTo_17 : decode cL_soldTo 17 = .ok (.ireturn, 1) := by decide +kernel
theorem dL_soldTo_18 : decode cL_soldTo 18 = .ok (.iconst 0, 1) := by decide +kernel
theorem dL_soldTo_19 : decode cL_soldTo 19 = .ok (.ireturn, 1) := by decide +kernel
theorem dL_countOf_0 : decode cL_countOf 0 = .ok (.aload_n 3, 1) := by decide +kernel
theorem dL_countOf_1 : decode cL_countOf 1 = .ok (.iconst 0, 1) := by decide +kernel
theorem dL_countOf_2 : decode cL_countOf 2 = .ok (.aload_n 0, 1) := by decide +kernel
theorem dL_countOf_3 : decode cL_countOf 3 = .ok (.iload_n 1, 1) := by decide +kernel
theorem dL_countOf_4 : decode cL_countOf 4 = .ok (.iload_n 2, 1) := by decide +kernel
theorem dL_countOf_5 : decode cL_countOf 5 = .ok (.invokevirtual 64, 3) := by decide +kernel
theorem dL_countOf_8 : decode cL_countOf 8 = .ok (.i2l, 1) := by decide +kernel
theorem dL_countOf_9 : decode cL_countOf 9 = .ok (.lastore, 1) := by decide +kernel
theorem dL_countOf_10 : decode cL_countOf 10 = .ok (.goto 7, 3) := by decide +kernel
theorem dL_countOf_13 : decode cL_countOf 13 = .ok (.astore 4, 2) := by decide +kernel
theorem dL_countOf_15 : decode cL_countOf 15 = .ok (.iconst 1, 1) := by decide +kernel
theorem dL_countOf_16 : decode cL_countOf 16 = .ok (.ireturn, 1) := by decide +kernel
theorem dL_countOf_17 : decode cL_countOf 17 = .ok (.iconst 0, 1) := by decide +kernel
theorem dL_countOf_18 : decode cL_countOf 18 = .ok (.ireturn, 1) := by decide +kernel
theorem dL_items_0 : decode cL_items 0 = .ok (.aload_n 2, 1) := by decide +kernel
theorem dL_items_1 : decode cL_items 1 = .ok (.iconst 0, 1) := by decide +kernel
theorem dL_items_2 : decode cL_items 2 = .ok (.aload_n 0, 1) := by decide +kernel
theorem dL_items_3 : decode cL_items 3 = .ok (.iload_n 1, 1) := by decide +kernel
theorem dL_items_4 : decode cL_items 4 = .ok (.invokevirtual 68, 3) := by decide +kernel
theorem dL_items_7 : decode cL_items 7 = .ok (.i2l, 1) := by decide +kernel
theorem dL_items_8 : decode cL_items 8 = .ok (.lastore, 1) := by decide +kernel
theorem dL_items_9 : decode cL_items 9 = .ok (.goto 6, 3) := by decide +kernel
theorem dL_items_12 : decode cL_items 12 = .ok (.astore_n 3, 1) := by decide +kernel
theorem dL_items_13 : decode cL_items 13 = .ok (.iconst 1, 1) := by decide +kernel
theorem dL_items_14 : decode cL_items 14 = .ok (.ireturn, 1) := by decide +kernel
theorem dL_items_15 : decode cL_items 15 = .ok (.iconst 0, 1) := by decide +kernel
theorem dL_items_16 : decode cL_items 16 = .ok (.ireturn, 1) := by decide +kernel
theorem dL_fits_0 : decode cL_fits 0 = .ok (.aload 4, 2) := by decide +kernel
theorem dL_fits_2 : decode cL_fits 2 = .ok (.iconst 0, 1) := by decide +kernel
theorem dL_fits_3 : decode cL_fits 3 = .ok (.aload_n 0, 1) := by decide +kernel
theorem dL_fits_4 : decode cL_fits 4 = .ok (.iload_n 1, 1) := by decide +kernel
theorem dL_fits_5 : decode cL_fits 5 = .ok (.iload_n 2, 1) := by decide +kernel
theorem dL_fits_6 : decode cL_fits 6 = .ok (.iload_n 3, 1) := by decide +kernel
theorem dL_fits_7 : decode cL_fits 7 = .ok (.invokevirtual 71, 3) := by decide +kernel
theorem dL_fits_10 : decode cL_fits 10 = .ok (.ifCond .eq 7, 3) := by decide +kernel
theorem dL_fits_13 : decode cL_fits 13 = .ok (.lconst 1, 1) := by decide +kernel
theorem dL_fits_14 : decode cL_fits 14 = .ok (.goto 4, 3) := by decide +kernel
theorem dL_fits_17 : decode cL_fits 17 = .ok (.lconst 0, 1) := by decide +kernel
theorem dL_fits_18 : decode cL_fits 18 = .ok (.lastore, 1) := by decide +kernel
theorem dL_fits_19 : decode cL_fits 19 = .ok (.goto 11, 3) := by decide +kernel
theorem dL_fits_22 : decode cL_fits 22 = .ok (.astore 5, 2) := by decide +kernel
theorem dL_fits_24 : decode cL_fits 24 = .ok (.iconst 1, 1) := by decide +kernel
theorem dL_fits_25 : decode cL_fits 25 = .ok (.ireturn, 1) := by decide +kernel
theorem dL_fits_26 : decode cL_fits 26 = .ok (.astore 5, 2) := by decide +kernel
theorem dL_fits_28 : decode cL_fits 28 = .ok (.iconst 2, 1) := by decide +kernel
theorem dL_fits_29 : decode cL_fits 29 = .ok (.ireturn, 1) := by decide +kernel
theorem dL_fits_30 : decode cL_fits 30 = .ok (.iconst 0, 1) := by decide +kernel
theorem dL_fits_31 : decode cL_fits 31 = .ok (.ireturn, 1) := by decide +kernel
theorem dL_fitting_0 : decode cL_fitting 0 = .ok (.aload_n 3, 1) := by decide +kernel
theorem dL_fitting_1 : decode cL_fitting 1 = .ok (.iconst 0, 1) := by decide +kernel
theorem dL_fitting_2 : decode cL_fitting 2 = .ok (.aload_n 0, 1) := by decide +kernel
theorem dL_fitting_3 : decode cL_fitting 3 = .ok (.iload_n 1, 1) := by decide +kernel
theorem dL_fitting_4 : decode cL_fitting 4 = .ok (.iload_n 2, 1) := by decide +kernel
theorem dL_fitting_5 : decode cL_fitting 5 = .ok (.invokevirtual 77, 3) := by decide +kernel
theorem dL_fitting_8 : decode cL_fitting 8 = .ok (.i2l, 1) := by decide +kernel
theorem dL_fitting_9 : decode cL_fitting 9 = .ok (.lastore, 1) := by decide +kernel
theorem dL_fitting_10 : decode cL_fitting 10 = .ok (.goto 11, 3) := by decide +kernel
theorem dL_fitting_13 : decode cL_fitting 13 = .ok (.astore 4, 2) := by decide +kernel
theorem dL_fitting_15 : decode cL_fitting 15 = .ok (.iconst 1, 1) := by decide +kernel
theorem dL_fitting_16 : decode cL_fitting 16 = .ok (.ireturn, 1) := by decide +kernel
theorem dL_fitting_17 : decode cL_fitting 17 = .ok (.astore 4, 2) := by decide +kernel
theorem dL_fitting_19 : decode cL_fitting 19 = .ok (.iconst 2, 1) := by decide +kernel
theorem dL_fitting_20 : decode cL_fitting 20 = .ok (.ireturn, 1) := by decide +kernel
theorem dL_fitting_21 : decode cL_fitting 21 = .ok (.iconst 0, 1) := by decide +kernel
theorem dL_fitting_22 : decode cL_fitting 22 = .ok (.ireturn, 1) := by decide +kernel
theorem dL_priceOf_0 : decode cL_priceOf 0 = .ok (.aload_n 2, 1) := by decide +kernel
theorem dL_priceOf_1 : decode cL_priceOf 1 = .ok (.iconst 0, 1) := by decide +kernel
theorem dL_priceOf_2 : decode cL_priceOf 2 = .ok (.aload_n 0, 1) := by decide +kernel
theorem dL_priceOf_3 : decode cL_priceOf 3 = .ok (.iload_n 1, 1) := by decide +kernel
theorem dL_priceOf_4 : decode cL_priceOf 4 = .ok (.invokevirtual 80, 3) := by decide +kernel
theorem dL_priceOf_7 : decode cL_priceOf 7 = .ok (.i2l, 1) := by decide +kernel
theorem dL_priceOf_8 : decode cL_priceOf 8 = .ok (.lastore, 1) := by decide +kernel
theorem dL_priceOf_9 : decode cL_priceOf 9 = .ok (.goto 6, 3) := by decide +kernel
theorem dL_priceOf_12 : decode cL_priceOf 12 = .ok (.astore_n 3, 1) := by decide +kernel
theorem dL_priceOf_13 : decode cL_priceOf 13 = .ok (.iconst 1, 1) := by decide +kernel
theorem dL_priceOf_14 : decode cL_priceOf 14 = .ok (.ireturn, 1) := by decide +kernel
theorem dL_priceOf_15 : decode cL_priceOf 15 = .ok (.iconst 0, 1) := by decide +kernel
theorem dL_priceOf_16 : decode cL_priceOf 16 = .ok (.ireturn, 1) := by decide +kernel
theorem dL_stateOf_0 : decode cL_stateOf 0 = .ok (.aload_n 2, 1) := by decide +kernel
theorem dL_stateOf_1 : decode cL_stateOf 1 = .ok (.iconst 0, 1) := by decide +kernel
theorem dL_stateOf_2 : decode cL_stateOf 2 = .ok (.aload_n 0, 1) := by decide +kernel
theorem dL_stateOf_3 : decode cL_stateOf 3 = .ok (.iload_n 1, 1) := by decide +kernel
theorem dL_stateOf_4 : decode cL_stateOf 4 = .ok (.invokevirtual 83, 3) := by decide +kernel
theorem dL_stateOf_7 : decode cL_stateOf 7 = .ok (.i2l, 1) := by decide +kernel
theorem dL_stateOf_8 : decode cL_stateOf 8 = .ok (.lastore, 1) := by decide +kernel
theorem dL_stateOf_9 : decode cL_stateOf 9 = .ok (.goto 6, 3) := by decide +kernel
theorem dL_stateOf_12 : decode cL_stateOf 12 = .ok (.astore_n 3, 1) := by decide +kernel
theorem dL_stateOf_13 : decode cL_stateOf 13 = .ok (.iconst 1, 1) := by decide +kernel
theorem dL_stateOf_14 : decode cL_stateOf 14 = .ok (.ireturn, 1) := by decide +kernel
theorem dL_stateOf_15 : decode cL_stateOf 15 = .ok (.iconst 0, 1) := by decide +kernel
theorem dL_stateOf_16 : decode cL_stateOf 16 = .ok (.ireturn, 1) := by decide +kernel
theorem dL_reason_0 : decode cL_reason 0 = .ok (.aload_n 2, 1) := by decide +kernel
theorem dL_reason_1 : decode cL_reason 1 = .ok (.iconst 0, 1) := by decide +kernel
theorem dL_reason_2 : decode cL_reason 2 = .ok (.aload_n 0, 1) := by decide +kernel
theorem dL_reason_3 : decode cL_reason 3 = .ok (.iload_n 1, 1) := by decide +kernel
theorem dL_reason_4 : decode cL_reason 4 = .ok (.invokevirtual 86, 3) := by decide +kernel
theorem dL_reason_7 : decode cL_reason 7 = .ok (.i2l, 1) := by decide +kernel
theorem dL_reason_8 : decode cL_reason 8 = .ok (.lastore, 1) := by decide +kernel
theorem dL_reason_9 : decode cL_reason 9 = .ok (.goto 9, 3) := by decide +kernel
theorem dL_reason_12 : decode cL_reason 12 = .ok (.astore_n 3, 1) := by decide +kernel
theorem dL_reason_13 : decode cL_reason 13 = .ok (.iconst 1, 1) := by decide +kernel
theorem dL_reason_14 : decode cL_reason 14 = .ok (.ireturn, 1) := by decide +kernel
theorem dL_reason_15 : decode cL_reason 15 = .ok (.astore_n 3, 1) := by decide +kernel
theorem dL_reason_16 : decode cL_reason 16 = .ok (.iconst 2, 1) := by decide +kernel
theorem dL_reason_17 : decode cL_reason 17 = .ok (.ireturn, 1) := by decide +kernel
theorem dL_reason_18 : decode cL_reason 18 = .ok (.iconst 0, 1) := by decide +kernel
theorem dL_reason_19 : decode cL_reason 19 = .ok (.ireturn, 1) := by decide +kernel
theorem dL_rival_0 : decode cL_rival 0 = .ok (.aload_n 2, 1) := by decide +kernel
theorem dL_rival_1 : decode cL_rival 1 = .ok (.iconst 0, 1) := by decide +kernel
theorem dL_rival_2 : decode cL_rival 2 = .ok (.aload_n 0, 1) := by decide +kernel
theorem dL_rival_3 : decode cL_rival 3 = .ok (.iload_n 1, 1) := by decide +kernel
theorem dL_rival_4 : decode cL_rival 4 = .ok (.invokevirtual 89, 3) := by decide +kernel
theorem dL_rival_7 : decode cL_rival 7 = .ok (.i2l, 1) := by decide +kernel
theorem dL_rival_8 : decode cL_rival 8 = .ok (.lastore, 1) := by decide +kernel
theorem dL_rival_9 : decode cL_rival 9 = .ok (.goto 9, 3) := by decide +kernel
theorem dL_rival_12 : decode cL_rival 12 = .ok (.astore_n 3, 1) := by decide +kernel
theorem dL_rival_13 : decode cL_rival 13 = .ok (.iconst 1, 1) := by decide +kernel
theorem dL_rival_14 : decode cL_rival 14 = .ok (.ireturn, 1) := by decide +kernel
theorem dL_rival_15 : decode cL_rival 15 = .ok (.astore_n 3, 1) := by decide +kernel
theorem dL_rival_16 : decode cL_rival 16 = .ok (.iconst 2, 1) := by decide +kernel
theorem dL_rival_17 : decode cL_rival 17 = .ok (.ireturn, 1) := by decide +kernel
theorem dL_rival_18 : decode cL_rival 18 = .ok (.iconst 0, 1) := by decide +kernel
theorem dL_rival_19 : decode cL_rival 19 = .ok (.ireturn, 1) := by decide +kernel
theorem dL_lotOf_0 : decode cL_lotOf 0 = .ok (.aload_n 3, 1) := by decide +kernel
theorem dL_lotOf_1 : decode cL_lotOf 1 = .ok (.iconst 0, 1) := by decide +kernel
theorem dL_lotOf_2 : decode cL_lotOf 2 = .ok (.aload_n 0, 1) := by decide +kernel
theorem dL_lotOf_3 : decode cL_lotOf 3 = .ok (.iload_n 1, 1) := by decide +kernel
theorem dL_lotOf_4 : decode cL_lotOf 4 = .ok (.iload_n 2, 1) := by decide +kernel
theorem dL_lotOf_5 : decode cL_lotOf 5 = .ok (.invokevirtual 92, 3) := by decide +kernel
theorem dL_lotOf_8 : decode cL_lotOf 8 = .ok (.i2l, 1) := by decide +kernel
theorem dL_lotOf_9 : decode cL_lotOf 9 = .ok (.lastore, 1) := by decide +kernel
theorem dL_lotOf_10 : decode cL_lotOf 10 = .ok (.goto 15, 3) := by decide +kernel
theorem dL_lotOf_13 : decode cL_lotOf 13 = .ok (.astore 4, 2) := by decide +kernel
theorem dL_lotOf_15 : decode cL_lotOf 15 = .ok (.iconst 1, 1) := by decide +kernel
theorem dL_lotOf_16 : decode cL_lotOf 16 = .ok (.ireturn, 1) := by decide +kernel
theorem dL_lotOf_17 : decode cL_lotOf 17 = .ok (.astore 4, 2) := by decide +kernel
theorem dL_lotOf_19 : decode cL_lotOf 19 = .ok (.iconst 2, 1) := by decide +kernel
theorem dL_lotOf_20 : decode cL_lotOf 20 = .ok (.ireturn, 1) := by decide +kernel
theorem dL_lotOf_21 : decode cL_lotOf 21 = .ok (.astore 4, 2) := by decide +kernel
theorem dL_lotOf_23 : decode cL_lotOf 23 = .ok (.iconst 3, 1) := by decide +kernel
theorem dL_lotOf_24 : decode cL_lotOf 24 = .ok (.ireturn, 1) := by decide +kernel
theorem dL_lotOf_25 : decode cL_lotOf 25 = .ok (.iconst 0, 1) := by decide +kernel
theorem dL_lotOf_26 : decode cL_lotOf 26 = .ok (.ireturn, 1) := by decide +kernel
theorem dL_paid_0 : decode cL_paid 0 = .ok (.aload_n 2, 1) := by decide +kernel
theorem dL_paid_1 : decode cL_paid 1 = .ok (.iconst 0, 1) := by decide +kernel
theorem dL_paid_2 : decode cL_paid 2 = .ok (.aload_n 0, 1) := by decide +kernel
theorem dL_paid_3 : decode cL_paid 3 = .ok (.iload_n 1, 1) := by decide +kernel
theorem dL_paid_4 : decode cL_paid 4 = .ok (.invokevirtual 95, 3) := by decide +kernel
theorem dL_paid_7 : decode cL_paid 7 = .ok (.i2l, 1) := by decide +kernel
theorem dL_paid_8 : decode cL_paid 8 = .ok (.lastore, 1) := by decide +kernel
theorem dL_paid_9 : decode cL_paid 9 = .ok (.goto 9, 3) := by decide +kernel
theorem dL_paid_12 : decode cL_paid 12 = .ok (.astore_n 3, 1) := by decide +kernel
theorem dL_paid_13 : decode cL_paid 13 = .ok (.iconst 1, 1) := by decide +kernel
theorem dL_paid_14 : decode cL_paid 14 = .ok (.ireturn, 1) := by decide +kernel
theorem dL_paid_15 : decode cL_paid 15 = .ok (.astore_n 3, 1) := by decide +kernel
theorem dL_paid_16 : decode cL_paid 16 = .ok (.iconst 2, 1) := by decide +kernel
theorem dL_paid_17 : decode cL_paid 17 = .ok (.ireturn, 1) := by decide +kernel
theorem dL_paid_18 : decode cL_paid 18 = .ok (.iconst 0, 1) := by decide +kernel
theorem dL_paid_19 : decode cL_paid 19 = .ok (.ireturn, 1) := by decide +kernel
theorem dL_costOf_0 : decode cL_costOf 0 = .ok (.aload_n 2, 1) := by decide +kernel
theorem dL_costOf_1 : decode cL_costOf 1 = .ok (.iconst 0, 1) := by decide +kernel
theorem dL_costOf_2 : decode cL_costOf 2 = .ok (.aload_n 0, 1) := by decide +kernel
theorem dL_costOf_3 : decode cL_costOf 3 = .ok (.iload_n 1, 1) := by decide +kernel
theorem dL_costOf_4 : decode cL_costOf 4 = .ok (.invokevirtual 98, 3) := by decide +kernel
theorem dL_costOf_7 : decode cL_costOf 7 = .ok (.i2l, 1) := by decide +kernel
theorem dL_costOf_8 : decode cL_costOf 8 = .ok (.lastore, 1) := by decide +kernel
theorem dL_costOf_9 : decode cL_costOf 9 = .ok (.goto 12, 3) := by decide +kernel
theorem dL_costOf_12 : decode cL_costOf 12 = .ok (.astore_n 3, 1) := by decide +kernel
theorem dL_costOf_13 : decode cL_costOf 13 = .ok (.iconst 1, 1) := by decide +kernel
theorem dL_costOf_14 : decode cL_costOf 14 = .ok (.ireturn, 1) := by decide +kernel
theorem dL_costOf_15 : decode cL_costOf 15 = .ok (.astore_n 3, 1) := by decide +kernel
theorem dL_costOf_16 : decode cL_costOf 16 = .ok (.iconst 2, 1) := by decide +kernel
theorem dL_costOf_17 : decode cL_costOf 17 = .ok (.ireturn, 1) := by decide +kernel
theorem dL_costOf_18 : decode cL_costOf 18 = .ok (.astore_n 3, 1) := by decide +kernel
theorem dL_costOf_19 : decode cL_costOf 19 = .ok (.iconst 3, 1) := by decide +kernel
theorem dL_costOf_20 : decode cL_costOf 20 = .ok (.ireturn, 1) := by decide +kernel
theorem dL_costOf_21 : decode cL_costOf 21 = .ok (.iconst 0, 1) := by decide +kernel
theorem dL_costOf_22 : decode cL_costOf 22 = .ok (.ireturn, 1) := by decide +kernel
theorem dL_surplusWithout_0 : decode cL_surplusWithout 0 = .ok (.aload_n 2, 1) := by decide +kernel
theorem dL_surplusWithout_1 : decode cL_surplusWithout 1 = .ok (.iconst 0, 1) := by decide +kernel
theorem dL_surplusWithout_2 : decode cL_surplusWithout 2 = .ok (.aload_n 0, 1) := by decide +kernel
theorem dL_surplusWithout_3 : decode cL_surplusWithout 3 = .ok (.iload_n 1, 1) := by decide +kernel
theorem dL_surplusWithout_4 : decode cL_surplusWithout 4 = .ok (.invokevirtual 103, 3) := by decide +kernel
theorem dL_surplusWithout_7 : decode cL_surplusWithout 7 = .ok (.i2l, 1) := by decide +kernel
theorem dL_surplusWithout_8 : decode cL_surplusWithout 8 = .ok (.lastore, 1) := by decide +kernel
theorem dL_surplusWithout_9 : decode cL_surplusWithout 9 = .ok (.goto 6, 3) := by decide +kernel
theorem dL_surplusWithout_12 : decode cL_surplusWithout 12 = .ok (.astore_n 3, 1) := by decide +kernel
theorem dL_surplusWithout_13 : decode cL_surplusWithout 13 = .ok (.iconst 1, 1) := by decide +kernel
theorem dL_surplusWithout_14 : decode cL_surplusWithout 14 = .ok (.ireturn, 1) := by decide +kernel
theorem dL_surplusWithout_15 : decode cL_surplusWithout 15 = .ok (.iconst 0, 1) := by decide +kernel
theorem dL_surplusWithout_16 : decode cL_surplusWithout 16 = .ok (.ireturn, 1) := by decide +kernel
theorem dL_wouldWin_0 : decode cL_wouldWin 0 = .ok (.aload_n 2, 1) := by decide +kernel
theorem dL_wouldWin_1 : decode cL_wouldWin 1 = .ok (.iconst 0, 1) := by decide +kernel
theorem dL_wouldWin_2 : decode cL_wouldWin 2 = .ok (.aload_n 0, 1) := by decide +kernel
theorem dL_wouldWin_3 : decode cL_wouldWin 3 = .ok (.iload_n 1, 1) := by decide +kernel
theorem dL_wouldWin_4 : decode cL_wouldWin 4 = .ok (.invokevirtual 106, 3) := by decide +kernel
theorem dL_wouldWin_7 : decode cL_wouldWin 7 = .ok (.ifCond .eq 7, 3) := by decide +kernel
theorem dL_wouldWin_10 : decode cL_wouldWin 10 = .ok (.lconst 1, 1) := by decide +kernel
theorem dL_wouldWin_11 : decode cL_wouldWin 11 = .ok (.goto 4, 3) := by decide +kernel
theorem dL_wouldWin_14 : decode cL_wouldWin 14 = .ok (.lconst 0, 1) := by decide +kernel
theorem dL_wouldWin_15 : decode cL_wouldWin 15 = .ok (.lastore, 1) := by decide +kernel
theorem dL_wouldWin_16 : decode cL_wouldWin 16 = .ok (.goto 9, 3) := by decide +kernel
theorem dL_wouldWin_19 : decode cL_wouldWin 19 = .ok (.astore_n 3, 1) := by decide +kernel
theorem dL_wouldWin_20 : decode cL_wouldWin 20 = .ok (.iconst 1, 1) := by decide +kernel
theorem dL_wouldWin_21 : decode cL_wouldWin 21 = .ok (.ireturn, 1) := by decide +kernel
theorem dL_wouldWin_22 : decode cL_wouldWin 22 = .ok (.astore_n 3, 1) := by decide +kernel
theorem dL_wouldWin_23 : decode cL_wouldWin 23 = .ok (.iconst 2, 1) := by decide +kernel
theorem dL_wouldWin_24 : decode cL_wouldWin 24 = .ok (.ireturn, 1) := by decide +kernel
theorem dL_wouldWin_25 : decode cL_wouldWin 25 = .ok (.iconst 0, 1) := by decide +kernel
theorem dL_wouldWin_26 : decode cL_wouldWin 26 = .ok (.ireturn, 1) := by decide +kernel
theorem dL_wouldWinBySets_0 : decode cL_wouldWinBySets 0 = .ok (.aload_n 2, 1) := by decide +kernel
theorem dL_wouldWinBySets_1 : decode cL_wouldWinBySets 1 = .ok (.iconst 0, 1) := by decide +kernel
theorem dL_wouldWinBySets_2 : decode cL_wouldWinBySets 2 = .ok (.aload_n 0, 1) := by decide +kernel
theorem dL_wouldWinBySets_3 : decode cL_wouldWinBySets 3 = .ok (.iload_n 1, 1) := by decide +kernel
theorem dL_wouldWinBySets_4 : decode cL_wouldWinBySets 4 = .ok (.invokevirtual 110, 3) := by decide +kernel
theorem dL_wouldWinBySets_7 : decode cL_wouldWinBySets 7 = .ok (.ifCond .eq 7, 3) := by decide +kernel
theorem dL_wouldWinBySets_10 : decode cL_wouldWinBySets 10 = .ok (.lconst 1, 1) := by decide +kernel
theorem dL_wouldWinBySets_11 : decode cL_wouldWinBySets 11 = .ok (.goto 4, 3) := by decide +kernel
theorem dL_wouldWinBySets_14 : decode cL_wouldWinBySets 14 = .ok (.lconst 0, 1) := by decide +kernel
theorem dL_wouldWinBySets_15 : decode cL_wouldWinBySets 15 = .ok (.lastore, 1) := by decide +kernel
theorem dL_wouldWinBySets_16 : decode cL_wouldWinBySets 16 = .ok (.goto 9, 3) := by decide +kernel
theorem dL_wouldWinBySets_19 : decode cL_wouldWinBySets 19 = .ok (.astore_n 3, 1) := by decide +kernel
theorem dL_wouldWinBySets_20 : decode cL_wouldWinBySets 20 = .ok (.iconst 1, 1) := by decide +kernel
theorem dL_wouldWinBySets_21 : decode cL_wouldWinBySets 21 = .ok (.ireturn, 1) := by decide +kernel
theorem dL_wouldWinBySets_22 : decode cL_wouldWinBySets 22 = .ok (.astore_n 3, 1) := by decide +kernel
theorem dL_wouldWinBySets_23 : decode cL_wouldWinBySets 23 = .ok (.iconst 2, 1) := by decide +kernel
theorem dL_wouldWinBySets_24 : decode cL_wouldWinBySets 24 = .ok (.ireturn, 1) := by decide +kernel
theorem dL_wouldWinBySets_25 : decode cL_wouldWinBySets 25 = .ok (.iconst 0, 1) := by decide +kernel
theorem dL_wouldWinBySets_26 : decode cL_wouldWinBySets 26 = .ok (.ireturn, 1) := by decide +kernel
theorem dL_lotFor_0 : decode cL_lotFor 0 = .ok (.aload_n 3, 1) := by decide +kernel
theorem dL_lotFor_1 : decode cL_lotFor 1 = .ok (.iconst 0, 1) := by decide +kernel
theorem dL_lotFor_2 : decode cL_lotFor 2 = .ok (.aload_n 0, 1) := by decide +kernel
theorem dL_lotFor_3 : decode cL_lotFor 3 = .ok (.iload_n 1, 1) := by decide +kernel
theorem dL_lotFor_4 : decode cL_lotFor 4 = .ok (.iload_n 2, 1) := by decide +kernel
theorem dL_lotFor_5 : decode cL_lotFor 5 = .ok (.invokevirtual 113, 3) := by decide +kernel
theorem dL_lotFor_8 : decode cL_lotFor 8 = .ok (.i2l, 1) := by decide +kernel
theorem dL_lotFor_9 : decode cL_lotFor 9 = .ok (.lastore, 1) := by decide +kernel
theorem dL_lotFor_10 : decode cL_lotFor 10 = .ok (.goto 19, 3) := by decide +kernel
theorem dL_lotFor_13 : decode cL_lotFor 13 = .ok (.astore 4, 2) := by decide +kernel
theorem dL_lotFor_15 : decode cL_lotFor 15 = .ok (.iconst 1, 1) := by decide +kernel
theorem dL_lotFor_16 : decode cL_lotFor 16 = .ok (.ireturn, 1) := by decide +kernel
theorem dL_lotFor_17 : decode cL_lotFor 17 = .ok (.astore 4, 2) := by decide +kernel
theorem dL_lotFor_19 : decode cL_lotFor 19 = .ok (.iconst 2, 1) := by decide +kernel
theorem dL_lotFor_20 : decode cL_lotFor 20 = .ok (.ireturn, 1) := by decide +kernel
theorem dL_lotFor_21 : decode cL_lotFor 21 = .ok (.astore 4, 2) := by decide +kernel
theorem dL_lotFor_23 : decode cL_lotFor 23 = .ok (.iconst 3, 1) := by decide +kernel
theorem dL_lotFor_24 : decode cL_lotFor 24 = .ok (.ireturn, 1) := by decide +kernel
theorem dL_lotFor_25 : decode cL_lotFor 25 = .ok (.astore 4, 2) := by decide +kernel
theorem dL_lotFor_27 : decode cL_lotFor 27 = .ok (.iconst 4, 1) := by decide +kernel
theorem dL_lotFor_28 : decode cL_lotFor 28 = .ok (.ireturn, 1) := by decide +kernel
theorem dL_lotFor_29 : decode cL_lotFor 29 = .ok (.iconst 0, 1) := by decide +kernel
theorem dL_lotFor_30 : decode cL_lotFor 30 = .ok (.ireturn, 1) := by decide +kernel
theorem dL_payment_0 : decode cL_payment 0 = .ok (.aload_n 2, 1) := by decide +kernel
theorem dL_payment_1 : decode cL_payment 1 = .ok (.iconst 0, 1) := by decide +kernel
theorem dL_payment_2 : decode cL_payment 2 = .ok (.aload_n 0, 1) := by decide +kernel
theorem dL_payment_3 : decode cL_payment 3 = .ok (.iload_n 1, 1) := by decide +kernel
theorem dL_payment_4 : decode cL_payment 4 = .ok (.invokevirtual 116, 3) := by decide +kernel
theorem dL_payment_7 : decode cL_payment 7 = .ok (.i2l, 1) := by decide +kernel
theorem dL_payment_8 : decode cL_payment 8 = .ok (.lastore, 1) := by decide +kernel
theorem dL_payment_9 : decode cL_payment 9 = .ok (.goto 12, 3) := by decide +kernel
theorem dL_payment_12 : decode cL_payment 12 = .ok (.astore_n 3, 1) := by decide +kernel
theorem dL_payment_13 : decode cL_payment 13 = .ok (.iconst 1, 1) := by decide +kernel
theorem dL_payment_14 : decode cL_payment 14 = .ok (.ireturn, 1) := by decide +kernel
theorem dL_payment_15 : decode cL_payment 15 = .ok (.astore_n 3, 1) := by decide +kernel
theorem dL_payment_16 : decode cL_payment 16 = .ok (.iconst 2, 1) := by decide +kernel
theorem dL_payment_17 : decode cL_payment 17 = .ok (.ireturn, 1) := by decide +kernel
theorem dL_payment_18 : decode cL_payment 18 = .ok (.astore_n 3, 1) := by decide +kernel
theorem dL_payment_19 : decode cL_payment 19 = .ok (.iconst 3, 1) := by decide +kernel
theorem dL_payment_20 : decode cL_payment 20 = .ok (.ireturn, 1) := by decide +kernel
theorem dL_payment_21 : decode cL_payment 21 = .ok (.iconst 0, 1) := by decide +kernel
theorem dL_payment_22 : decode cL_payment 22 = .ok (.ireturn, 1) := by decide +kernel
theorem dL_soldShare_0 : decode cL_soldShare 0 = .ok (.aload_n 1, 1) := by decide +kernel
theorem dL_soldShare_1 : decode cL_soldShare 1 = .ok (.iconst 0, 1) := by decide +kernel
theorem dL_soldShare_2 : decode cL_soldShare 2 = .ok (.aload_n 0, 1) := by decide +kernel
theorem dL_soldShare_3 : decode cL_soldShare 3 = .ok (.invokevirtual 119, 3) := by decide +kernel
theorem dL_soldShare_6 : decode cL_soldShare 6 = .ok (.f2d, 1) := by decide +kernel
theorem dL_soldShare_7 : decode cL_soldShare 7 = .ok (.dastore, 1) := by decide +kernel
theorem dL_soldShare_8 : decode cL_soldShare 8 = .ok (.goto 6, 3) := by decide +kernel
theorem dL_soldShare_11 : decode cL_soldShare 11 = .ok (.astore_n 2, 1) := by decide +kernel
theorem dL_soldShare_12 : decode cL_soldShare 12 = .ok (.iconst 1, 1) := by decide +kernel
theorem dL_soldShare_13 : decode cL_soldShare 13 = .ok (.ireturn, 1) := by decide +kernel
theorem dL_soldShare_14 : decode cL_soldShare 14 = .ok (.iconst 0, 1) := by decide +kernel
theorem dL_soldShare_15 : decode cL_soldShare 15 = .ok (.ireturn, 1) := by decide +kernel
theorem dL_meanPaid_0 : decode cL_meanPaid 0 = .ok (.aload_n 1, 1) := by decide +kernel
theorem dL_meanPaid_1 : decode cL_meanPaid 1 = .ok (.iconst 0, 1) := by decide +kernel
theorem dL_meanPaid_2 : decode cL_meanPaid 2 = .ok (.aload_n 0, 1) := by decide +kernel
theorem dL_meanPaid_3 : decode cL_meanPaid 3 = .ok (.invokevirtual 125, 3) := by decide +kernel
theorem dL_meanPaid_6 : decode cL_meanPaid 6 = .ok (.dastore, 1) := by decide +kernel
theorem dL_meanPaid_7 : decode cL_meanPaid 7 = .ok (.goto 6, 3) := by decide +kernel
theorem dL_meanPaid_10 : decode cL_meanPaid 10 = .ok (.astore_n 2, 1) := by decide +kernel
theorem dL_meanPaid_11 : decode cL_meanPaid 11 = .ok (.iconst 1, 1) := by decide +kernel
theorem dL_meanPaid_12 : decode cL_meanPaid 12 = .ok (.ireturn, 1) := by decide +kernel
theorem dL_meanPaid_13 : decode cL_meanPaid 13 = .ok (.iconst 0, 1) := by decide +kernel
theorem dL_meanPaid_14 : decode cL_meanPaid 14 = .ok (.ireturn, 1) := by decide +kernel
theorem dL_law_0 : decode cL_law 0 = .ok (.new 8, 3) := by decide +kernel
theorem dL_law_3 : decode cL_law 3 = .ok (.dup, 1) := by decide +kernel
theorem dL_law_4 : decode cL_law 4 = .ok (.invokespecial 129, 3) := by decide +kernel
theorem dL_law_7 : decode cL_law 7 = .ok (.astore_n 1, 1) := by decide +kernel
theorem dL_law_8 : decode cL_law 8 = .ok (.new 130, 3) := by decide +kernel
theorem dL_law_11 : decode cL_law 11 = .ok (.dup, 1) := by decide +kernel
theorem dL_law_12 : decode cL_law 12 = .ok (.invokespecial 132, 3) := by decide +kernel
theorem dL_law_15 : decode cL_law 15 = .ok (.astore_n 2, 1) := by decide +kernel
theorem dL_law_16 : decode cL_law 16 = .ok (.iconst 1, 1) := by decide +kernel
theorem dL_law_17 : decode cL_law 17 = .ok (.newarray .long, 2) := by decide +kernel
theorem dL_law_19 : decode cL_law 19 = .ok (.astore_n 3, 1) := by decide +kernel
theorem dL_law_20 : decode cL_law 20 = .ok (.iconst 1, 1) := by decide +kernel
theorem dL_law_21 : decode cL_law 21 = .ok (.newarray .double, 2) := by decide +kernel
theorem dL_law_23 : decode cL_law 23 = .ok (.astore 4, 2) := by decide +kernel
theorem dL_law_25 : decode cL_law 25 = .ok (.iconst 0, 1) := by decide +kernel
theorem dL_law_26 : decode cL_law 26 = .ok (.istore 5, 2) := by decide +kernel
theorem dL_law_28 : decode cL_law 28 = .ok (.iload 5, 2) := by decide +kernel
theorem dL_law_30 : decode cL_law 30 = .ok (.aload_n 0, 1) := by decide +kernel
theorem dL_law_31 : decode cL_law 31 = .ok (.arraylength, 1) := by decide +kernel
theorem dL_law_32 : decode cL_law 32 = .ok (.iconst 4, 1) := by decide +kernel
theorem dL_law_33 : decode cL_law 33 = .ok (.isub, 1) := by decide +kernel
theorem dL_law_34 : decode cL_law 34 = .ok (.if_icmp .gt 2262, 3) := by decide +kernel
theorem dL_law_37 : decode cL_law 37 = .ok (.aload_n 0, 1) := by decide +kernel
theorem dL_law_38 : decode cL_law 38 = .ok (.iload 5, 2) := by decide +kernel
theorem dL_law_40 : decode cL_law 40 = .ok (.iaload, 1) := by decide +kernel
theorem dL_law_41 : decode cL_law 41 = .ok (.bipush 63, 2) := by decide +kernel
theorem dL_law_43 : decode cL_law 43 = .ok (.iand, 1) := by decide +kernel
theorem dL_law_44 : decode cL_law 44 = .ok (.tableswitch 2246 0 38 #[172, 254, 310, 390, 434, 502, 584, 652, 708, 752, 765, 778, 791, 804, 860, 916, 972, 1028, 1084, 1154, 1210, 1297, 1365, 1421, 1477, 1533, 1589, 1657, 1713, 1769, 1782, 1795, 1851, 1914, 1977, 2045, 2101, 2115, 2181], 172) := by decide +kernel
theorem dL_law_216 : decode cL_law 216 = .ok (.aload_n 1, 1) := by decide +kernel
theorem dL_law_217 : decode cL_law 217 = .ok (.aload_n 0, 1) := by decide +kernel
theorem dL_law_218 : decode cL_law 218 = .ok (.iload 5, 2) := by decide +kernel
theorem dL_law_220 : decode cL_law 220 = .ok (.iconst 1, 1) := by decide +kernel
theorem dL_law_221 : decode cL_law 221 = .ok (.iadd, 1) := by decide +kernel
theorem dL_law_222 : decode cL_law 222 = .ok (.iaload, 1) := by decide +kernel
theorem dL_law_223 : decode cL_law 223 = .ok (.aload_n 0, 1) := by decide +kernel
theorem dL_law_224 : decode cL_law 224 = .ok (.iload 5, 2) := by decide +kernel
theorem dL_law_226 : decode cL_law 226 = .ok (.iconst 2, 1) := by decide +kernel
theorem dL_law_227 : decode cL_law 227 = .ok (.iadd, 1) := by decide +kernel
theorem dL_law_228 : decode cL_law 228 = .ok (.iaload, 1) := by decide +kernel
theorem dL_law_229 : decode cL_law 229 = .ok (.i2c, 1) := by decide +kernel
theorem dL_law_230 : decode cL_law 230 = .ok (.aload_n 0, 1) := by decide +kernel
theorem dL_law_231 : decode cL_law 231 = .ok (.iload 5, 2) := by decide +kernel
theorem dL_law_233 : decode cL_law 233 = .ok (.iconst 3, 1) := by decide +kernel
theorem dL_law_234 : decode cL_law 234 = .ok (.iadd, 1) := by decide +kernel
theorem dL_law_235 : decode cL_law 235 = .ok (.iaload, 1) := by decide +kernel
theorem dL_law_236 : decode cL_law 236 = .ok (.aload_n 3, 1) := by decide +kernel
theorem dL_law_237 : decode cL_law 237 = .ok (.invokestatic 133, 3) := by decide +kernel
theorem dL_law_240 : decode cL_law 240 = .ok (.istore 6, 2) := by decide +kernel
theorem dL_law_242 : decode cL_law 242 = .ok (.aload_n 2, 1) := by decide +kernel
theorem dL_law_243 : decode cL_law 243 = .ok (.aload_n 0, 1) := by decide +kernel
theorem dL_law_244 : decode cL_law 244 = .ok (.iload 5, 2) := by decide +kernel
theorem dL_law_246 : decode cL_law 246 = .ok (.iconst 1, 1) := by decide +kernel
theorem dL_law_247 : decode cL_law 247 = .ok (.iadd, 1) := by decide +kernel
theorem dL_law_248 : decode cL_law 248 = .ok (.iaload, 1) := by decide +kernel
theorem dL_law_249 : decode cL_law 249 = .ok (.aload_n 0, 1) := by decide +kernel
theorem dL_law_250 : decode cL_law 250 = .ok (.iload 5, 2) := by decide +kernel
theorem dL_law_252 : decode cL_law 252 = .ok (.iconst 2, 1) := by decide +kernel
theorem dL_law_253 : decode cL_law 253 = .ok (.iadd, 1) := by decide +kernel
theorem dL_law_254 : decode cL_law 254 = .ok (.iaload, 1) := by decide +kernel
theorem dL_law_255 : decode cL_law 255 = .ok (.i2c, 1) := by decide +kernel
theorem dL_law_256 : decode cL_law 256 = .ok (.aload_n 0, 1) := by decide +kernel
theorem dL_law_257 : decode cL_law 257 = .ok (.iload 5, 2) := by decide +kernel
theorem dL_law_259 : decode cL_law 259 = .ok (.iconst 3, 1) := by decide +kernel
theorem dL_law_260 : decode cL_law 260 = .ok (.iadd, 1) := by decide +kernel
theorem dL_law_261 : decode cL_law 261 = .ok (.iaload, 1) := by decide +kernel
theorem dL_law_262 : decode cL_law 262 = .ok (.invokevirtual 138, 3) := by decide +kernel
theorem dL_law_265 : decode cL_law 265 = .ok (.istore 7, 2) := by decide +kernel
theorem dL_law_267 : decode cL_law 267 = .ok (.aload_n 2, 1) := by decide +kernel
theorem dL_law_268 : decode cL_law 268 = .ok (.invokevirtual 139, 3) := by decide +kernel
theorem dL_law_271 : decode cL_law 271 = .ok (.iload 6, 2) := by decide +kernel
theorem dL_law_273 : decode cL_law 273 = .ok (.if_icmp .eq 5, 3) := by decide +kernel
theorem dL_law_276 : decode cL_law 276 = .ok (.iconst 0, 1) := by decide +kernel
theorem dL_law_277 : decode cL_law 277 = .ok (.ireturn, 1) := by decide +kernel
theorem dL_law_278 : decode cL_law 278 = .ok (.iload 6, 2) := by decide +kernel
theorem dL_law_280 : decode cL_law 280 = .ok (.ifCond .ne 15, 3) := by decide +kernel
theorem dL_law_283 : decode cL_law 283 = .ok (.aload_n 3, 1) := by decide +kernel
theorem dL_law_284 : decode cL_law 284 = .ok (.iconst 0, 1) := by decide +kernel
theorem dL_law_285 : decode cL_law 285 = .ok (.laload, 1) := by decide +kernel
theorem dL_law_286 : decode cL_law 286 = .ok (.iload 7, 2) := by decide +kernel
theorem dL_law_288 : decode cL_law 288 = .ok (.i2l, 1) := by decide +kernel
theorem dL_law_289 : decode cL_law 289 = .ok (.lcmp, 1) := by decide +kernel
theorem dL_law_290 : decode cL_law 290 = .ok (.ifCond .eq 5, 3) := by decide +kernel
theorem dL_law_293 : decode cL_law 293 = .ok (.iconst 0, 1) := by decide +kernel
theorem dL_law_294 : decode cL_law 294 = .ok (.ireturn, 1) := by decide +kernel
theorem dL_law_295 : decode cL_law 295 = .ok (.goto 1995, 3) := by decide +kernel
theorem dL_law_298 : decode cL_law 298 = .ok (.aload_n 1, 1) := by decide +kernel
theorem dL_law_299 : decode cL_law 299 = .ok (.aload_n 0, 1) := by decide +kernel
theorem dL_law_300 : decode cL_law 300 = .ok (.iload 5, 2) := by decide +kernel
theorem dL_law_302 : decode cL_law 302 = .ok (.iconst 1, 1) := by decide +kernel
theorem dL_law_303 : decode cL_law 303 = .ok (.iadd, 1) := by decide +kernel
theorem dL_law_304 : decode cL_law 304 = .ok (.iaload, 1) := by decide +kernel
theorem dL_law_305 : decode cL_law 305 = .ok (.aload_n 3, 1) := by decide +kernel
theorem dL_law_306 : decode cL_law 306 = .ok (.invokestatic 142, 3) := by decide +kernel
end
section
theorem dL_law_309 : decode cL_law 309 = .ok (.istore 6, 2) := by decide +kernel
theorem dL_law_311 : decode cL_law 311 = .ok (.aload_n 2, 1) := by decide +kernel
theorem dL_law_312 : decode cL_law 312 = .ok (.aload_n 0, 1) := by decide +kernel
theorem dL_law_313 : decode cL_law 313 = .ok (.iload 5, 2) := by decide +kernel
theorem dL_law_315 : decode cL_law 315 = .ok (.iconst 1, 1) := by decide +kernel
theorem dL_law_316 : decode cL_law 316 = .ok (.iadd, 1) := by decide +kernel
theorem dL_law_317 : decode cL_law 317 = .ok (.iaload, 1) := by decide +kernel
theorem dL_law_318 : decode cL_law 318 = .ok (.invokevirtual 145, 3) := by decide +kernel
theorem dL_law_321 : decode cL_law 321 = .ok (.istore 7, 2) := by decide +kernel
theorem dL_law_323 : decode cL_law 323 = .ok (.aload_n 2, 1) := by decide +kernel
theorem dL_law_324 : decode cL_law 324 = .ok (.invokevirtual 139, 3) := by decide +kernel
theorem dL_law_327 : decode cL_law 327 = .ok (.iload 6, 2) := by decide +kernel
theorem dL_law_329 : decode cL_law 329 = .ok (.if_icmp .eq 5, 3) := by decide +kernel
theorem dL_law_332 : decode cL_law 332 = .ok (.iconst 0, 1) := by decide +kernel
theorem dL_law_333 : decode cL_law 333 = .ok (.ireturn, 1) := by decide +kernel
theorem dL_law_334 : decode cL_law 334 = .ok (.iload 6, 2) := by decide +kernel
theorem dL_law_336 : decode cL_law 336 = .ok (.ifCond .ne 15, 3) := by decide +kernel
theorem dL_law_339 : decode cL_law 339 = .ok (.aload_n 3, 1) := by decide +kernel
theorem dL_law_340 : decode cL_law 340 = .ok (.iconst 0, 1) := by decide +kernel
theorem dL_law_341 : decode cL_law 341 = .ok (.laload, 1) := by decide +kernel
theorem dL_law_342 : decode cL_law 342 = .ok (.iload 7, 2) := by decide +kernel
theorem dL_law_344 : decode cL_law 344 = .ok (.i2l, 1) := by decide +kernel
theorem dL_law_345 : decode cL_law 345 = .ok (.lcmp, 1) := by decide +kernel
theorem dL_law_346 : decode cL_law 346 = .ok (.ifCond .eq 5, 3) := by decide +kernel
theorem dL_law_349 : decode cL_law 349 = .ok (.iconst 0, 1) := by decide +kernel
theorem dL_law_350 : decode cL_law 350 = .ok (.ireturn, 1) := by decide +kernel
theorem dL_law_351 : decode cL_law 351 = .ok (.goto 1939, 3) := by decide +kernel
theorem dL_law_354 : decode cL_law 354 = .ok (.aload_n 1, 1) := by decide +kernel
theorem dL_law_355 : decode cL_law 355 = .ok (.aload_n 0, 1) := by decide +kernel
theorem dL_law_356 : decode cL_law 356 = .ok (.iload 5, 2) := by decide +kernel
theorem dL_law_358 : decode cL_law 358 = .ok (.iconst 1, 1) := by decide +kernel
theorem dL_law_359 : decode cL_law 359 = .ok (.iadd, 1) := by decide +kernel
theorem dL_law_360 : decode cL_law 360 = .ok (.iaload, 1) := by decide +kernel
theorem dL_law_361 : decode cL_law 361 = .ok (.aload_n 0, 1) := by decide +kernel
theorem dL_law_362 : decode cL_law 362 = .ok (.iload 5, 2) := by decide +kernel
theorem dL_law_364 : decode cL_law 364 = .ok (.iconst 2, 1) := by decide +kernel
theorem dL_law_365 : decode cL_law 365 = .ok (.iadd, 1) := by decide +kernel
theorem dL_law_366 : decode cL_law 366 = .ok (.iaload, 1) := by decide +kernel
theorem dL_law_367 : decode cL_law 367 = .ok (.aload_n 0, 1) := by decide +kernel
theorem dL_law_368 : decode cL_law 368 = .ok (.iload 5, 2) := by decide +kernel
theorem dL_law_370 : decode cL_law 370 = .ok (.iconst 3, 1) := by decide +kernel
theorem dL_law_371 : decode cL_law 371 = .ok (.iadd, 1) := by decide +kernel
theorem dL_law_372 : decode cL_law 372 = .ok (.iaload, 1) := by decide +kernel
theorem dL_law_373 : decode cL_law 373 = .ok (.aload_n 3, 1) := by decide +kernel
theorem dL_law_374 : decode cL_law 374 = .ok (.invokestatic 146, 3) := by decide +kernel
theorem dL_law_377 : decode cL_law 377 = .ok (.istore 6, 2) := by decide +kernel
theorem dL_law_379 : decode cL_law 379 = .ok (.aload_n 2, 1) := by decide +kernel
theorem dL_law_380 : decode cL_law 380 = .ok (.aload_n 0, 1) := by decide +kernel
theorem dL_law_381 : decode cL_law 381 = .ok (.iload 5, 2) := by decide +kernel
theorem dL_law_383 : decode cL_law 383 = .ok (.iconst 1, 1) := by decide +kernel
theorem dL_law_384 : decode cL_law 384 = .ok (.iadd, 1) := by decide +kernel
theorem dL_law_385 : decode cL_law 385 = .ok (.iaload, 1) := by decide +kernel
theorem dL_law_386 : decode cL_law 386 = .ok (.aload_n 0, 1) := by decide +kernel
theorem dL_law_387 : decode cL_law 387 = .ok (.iload 5, 2) := by decide +kernel
theorem dL_law_389 : decode cL_law 389 = .ok (.iconst 2, 1) := by decide +kernel
theorem dL_law_390 : decode cL_law 390 = .ok (.iadd, 1) := by decide +kernel
theorem dL_law_391 : decode cL_law 391 = .ok (.iaload, 1) := by decide +kernel
theorem dL_law_392 : decode cL_law 392 = .ok (.aload_n 0, 1) := by decide +kernel
theorem dL_law_393 : decode cL_law 393 = .ok (.iload 5, 2) := by decide +kernel
theorem dL_law_395 : decode cL_law 395 = .ok (.iconst 3, 1) := by decide +kernel
theorem dL_law_396 : decode cL_law 396 = .ok (.iadd, 1) := by decide +kernel
theorem dL_law_397 : decode cL_law 397 = .ok (.iaload, 1) := by decide +kernel
theorem dL_law_398 : decode cL_law 398 = .ok (.invokevirtual 149, 3) := by decide +kernel
theorem dL_law_401 : decode cL_law 401 = .ok (.istore 7, 2) := by decide +kernel
theorem dL_law_403 : decode cL_law 403 = .ok (.aload_n 2, 1) := by decide +kernel
theorem dL_law_404 : decode cL_law 404 = .ok (.invokevirtual 139, 3) := by decide +kernel
theorem dL_law_407 : decode cL_law 407 = .ok (.iload 6, 2) := by decide +kernel
theorem dL_law_409 : decode cL_law 409 = .ok (.if_icmp .eq 5, 3) := by decide +kernel
theorem dL_law_412 : decode cL_law 412 = .ok (.iconst 0, 1) := by decide +kernel
theorem dL_law_413 : decode cL_law 413 = .ok (.ireturn, 1) := by decide +kernel
theorem dL_law_414 : decode cL_law 414 = .ok (.iload 6, 2) := by decide +kernel
theorem dL_law_416 : decode cL_law 416 = .ok (.ifCond .ne 15, 3) := by decide +kernel
theorem dL_law_419 : decode cL_law 419 = .ok (.aload_n 3, 1) := by decide +kernel
theorem dL_law_420 : decode cL_law 420 = .ok (.iconst 0, 1) := by decide +kernel
theorem dL_law_421 : decode cL_law 421 = .ok (.laload, 1) := by decide +kernel
theorem dL_law_422 : decode cL_law 422 = .ok (.iload 7, 2) := by decide +kernel
theorem dL_law_424 : decode cL_law 424 = .ok (.i2l, 1) := by decide +kernel
theorem dL_law_425 : decode cL_law 425 = .ok (.lcmp, 1) := by decide +kernel
theorem dL_law_426 : decode cL_law 426 = .ok (.ifCond .eq 5, 3) := by decide +kernel
theorem dL_law_429 : decode cL_law 429 = .ok (.iconst 0, 1) := by decide +kernel
theorem dL_law_430 : decode cL_law 430 = .ok (.ireturn, 1) := by decide +kernel
theorem dL_law_431 : decode cL_law 431 = .ok (.goto 1859, 3) := by decide +kernel
theorem dL_law_434 : decode cL_law 434 = .ok (.aload_n 1, 1) := by decide +kernel
theorem dL_law_435 : decode cL_law 435 = .ok (.aload_n 3, 1) := by decide +kernel
theorem dL_law_436 : decode cL_law 436 = .ok (.invokestatic 150, 3) := by decide +kernel
theorem dL_law_439 : decode cL_law 439 = .ok (.istore 6, 2) := by decide +kernel
theorem dL_law_441 : decode cL_law 441 = .ok (.aload_n 2, 1) := by decide +kernel
theorem dL_law_442 : decode cL_law 442 = .ok (.invokevirtual 153, 3) := by decide +kernel
theorem dL_law_445 : decode cL_law 445 = .ok (.istore 7, 2) := by decide +kernel
theorem dL_law_447 : decode cL_law 447 = .ok (.aload_n 2, 1) := by decide +kernel
theorem dL_law_448 : decode cL_law 448 = .ok (.invokevirtual 139, 3) := by decide +kernel
theorem dL_law_451 : decode cL_law 451 = .ok (.iload 6, 2) := by decide +kernel
theorem dL_law_453 : decode cL_law 453 = .ok (.if_icmp .eq 5, 3) := by decide +kernel
theorem dL_law_456 : decode cL_law 456 = .ok (.iconst 0, 1) := by decide +kernel
theorem dL_law_457 : decode cL_law 457 = .ok (.ireturn, 1) := by decide +kernel
theorem dL_law_458 : decode cL_law 458 = .ok (.iload 6, 2) := by decide +kernel
theorem dL_law_460 : decode cL_law 460 = .ok (.ifCond .ne 15, 3) := by decide +kernel
theorem dL_law_463 : decode cL_law 463 = .ok (.aload_n 3, 1) := by decide +kernel
theorem dL_law_464 : decode cL_law 464 = .ok (.iconst 0, 1) := by decide +kernel
theorem dL_law_465 : decode cL_law 465 = .ok (.laload, 1) := by decide +kernel
theorem dL_law_466 : decode cL_law 466 = .ok (.iload 7, 2) := by decide +kernel
theorem dL_law_468 : decode cL_law 468 = .ok (.i2l, 1) := by decide +kernel
theorem dL_law_469 : decode cL_law 469 = .ok (.lcmp, 1) := by decide +kernel
theorem dL_law_470 : decode cL_law 470 = .ok (.ifCond .eq 5, 3) := by decide +kernel
theorem dL_law_473 : decode cL_law 473 = .ok (.iconst 0, 1) := by decide +kernel
theorem dL_law_474 : decode cL_law 474 = .ok (.ireturn, 1) := by decide +kernel
theorem dL_law_475 : decode cL_law 475 = .ok (.goto 1815, 3) := by decide +kernel
theorem dL_law_478 : decode cL_law 478 = .ok (.aload_n 1, 1) := by decide +kernel
theorem dL_law_479 : decode cL_law 479 = .ok (.aload_n 0, 1) := by decide +kernel
theorem dL_law_480 : decode cL_law 480 = .ok (.iload 5, 2) := by decide +kernel
theorem dL_law_482 : decode cL_law 482 = .ok (.iconst 1, 1) := by decide +kernel
theorem dL_law_483 : decode cL_law 483 = .ok (.iadd, 1) := by decide +kernel
theorem dL_law_484 : decode cL_law 484 = .ok (.iaload, 1) := by decide +kernel
theorem dL_law_485 : decode cL_law 485 = .ok (.aload_n 0, 1) := by decide +kernel
theorem dL_law_486 : decode cL_law 486 = .ok (.iload 5, 2) := by decide +kernel
theorem dL_law_488 : decode cL_law 488 = .ok (.iconst 2, 1) := by decide +kernel
theorem dL_law_489 : decode cL_law 489 = .ok (.iadd, 1) := by decide +kernel
theorem dL_law_490 : decode cL_law 490 = .ok (.iaload, 1) := by decide +kernel
theorem dL_law_491 : decode cL_law 491 = .ok (.aload_n 3, 1) := by decide +kernel
theorem dL_law_492 : decode cL_law 492 = .ok (.invokestatic 154, 3) := by decide +kernel
theorem dL_law_495 : decode cL_law 495 = .ok (.istore 6, 2) := by decide +kernel
theorem dL_law_497 : decode cL_law 497 = .ok (.aload_n 2, 1) := by decide +kernel
theorem dL_law_498 : decode cL_law 498 = .ok (.aload_n 0, 1) := by decide +kernel
theorem dL_law_499 : decode cL_law 499 = .ok (.iload 5, 2) := by decide +kernel
theorem dL_law_501 : decode cL_law 501 = .ok (.iconst 1, 1) := by decide +kernel
theorem dL_law_502 : decode cL_law 502 = .ok (.iadd, 1) := by decide +kernel
theorem dL_law_503 : decode cL_law 503 = .ok (.iaload, 1) := by decide +kernel
theorem dL_law_504 : decode cL_law 504 = .ok (.aload_n 0, 1) := by decide +kernel
theorem dL_law_505 : decode cL_law 505 = .ok (.iload 5, 2) := by decide +kernel
theorem dL_law_507 : decode cL_law 507 = .ok (.iconst 2, 1) := by decide +kernel
theorem dL_law_508 : decode cL_law 508 = .ok (.iadd, 1) := by decide +kernel
theorem dL_law_509 : decode cL_law 509 = .ok (.iaload, 1) := by decide +kernel
theorem dL_law_510 : decode cL_law 510 = .ok (.invokevirtual 157, 3) := by decide +kernel
theorem dL_law_513 : decode cL_law 513 = .ok (.istore 7, 2) := by decide +kernel
theorem dL_law_515 : decode cL_law 515 = .ok (.aload_n 2, 1) := by decide +kernel
theorem dL_law_516 : decode cL_law 516 = .ok (.invokevirtual 139, 3) := by decide +kernel
theorem dL_law_519 : decode cL_law 519 = .ok (.iload 6, 2) := by decide +kernel
theorem dL_law_521 : decode cL_law 521 = .ok (.if_icmp .eq 5, 3) := by decide +kernel
theorem dL_law_524 : decode cL_law 524 = .ok (.iconst 0, 1) := by decide +kernel
theorem dL_law_525 : decode cL_law 525 = .ok (.ireturn, 1) := by decide +kernel
theorem dL_law_526 : decode cL_law 526 = .ok (.iload 6, 2) := by decide +kernel
theorem dL_law_528 : decode cL_law 528 = .ok (.ifCond .ne 15, 3) := by decide +kernel
theorem dL_law_531 : decode cL_law 531 = .ok (.aload_n 3, 1) := by decide +kernel
theorem dL_law_532 : decode cL_law 532 = .ok (.iconst 0, 1) := by decide +kernel
theorem dL_law_533 : decode cL_law 533 = .ok (.laload, 1) := by decide +kernel
theorem dL_law_534 : decode cL_law 534 = .ok (.iload 7, 2) := by decide +kernel
theorem dL_law_536 : decode cL_law 536 = .ok (.i2l, 1) := by decide +kernel
theorem dL_law_537 : decode cL_law 537 = .ok (.lcmp, 1) := by decide +kernel
theorem dL_law_538 : decode cL_law 538 = .ok (.ifCond .eq 5, 3) := by decide +kernel
theorem dL_law_541 : decode cL_law 541 = .ok (.iconst 0, 1) := by decide +kernel
theorem dL_law_542 : decode cL_law 542 = .ok (.ireturn, 1) := by decide +kernel
theorem dL_law_543 : decode cL_law 543 = .ok (.goto 1747, 3) := by decide +kernel
theorem dL_law_546 : decode cL_law 546 = .ok (.aload_n 1, 1) := by decide +kernel
theorem dL_law_547 : decode cL_law 547 = .ok (.aload_n 0, 1) := by decide +kernel
theorem dL_law_548 : decode cL_law 548 = .ok (.iload 5, 2) := by decide +kernel
theorem dL_law_550 : decode cL_law 550 = .ok (.iconst 1, 1) := by decide +kernel
theorem dL_law_551 : decode cL_law 551 = .ok (.iadd, 1) := by decide +kernel
theorem dL_law_552 : decode cL_law 552 = .ok (.iaload, 1) := by decide +kernel
theorem dL_law_553 : decode cL_law 553 = .ok (.aload_n 0, 1) := by decide +kernel
theorem dL_law_554 : decode cL_law 554 = .ok (.iload 5, 2) := by decide +kernel
theorem dL_law_556 : decode cL_law 556 = .ok (.iconst 2, 1) := by decide +kernel
theorem dL_law_557 : decode cL_law 557 = .ok (.iadd, 1) := by decide +kernel
theorem dL_law_558 : decode cL_law 558 = .ok (.iaload, 1) := by decide +kernel
theorem dL_law_559 : decode cL_law 559 = .ok (.aload_n 0, 1) := by decide +kernel
theorem dL_law_560 : decode cL_law 560 = .ok (.iload 5, 2) := by decide +kernel
theorem dL_law_562 : decode cL_law 562 = .ok (.iconst 3, 1) := by decide +kernel
theorem dL_law_563 : decode cL_law 563 = .ok (.iadd, 1) := by decide +kernel
theorem dL_law_564 : decode cL_law 564 = .ok (.iaload, 1) := by decide +kernel
theorem dL_law_565 : decode cL_law 565 = .ok (.i2c, 1) := by decide +kernel
theorem dL_law_566 : decode cL_law 566 = .ok (.aload_n 3, 1) := by decide +kernel
theorem dL_law_567 : decode cL_law 567 = .ok (.invokestatic 158, 3) := by decide +kernel
theorem dL_law_570 : decode cL_law 570 = .ok (.istore 6, 2) := by decide +kernel
theorem dL_law_572 : decode cL_law 572 = .ok (.aload_n 2, 1) := by decide +kernel
theorem dL_law_573 : decode cL_law 573 = .ok (.aload_n 0, 1) := by decide +kernel
theorem dL_law_574 : decode cL_law 574 = .ok (.iload 5, 2) := by decide +kernel
theorem dL_law_576 : decode cL_law 576 = .ok (.iconst 1, 1) := by decide +kernel
theorem dL_law_577 : decode cL_law 577 = .ok (.iadd, 1) := by decide +kernel
theorem dL_law_578 : decode cL_law 578 = .ok (.iaload, 1) := by decide +kernel
theorem dL_law_579 : decode cL_law 579 = .ok (.aload_n 0, 1) := by decide +kernel
theorem dL_law_580 : decode cL_law 580 = .ok (.iload 5, 2) := by decide +kernel
theorem dL_law_582 : decode cL_law 582 = .ok (.iconst 2, 1) := by decide +kernel
theorem dL_law_583 : decode cL_law 583 = .ok (.iadd, 1) := by decide +kernel
theorem dL_law_584 : decode cL_law 584 = .ok (.iaload, 1) := by decide +kernel
theorem dL_law_585 : decode cL_law 585 = .ok (.aload_n 0, 1) := by decide +kernel
theorem dL_law_586 : decode cL_law 586 = .ok (.iload 5, 2) := by decide +kernel
theorem dL_law_588 : decode cL_law 588 = .ok (.iconst 3, 1) := by decide +kernel
theorem dL_law_589 : decode cL_law 589 = .ok (.iadd, 1) := by decide +kernel
theorem dL_law_590 : decode cL_law 590 = .ok (.iaload, 1) := by decide +kernel
theorem dL_law_591 : decode cL_law 591 = .ok (.i2c, 1) := by decide +kernel
theorem dL_law_592 : decode cL_law 592 = .ok (.invokevirtual 161, 3) := by decide +kernel
theorem dL_law_595 : decode cL_law 595 = .ok (.istore 7, 2) := by decide +kernel
theorem dL_law_597 : decode cL_law 597 = .ok (.aload_n 2, 1) := by decide +kernel
theorem dL_law_598 : decode cL_law 598 = .ok (.invokevirtual 139, 3) := by decide +kernel
theorem dL_law_601 : decode cL_law 601 = .ok (.iload 6, 2) := by decide +kernel
theorem dL_law_603 : decode cL_law 603 = .ok (.if_icmp .eq 5, 3) := by decide +kernel
theorem dL_law_606 : decode cL_law 606 = .ok (.iconst 0, 1) := by decide +kernel
theorem dL_law_607 : decode cL_law 607 = .ok (.ireturn, 1) := by decide +kernel
theorem dL_law_608 : decode cL_law 608 = .ok (.iload 6, 2) := by decide +kernel
theorem dL_law_610 : decode cL_law 610 = .ok (.ifCond .ne 15, 3) := by decide +kernel
theorem dL_law_613 : decode cL_law 613 = .ok (.aload_n 3, 1) := by decide +kernel
theorem dL_law_614 : decode cL_law 614 = .ok (.iconst 0, 1) := by decide +kernel
theorem dL_law_615 : decode cL_law 615 = .ok (.laload, 1) := by decide +kernel
theorem dL_law_616 : decode cL_law 616 = .ok (.iload 7, 2) := by decide +kernel
theorem dL_law_618 : decode cL_law 618 = .ok (.i2l, 1) := by decide +kernel
theorem dL_law_619 : decode cL_law 619 = .ok (.lcmp, 1) := by decide +kernel
theorem dL_law_620 : decode cL_law 620 = .ok (.ifCond .eq 5, 3) := by decide +kernel
theorem dL_law_623 : decode cL_law 623 = .ok (.iconst 0, 1) := by decide +kernel
theorem dL_law_624 : decode cL_law 624 = .ok (.ireturn, 1) := by decide +kernel
theorem dL_law_625 : decode cL_law 625 = .ok (.goto 1665, 3) := by decide +kernel
theorem dL_law_628 : decode cL_law 628 = .ok (.aload_n 1, 1) := by decide +kernel
theorem dL_law_629 : decode cL_law 629 = .ok (.aload_n 0, 1) := by decide +kernel
theorem dL_law_630 : decode cL_law 630 = .ok (.iload 5, 2) := by decide +kernel
theorem dL_law_632 : decode cL_law 632 = .ok (.iconst 1, 1) := by decide +kernel
theorem dL_law_633 : decode cL_law 633 = .ok (.iadd, 1) := by decide +kernel
theorem dL_law_634 : decode cL_law 634 = .ok (.iaload, 1) := by decide +kernel
theorem dL_law_635 : decode cL_law 635 = .ok (.aload_n 0, 1) := by decide +kernel
theorem dL_law_636 : decode cL_law 636 = .ok (.iload 5, 2) := by decide +kernel
theorem dL_law_638 : decode cL_law 638 = .ok (.iconst 2, 1) := by decide +kernel
theorem dL_law_639 : decode cL_law 639 = .ok (.iadd, 1) := by decide +kernel
theorem dL_law_640 : decode cL_law 640 = .ok (.iaload, 1) := by decide +kernel
theorem dL_law_641 : decode cL_law 641 = .ok (.aload_n 3, 1) := by decide +kernel
theorem dL_law_642 : decode cL_law 642 = .ok (.invokestatic 162, 3) := by decide +kernel
theorem dL_law_645 : decode cL_law 645 = .ok (.istore 6, 2) := by decide +kernel
theorem dL_law_647 : decode cL_law 647 = .ok (.aload_n 2, 1) := by decide +kernel
theorem dL_law_648 : decode cL_law 648 = .ok (.aload_n 0, 1) := by decide +kernel
theorem dL_law_649 : decode cL_law 649 = .ok (.iload 5, 2) := by decide +kernel
theorem dL_law_651 : decode cL_law 651 = .ok (.iconst 1, 1) := by decide +kernel
theorem dL_law_652 : decode cL_law 652 = .ok (.iadd, 1) := by decide +kernel
theorem dL_law_653 : decode cL_law 653 = .ok (.iaload, 1) := by decide +kernel
theorem dL_law_654 : decode cL_law 654 = .ok (.aload_n 0, 1) := by decide +kernel
theorem dL_law_655 : decode cL_law 655 = .ok (.iload 5, 2) := by decide +kernel
theorem dL_law_657 : decode cL_law 657 = .ok (.iconst 2, 1) := by decide +kernel
theorem dL_law_658 : decode cL_law 658 = .ok (.iadd, 1) := by decide +kernel
theorem dL_law_659 : decode cL_law 659 = .ok (.iaload, 1) := by decide +kernel
theorem dL_law_660 : decode cL_law 660 = .ok (.invokevirtual 164, 3) := by decide +kernel
theorem dL_law_663 : decode cL_law 663 = .ok (.istore 7, 2) := by decide +kernel
theorem dL_law_665 : decode cL_law 665 = .ok (.aload_n 2, 1) := by decide +kernel
theorem dL_law_666 : decode cL_law 666 = .ok (.invokevirtual 139, 3) := by decide +kernel
theorem dL_law_669 : decode cL_law 669 = .ok (.iload 6, 2) := by decide +kernel
theorem dL_law_671 : decode cL_law 671 = .ok (.if_icmp .eq 5, 3) := by decide +kernel
theorem dL_law_674 : decode cL_law 674 = .ok (.iconst 0, 1) := by decide +kernel
theorem dL_law_675 : decode cL_law 675 = .ok (.ireturn, 1) := by decide +kernel
theorem dL_law_676 : decode cL_law 676 = .ok (.iload 6, 2) := by decide +kernel
theorem dL_law_678 : decode cL_law 678 = .ok (.ifCond .ne 15, 3) := by decide +kernel
theorem dL_law_681 : decode cL_law 681 = .ok (.aload_n 3, 1) := by decide +kernel
theorem dL_law_682 : decode cL_law 682 = .ok (.iconst 0, 1) := by decide +kernel
theorem dL_law_683 : decode cL_law 683 = .ok (.laload, 1) := by decide +kernel
theorem dL_law_684 : decode cL_law 684 = .ok (.iload 7, 2) := by decide +kernel
theorem dL_law_686 : decode cL_law 686 = .ok (.i2l, 1) := by decide +kernel
theorem dL_law_687 : decode cL_law 687 = .ok (.lcmp, 1) := by decide +kernel
theorem dL_law_688 : decode cL_law 688 = .ok (.ifCond .eq 5, 3) := by decide +kernel
theorem dL_law_691 : decode cL_law 691 = .ok (.iconst 0, 1) := by decide +kernel
theorem dL_law_692 : decode cL_law 692 = .ok (.ireturn, 1) := by decide +kernel
theorem dL_law_693 : decode cL_law 693 = .ok (.goto 1597, 3) := by decide +kernel
theorem dL_law_696 : decode cL_law 696 = .ok (.aload_n 1, 1) := by decide +kernel
theorem dL_law_697 : decode cL_law 697 = .ok (.aload_n 0, 1) := by decide +kernel
theorem dL_law_698 : decode cL_law 698 = .ok (.iload 5, 2) := by decide +kernel
theorem dL_law_700 : decode cL_law 700 = .ok (.iconst 1, 1) := by decide +kernel
theorem dL_law_701 : decode cL_law 701 = .ok (.iadd, 1) := by decide +kernel
theorem dL_law_702 : decode cL_law 702 = .ok (.iaload, 1) := by decide +kernel
theorem dL_law_703 : decode cL_law 703 = .ok (.aload_n 3, 1) := by decide +kernel
theorem dL_law_704 : decode cL_law 704 = .ok (.invokestatic 165, 3) := by decide +kernel
theorem dL_law_707 : decode cL_law 707 = .ok (.istore 6, 2) := by decide +kernel
theorem dL_law_709 : decode cL_law 709 = .ok (.aload_n 2, 1) := by decide +kernel
theorem dL_law_710 : decode cL_law 710 = .ok (.aload_n 0, 1) := by decide +kernel
theorem dL_law_711 : decode cL_law 711 = .ok (.iload 5, 2) := by decide +kernel
theorem dL_law_713 : decode cL_law 713 = .ok (.iconst 1, 1) := by decide +kernel
theorem dL_law_714 : decode cL_law 714 = .ok (.iadd, 1) := by decide +kernel
theorem dL_law_715 : decode cL_law 715 = .ok (.iaload, 1) := by decide +kernel
theorem dL_law_716 : decode cL_law 716 = .ok (.invokevirtual 167, 3) := by decide +kernel
theorem dL_law_719 : decode cL_law 719 = .ok (.istore 7, 2) := by decide +kernel
theorem dL_law_721 : decode cL_law 721 = .ok (.aload_n 2, 1) := by decide +kernel
theorem dL_law_722 : decode cL_law 722 = .ok (.invokevirtual 139, 3) := by decide +kernel
theorem dL_law_725 : decode cL_law 725 = .ok (.iload 6, 2) := by decide +kernel
theorem dL_law_727 : decode cL_law 727 = .ok (.if_icmp .eq 5, 3) := by decide +kernel
theorem dL_law_730 : decode cL_law 730 = .ok (.iconst 0, 1) := by decide +kernel
theorem dL_law_731 : decode cL_law 731 = .ok (.ireturn, 1) := by decide +kernel
theorem dL_law_732 : decode cL_law 732 = .ok (.iload 6, 2) := by decide +kernel
theorem dL_law_734 : decode cL_law 734 = .ok (.ifCond .ne 15, 3) := by decide +kernel
theorem dL_law_737 : decode cL_law 737 = .ok (.aload_n 3, 1) := by decide +kernel
theorem dL_law_738 : decode cL_law 738 = .ok (.iconst 0, 1) := by decide +kernel
theorem dL_law_739 : decode cL_law 739 = .ok (.laload, 1) := by decide +kernel
theorem dL_law_740 : decode cL_law 740 = .ok (.iload 7, 2) := by decide +kernel
theorem dL_law_742 : decode cL_law 742 = .ok (.i2l, 1) := by decide +kernel
theorem dL_law_743 : decode cL_law 743 = .ok (.lcmp, 1) := by decide +kernel
theorem dL_law_744 : decode cL_law 744 = .ok (.ifCond .eq 5, 3) := by decide +kernel
theorem dL_law_747 : decode cL_law 747 = .ok (.iconst 0, 1) := by decide +kernel
theorem dL_law_748 : decode cL_law 748 = .ok (.ireturn, 1) := by decide +kernel
theorem dL_law_749 : decode cL_law 749 = .ok (.goto 1541, 3) := by decide +kernel
theorem dL_law_752 : decode cL_law 752 = .ok (.aload_n 1, 1) := by decide +kernel
theorem dL_law_753 : decode cL_law 753 = .ok (.aload_n 3, 1) := by decide +kernel
theorem dL_law_754 : decode cL_law 754 = .ok (.invokestatic 168, 3) := by decide +kernel
theorem dL_law_757 : decode cL_law 757 = .ok (.istore 6, 2) := by decide +kernel
theorem dL_law_759 : decode cL_law 759 = .ok (.aload_n 2, 1) := by decide +kernel
theorem dL_law_760 : decode cL_law 760 = .ok (.invokevirtual 170, 3) := by decide +kernel
theorem dL_law_763 : decode cL_law 763 = .ok (.istore 7, 2) := by decide +kernel
theorem dL_law_765 : decode cL_law 765 = .ok (.aload_n 2, 1) := by decide +kernel
theorem dL_law_766 : decode cL_law 766 = .ok (.invokevirtual 139, 3) := by decide +kernel
theorem dL_law_769 : decode cL_law 769 = .ok (.iload 6, 2) := by decide +kernel
theorem dL_law_771 : decode cL_law 771 = .ok (.if_icmp .eq 5, 3) := by decide +kernel
theorem dL_law_774 : decode cL_law 774 = .ok (.iconst 0, 1) := by decide +kernel
theorem dL_law_775 : decode cL_law 775 = .ok (.ireturn, 1) := by decide +kernel
theorem dL_law_776 : decode cL_law 776 = .ok (.iload 6, 2) := by decide +kernel
theorem dL_law_778 : decode cL_law 778 = .ok (.ifCond .ne 15, 3) := by decide +kernel
theorem dL_law_781 : decode cL_law 781 = .ok (.aload_n 3, 1) := by decide +kernel
theorem dL_law_782 : decode cL_law 782 = .ok (.iconst 0, 1) := by decide +kernel
theorem dL_law_783 : decode cL_law 783 = .ok (.laload, 1) := by decide +kernel
theorem dL_law_784 : decode cL_law 784 = .ok (.iload 7, 2) := by decide +kernel
theorem dL_law_786 : decode cL_law 786 = .ok (.i2l, 1) := by decide +kernel
theorem dL_law_787 : decode cL_law 787 = .ok (.lcmp, 1) := by decide +kernel
theorem dL_law_788 : decode cL_law 788 = .ok (.ifCond .eq 5, 3) := by decide +kernel
theorem dL_law_791 : decode cL_law 791 = .ok (.iconst 0, 1) := by decide +kernel
theorem dL_law_792 : decode cL_law 792 = .ok (.ireturn, 1) := by decide +kernel
theorem dL_law_793 : decode cL_law 793 = .ok (.goto 1497, 3) := by decide +kernel
theorem dL_law_796 : decode cL_law 796 = .ok (.aload_n 1, 1) := by decide +kernel
theorem dL_law_797 : decode cL_law 797 = .ok (.invokevirtual 171, 3) := by decide +kernel
theorem dL_law_800 : decode cL_law 800 = .ok (.aload_n 2, 1) := by decide +kernel
theorem dL_law_801 : decode cL_law 801 = .ok (.invokevirtual 174, 3) := by decide +kernel
theorem dL_law_804 : decode cL_law 804 = .ok (.if_icmp .eq 1486, 3) := by decide +kernel
theorem dL_law_807 : decode cL_law 807 = .ok (.iconst 0, 1) := by decide +kernel
theorem dL_law_808 : decode cL_law 808 = .ok (.ireturn, 1) := by decide +kernel
theorem dL_law_809 : decode cL_law 809 = .ok (.aload_n 1, 1) := by decide +kernel
theorem dL_law_810 : decode cL_law 810 = .ok (.invokevirtual 175, 3) := by decide +kernel
theorem dL_law_813 : decode cL_law 813 = .ok (.aload_n 2, 1) := by decide +kernel
theorem dL_law_814 : decode cL_law 814 = .ok (.invokevirtual 178, 3) := by decide +kernel
theorem dL_law_817 : decode cL_law 817 = .ok (.if_icmp .eq 1473, 3) := by decide +kernel
theorem dL_law_820 : decode cL_law 820 = .ok (.iconst 0, 1) := by decide +kernel
theorem dL_law_821 : decode cL_law 821 = .ok (.ireturn, 1) := by decide +kernel
theorem dL_law_822 : decode cL_law 822 = .ok (.aload_n 1, 1) := by decide +kernel
theorem dL_law_823 : decode cL_law 823 = .ok (.invokevirtual 179, 3) := by decide +kernel
theorem dL_law_826 : decode cL_law 826 = .ok (.aload_n 2, 1) := by decide +kernel
theorem dL_law_827 : decode cL_law 827 = .ok (.invokevirtual 182, 3) := by decide +kernel
theorem dL_law_830 : decode cL_law 830 = .ok (.if_icmp .eq 1460, 3) := by decide +kernel
theorem dL_law_833 : decode cL_law 833 = .ok (.iconst 0, 1) := by decide +kernel
theorem dL_law_834 : decode cL_law 834 = .ok (.ireturn, 1) := by decide +kernel
theorem dL_law_835 : decode cL_law 835 = .ok (.aload_n 1, 1) := by decide +kernel
theorem dL_law_836 : decode cL_law 836 = .ok (.invokevirtual 183, 3) := by decide +kernel
theorem dL_law_839 : decode cL_law 839 = .ok (.aload_n 2, 1) := by decide +kernel
theorem dL_law_840 : decode cL_law 840 = .ok (.invokevirtual 186, 3) := by decide +kernel
theorem dL_law_843 : decode cL_law 843 = .ok (.if_icmp .eq 1447, 3) := by decide +kernel
theorem dL_law_846 : decode cL_law 846 = .ok (.iconst 0, 1) := by decide +kernel
theorem dL_law_847 : decode cL_law 847 = .ok (.ireturn, 1) := by decide +kernel
theorem dL_law_848 : decode cL_law 848 = .ok (.aload_n 1, 1) := by decide +kernel
theorem dL_law_849 : decode cL_law 849 = .ok (.aload_n 0, 1) := by decide +kernel
theorem dL_law_850 : decode cL_law 850 = .ok (.iload 5, 2) := by decide +kernel
theorem dL_law_852 : decode cL_law 852 = .ok (.iconst 1, 1) := by decide +kernel
theorem dL_law_853 : decode cL_law 853 = .ok (.iadd, 1) := by decide +kernel
theorem dL_law_854 : decode cL_law 854 = .ok (.iaload, 1) := by decide +kernel
theorem dL_law_855 : decode cL_law 855 = .ok (.aload_n 3, 1) := by decide +kernel
theorem dL_law_856 : decode cL_law 856 = .ok (.invokestatic 187, 3) := by decide +kernel
theorem dL_law_859 : decode cL_law 859 = .ok (.istore 6, 2) := by decide +kernel
theorem dL_law_861 : decode cL_law 861 = .ok (.aload_n 2, 1) := by decide +kernel
theorem dL_law_862 : decode cL_law 862 = .ok (.aload_n 0, 1) := by decide +kernel
theorem dL_law_863 : decode cL_law 863 = .ok (.iload 5, 2) := by decide +kernel
theorem dL_law_865 : decode cL_law 865 = .ok (.iconst 1, 1) := by decide +kernel
theorem dL_law_866 : decode cL_law 866 = .ok (.iadd, 1) := by decide +kernel
theorem dL_law_867 : decode cL_law 867 = .ok (.iaload, 1) := by decide +kernel
theorem dL_law_868 : decode cL_law 868 = .ok (.invokevirtual 189, 3) := by decide +kernel
theorem dL_law_871 : decode cL_law 871 = .ok (.istore 7, 2) := by decide +kernel
theorem dL_law_873 : decode cL_law 873 = .ok (.aload_n 2, 1) := by decide +kernel
theorem dL_law_874 : decode cL_law 874 = .ok (.invokevirtual 139, 3) := by decide +kernel
theorem dL_law_877 : decode cL_law 877 = .ok (.iload 6, 2) := by decide +kernel
theorem dL_law_879 : decode cL_law 879 = .ok (.if_icmp .eq 5, 3) := by decide +kernel
theorem dL_law_882 : decode cL_law 882 = .ok (.iconst 0, 1) := by decide +kernel
theorem dL_law_883 : decode cL_law 883 = .ok (.ireturn, 1) := by decide +kernel
theorem dL_law_884 : decode cL_law 884 = .ok (.iload 6, 2) := by decide +kernel
theorem dL_law_886 : decode cL_law 886 = .ok (.ifCond .ne 15, 3) := by decide +kernel
theorem dL_law_889 : decode cL_law 889 = .ok (.aload_n 3, 1) := by decide +kernel
theorem dL_law_890 : decode cL_law 890 = .ok (.iconst 0, 1) := by decide +kernel
theorem dL_law_891 : decode cL_law 891 = .ok (.laload, 1) := by decide +kernel
theorem dL_law_892 : decode cL_law 892 = .ok (.iload 7, 2) := by decide +kernel
theorem dL_law_894 : decode cL_law 894 = .ok (.i2l, 1) := by decide +kernel
theorem dL_law_895 : decode cL_law 895 = .ok (.lcmp, 1) := by decide +kernel
theorem dL_law_896 : decode cL_law 896 = .ok (.ifCond .eq 5, 3) := by decide +kernel
theorem dL_law_899 : decode cL_law 899 = .ok (.iconst 0, 1) := by decide +kernel
theorem dL_law_900 : decode cL_law 900 = .ok (.ireturn, 1) := by decide +kernel
theorem dL_law_901 : decode cL_law 901 = .ok (.goto 1389, 3) := by decide +kernel
theorem dL_law_904 : decode cL_law 904 = .ok (.aload_n 1, 1) := by decide +kernel
theorem dL_law_905 : decode cL_law 905 = .ok (.aload_n 0, 1) := by decide +kernel
theorem dL_law_906 : decode cL_law 906 = .ok (.iload 5, 2) := by decide +kernel
theorem dL_law_908 : decode cL_law 908 = .ok (.iconst 1, 1) := by decide +kernel
theorem dL_law_909 : decode cL_law 909 = .ok (.iadd, 1) := by decide +kernel
theorem dL_law_910 : decode cL_law 910 = .ok (.iaload, 1) := by decide +kernel
theorem dL_law_911 : decode cL_law 911 = .ok (.aload_n 3, 1) := by decide +kernel
theorem dL_law_912 : decode cL_law 912 = .ok (.invokestatic 190, 3) := by decide +kernel
theorem dL_law_915 : decode cL_law 915 = .ok (.istore 6, 2) := by decide +kernel
theorem dL_law_917 : decode cL_law 917 = .ok (.aload_n 2, 1) := by decide +kernel
theorem dL_law_918 : decode cL_law 918 = .ok (.aload_n 0, 1) := by decide +kernel
theorem dL_law_919 : decode cL_law 919 = .ok (.iload 5, 2) := by decide +kernel
theorem dL_law_921 : decode cL_law 921 = .ok (.iconst 1, 1) := by decide +kernel
theorem dL_law_922 : decode cL_law 922 = .ok (.iadd, 1) := by decide +kernel
theorem dL_law_923 : decode cL_law 923 = .ok (.iaload, 1) := by decide +kernel
theorem dL_law_924 : decode cL_law 924 = .ok (.invokevirtual 192, 3) := by decide +kernel
theorem dL_law_927 : decode cL_law 927 = .ok (.istore 7, 2) := by decide +kernel
theorem dL_law_929 : decode cL_law 929 = .ok (.aload_n 2, 1) := by decide +kernel
theorem dL_law_930 : decode cL_law 930 = .ok (.invokevirtual 139, 3) := by decide +kernel
theorem dL_law_933 : decode cL_law 933 = .ok (.iload 6, 2) := by decide +kernel
theorem dL_law_935 : decode cL_law 935 = .ok (.if_icmp .eq 5, 3) := by decide +kernel
theorem dL_law_938 : decode cL_law 938 = .ok (.iconst 0, 1) := by decide +kernel
theorem dL_law_939 : decode cL_law 939 = .ok (.ireturn, 1) := by decide +kernel
theorem dL_law_940 : decode cL_law 940 = .ok (.iload 6, 2) := by decide +kernel
theorem dL_law_942 : decode cL_law 942 = .ok (.ifCond .ne 15, 3) := by decide +kernel
theorem dL_law_945 : decode cL_law 945 = .ok (.aload_n 3, 1) := by decide +kernel
theorem dL_law_946 : decode cL_law 946 = .ok (.iconst 0, 1) := by decide +kernel
theorem dL_law_947 : decode cL_law 947 = .ok (.laload, 1) := by decide +kernel
theorem dL_law_948 : decode cL_law 948 = .ok (.iload 7, 2) := by decide +kernel
theorem dL_law_950 : decode cL_law 950 = .ok (.i2l, 1) := by decide +kernel
theorem dL_law_951 : decode cL_law 951 = .ok (.lcmp, 1) := by decide +kernel
theorem dL_law_952 : decode cL_law 952 = .ok (.ifCond .eq 5, 3) := by decide +kernel
theorem dL_law_955 : decode cL_law 955 = .ok (.iconst 0, 1) := by decide +kernel
theorem dL_law_956 : decode cL_law 956 = .ok (.ireturn, 1) := by decide +kernel
theorem dL_law_957 : decode cL_law 957 = .ok (.goto 1333, 3) := by decide +kernel
theorem dL_law_960 : decode cL_law 960 = .ok (.aload_n 1, 1) := by decide +kernel
theorem dL_law_961 : decode cL_law 961 = .ok (.aload_n 0, 1) := by decide +kernel
theorem dL_law_962 : decode cL_law 962 = .ok (.iload 5, 2) := by decide +kernel
theorem dL_law_964 : decode cL_law 964 = .ok (.iconst 1, 1) := by decide +kernel
theorem dL_law_965 : decode cL_law 965 = .ok (.iadd, 1) := by decide +kernel
theorem dL_law_966 : decode cL_law 966 = .ok (.iaload, 1) := by decide +kernel
theorem dL_law_967 : decode cL_law 967 = .ok (.aload_n 3, 1) := by decide +kernel
theorem dL_law_968 : decode cL_law 968 = .ok (.invokestatic 193, 3) := by decide +kernel
theorem dL_law_971 : decode cL_law 971 = .ok (.istore 6, 2) := by decide +kernel
theorem dL_law_973 : decode cL_law 973 = .ok (.aload_n 2, 1) := by decide +kernel
theorem dL_law_974 : decode cL_law 974 = .ok (.aload_n 0, 1) := by decide +kernel
theorem dL_law_975 : decode cL_law 975 = .ok (.iload 5, 2) := by decide +kernel
theorem dL_law_977 : decode cL_law 977 = .ok (.iconst 1, 1) := by decide +kernel
theorem dL_law_978 : decode cL_law 978 = .ok (.iadd, 1) := by decide +kernel
theorem dL_law_979 : decode cL_law 979 = .ok (.iaload, 1) := by decide +kernel
theorem dL_law_980 : decode cL_law 980 = .ok (.invokevirtual 195, 3) := by decide +kernel
theorem dL_law_983 : decode cL_law 983 = .ok (.istore 7, 2) := by decide +kernel
theorem dL_law_985 : decode cL_law 985 = .ok (.aload_n 2, 1) := by decide +kernel
theorem dL_law_986 : decode cL_law 986 = .ok (.invokevirtual 139, 3) := by decide +kernel
theorem dL_law_989 : decode cL_law 989 = .ok (.iload 6, 2) := by decide +kernel
theorem dL_law_991 : decode cL_law 991 = .ok (.if_icmp .eq 5, 3) := by decide +kernel
theorem dL_law_994 : decode cL_law 994 = .ok (.iconst 0, 1) := by decide +kernel
theorem dL_law_995 : decode cL_law 995 = .ok (.ireturn, 1) := by decide +kernel
theorem dL_law_996 : decode cL_law 996 = .ok (.iload 6, 2) := by decide +kernel
theorem dL_law_998 : decode cL_law 998 = .ok (.ifCond .ne 15, 3) := by decide +kernel
theorem dL_law_1001 : decode cL_law 1001 = .ok (.aload_n 3, 1) := by decide +kernel
theorem dL_law_1002 : decode cL_law 1002 = .ok (.iconst 0, 1) := by decide +kernel
theorem dL_law_1003 : decode cL_law 1003 = .ok (.laload, 1) := by decide +kernel
theorem dL_law_1004 : decode cL_law 1004 = .ok (.iload 7, 2) := by decide +kernel
theorem dL_law_1006 : decode cL_law 1006 = .ok (.i2l, 1) := by decide +kernel
theorem dL_law_1007 : decode cL_law 1007 = .ok (.lcmp, 1) := by decide +kernel
theorem dL_law_1008 : decode cL_law 1008 = .ok (.ifCond .eq 5, 3) := by decide +kernel
theorem dL_law_1011 : decode cL_law 1011 = .ok (.iconst 0, 1) := by decide +kernel
theorem dL_law_1012 : decode cL_law 1012 = .ok (.ireturn, 1) := by decide +kernel
theorem dL_law_1013 : decode cL_law 1013 = .ok (.goto 1277, 3) := by decide +kernel
theorem dL_law_1016 : decode cL_law 1016 = .ok (.aload_n 1, 1) := by decide +kernel
theorem dL_law_1017 : decode cL_law 1017 = .ok (.aload_n 0, 1) := by decide +kernel
theorem dL_law_1018 : decode cL_law 1018 = .ok (.iload 5, 2) := by decide +kernel
theorem dL_law_1020 : decode cL_law 1020 = .ok (.iconst 1, 1) := by decide +kernel
theorem dL_law_1021 : decode cL_law 1021 = .ok (.iadd, 1) := by decide +kernel
theorem dL_law_1022 : decode cL_law 1022 = .ok (.iaload, 1) := by decide +kernel
theorem dL_law_1023 : decode cL_law 1023 = .ok (.aload_n 3, 1) := by decide +kernel
theorem dL_law_1024 : decode cL_law 1024 = .ok (.invokestatic 196, 3) := by decide +kernel
theorem dL_law_1027 : decode cL_law 1027 = .ok (.istore 6, 2) := by decide +kernel
theorem dL_law_1029 : decode cL_law 1029 = .ok (.aload_n 2, 1) := by decide +kernel
theorem dL_law_1030 : decode cL_law 1030 = .ok (.aload_n 0, 1) := by decide +kernel
theorem dL_law_1031 : decode cL_law 1031 = .ok (.iload 5, 2) := by decide +kernel
theorem dL_law_1033 : decode cL_law 1033 = .ok (.iconst 1, 1) := by decide +kernel
theorem dL_law_1034 : decode cL_law 1034 = .ok (.iadd, 1) := by decide +kernel
theorem dL_law_1035 : decode cL_law 1035 = .ok (.iaload, 1) := by decide +kernel
theorem dL_law_1036 : decode cL_law 1036 = .ok (.invokevirtual 198, 3) := by decide +kernel
theorem dL_law_1039 : decode cL_law 1039 = .ok (.istore 7, 2) := by decide +kernel
theorem dL_law_1041 : decode cL_law 1041 = .ok (.aload_n 2, 1) := by decide +kernel
theorem dL_law_1042 : decode cL_law 1042 = .ok (.invokevirtual 139, 3) := by decide +kernel
theorem dL_law_1045 : decode cL_law 1045 = .ok (.iload 6, 2) := by decide +kernel
theorem dL_law_1047 : decode cL_law 1047 = .ok (.if_icmp .eq 5, 3) := by decide +kernel
theorem dL_law_1050 : decode cL_law 1050 = .ok (.iconst 0, 1) := by decide +kernel
theorem dL_law_1051 : decode cL_law 1051 = .ok (.ireturn, 1) := by decide +kernel
theorem dL_law_1052 : decode cL_law 1052 = .ok (.iload 6, 2) := by decide +kernel
theorem dL_law_1054 : decode cL_law 1054 = .ok (.ifCond .ne 15, 3) := by decide +kernel
theorem dL_law_1057 : decode cL_law 1057 = .ok (.aload_n 3, 1) := by decide +kernel
theorem dL_law_1058 : decode cL_law 1058 = .ok (.iconst 0, 1) := by decide +kernel
theorem dL_law_1059 : decode cL_law 1059 = .ok (.laload, 1) := by decide +kernel
theorem dL_law_1060 : decode cL_law 1060 = .ok (.iload 7, 2) := by decide +kernel
theorem dL_law_1062 : decode cL_law 1062 = .ok (.i2l, 1) := by decide +kernel
theorem dL_law_1063 : decode cL_law 1063 = .ok (.lcmp, 1) := by decide +kernel
theorem dL_law_1064 : decode cL_law 1064 = .ok (.ifCond .eq 5, 3) := by decide +kernel
theorem dL_law_1067 : decode cL_law 1067 = .ok (.iconst 0, 1) := by decide +kernel
theorem dL_law_1068 : decode cL_law 1068 = .ok (.ireturn, 1) := by decide +kernel
theorem dL_law_1069 : decode cL_law 1069 = .ok (.goto 1221, 3) := by decide +kernel
theorem dL_law_1072 : decode cL_law 1072 = .ok (.aload_n 1, 1) := by decide +kernel
theorem dL_law_1073 : decode cL_law 1073 = .ok (.aload_n 0, 1) := by decide +kernel
theorem dL_law_1074 : decode cL_law 1074 = .ok (.iload 5, 2) := by decide +kernel
theorem dL_law_1076 : decode cL_law 1076 = .ok (.iconst 1, 1) := by decide +kernel
theorem dL_law_1077 : decode cL_law 1077 = .ok (.iadd, 1) := by decide +kernel
theorem dL_law_1078 : decode cL_law 1078 = .ok (.iaload, 1) := by decide +kernel
theorem dL_law_1079 : decode cL_law 1079 = .ok (.aload_n 3, 1) := by decide +kernel
theorem dL_law_1080 : decode cL_law 1080 = .ok (.invokestatic 199, 3) := by decide +kernel
theorem dL_law_1083 : decode cL_law 1083 = .ok (.istore 6, 2) := by decide +kernel
theorem dL_law_1085 : decode cL_law 1085 = .ok (.aload_n 2, 1) := by decide +kernel
theorem dL_law_1086 : decode cL_law 1086 = .ok (.aload_n 0, 1) := by decide +kernel
theorem dL_law_1087 : decode cL_law 1087 = .ok (.iload 5, 2) := by decide +kernel
theorem dL_law_1089 : decode cL_law 1089 = .ok (.iconst 1, 1) := by decide +kernel
theorem dL_law_1090 : decode cL_law 1090 = .ok (.iadd, 1) := by decide +kernel
theorem dL_law_1091 : decode cL_law 1091 = .ok (.iaload, 1) := by decide +kernel
theorem dL_law_1092 : decode cL_law 1092 = .ok (.invokevirtual 201, 3) := by decide +kernel
theorem dL_law_1095 : decode cL_law 1095 = .ok (.istore 7, 2) := by decide +kernel
theorem dL_law_1097 : decode cL_law 1097 = .ok (.aload_n 2, 1) := by decide +kernel
theorem dL_law_1098 : decode cL_law 1098 = .ok (.invokevirtual 139, 3) := by decide +kernel
theorem dL_law_1101 : decode cL_law 1101 = .ok (.iload 6, 2) := by decide +kernel
theorem dL_law_1103 : decode cL_law 1103 = .ok (.if_icmp .eq 5, 3) := by decide +kernel
theorem dL_law_1106 : decode cL_law 1106 = .ok (.iconst 0, 1) := by decide +kernel
theorem dL_law_1107 : decode cL_law 1107 = .ok (.ireturn, 1) := by decide +kernel
theorem dL_law_1108 : decode cL_law 1108 = .ok (.iload 6, 2) := by decide +kernel
theorem dL_law_1110 : decode cL_law 1110 = .ok (.ifCond .ne 15, 3) := by decide +kernel
theorem dL_law_1113 : decode cL_law 1113 = .ok (.aload_n 3, 1) := by decide +kernel
theorem dL_law_1114 : decode cL_law 1114 = .ok (.iconst 0, 1) := by decide +kernel
theorem dL_law_1115 : decode cL_law 1115 = .ok (.laload, 1) := by decide +kernel
theorem dL_law_1116 : decode cL_law 1116 = .ok (.iload 7, 2) := by decide +kernel
theorem dL_law_1118 : decode cL_law 1118 = .ok (.i2l, 1) := by decide +kernel
theorem dL_law_1119 : decode cL_law 1119 = .ok (.lcmp, 1) := by decide +kernel
theorem dL_law_1120 : decode cL_law 1120 = .ok (.ifCond .eq 5, 3) := by decide +kernel
theorem dL_law_1123 : decode cL_law 1123 = .ok (.iconst 0, 1) := by decide +kernel
theorem dL_law_1124 : decode cL_law 1124 = .ok (.ireturn, 1) := by decide +kernel
theorem dL_law_1125 : decode cL_law 1125 = .ok (.goto 1165, 3) := by decide +kernel
theorem dL_law_1128 : decode cL_law 1128 = .ok (.aload_n 1, 1) := by decide +kernel
theorem dL_law_1129 : decode cL_law 1129 = .ok (.aload_n 0, 1) := by decide +kernel
theorem dL_law_1130 : decode cL_law 1130 = .ok (.iload 5, 2) := by decide +kernel
theorem dL_law_1132 : decode cL_law 1132 = .ok (.iconst 1, 1) := by decide +kernel
theorem dL_law_1133 : decode cL_law 1133 = .ok (.iadd, 1) := by decide +kernel
theorem dL_law_1134 : decode cL_law 1134 = .ok (.iaload, 1) := by decide +kernel
theorem dL_law_1135 : decode cL_law 1135 = .ok (.aload_n 0, 1) := by decide +kernel
theorem dL_law_1136 : decode cL_law 1136 = .ok (.iload 5, 2) := by decide +kernel
theorem dL_law_1138 : decode cL_law 1138 = .ok (.iconst 2, 1) := by decide +kernel
theorem dL_law_1139 : decode cL_law 1139 = .ok (.iadd, 1) := by decide +kernel
theorem dL_law_1140 : decode cL_law 1140 = .ok (.iaload, 1) := by decide +kernel
theorem dL_law_1141 : decode cL_law 1141 = .ok (.i2c, 1) := by decide +kernel
theorem dL_law_1142 : decode cL_law 1142 = .ok (.aload_n 3, 1) := by decide +kernel
theorem dL_law_1143 : decode cL_law 1143 = .ok (.invokestatic 202, 3) := by decide +kernel
theorem dL_law_1146 : decode cL_law 1146 = .ok (.istore 6, 2) := by decide +kernel
theorem dL_law_1148 : decode cL_law 1148 = .ok (.aload_n 2, 1) := by decide +kernel
theorem dL_law_1149 : decode cL_law 1149 = .ok (.aload_n 0, 1) := by decide +kernel
theorem dL_law_1150 : decode cL_law 1150 = .ok (.iload 5, 2) := by decide +kernel
theorem dL_law_1152 : decode cL_law 1152 = .ok (.iconst 1, 1) := by decide +kernel
theorem dL_law_1153 : decode cL_law 1153 = .ok (.iadd, 1) := by decide +kernel
theorem dL_law_1154 : decode cL_law 1154 = .ok (.iaload, 1) := by decide +kernel
theorem dL_law_1155 : decode cL_law 1155 = .ok (.aload_n 0, 1) := by decide +kernel
theorem dL_law_1156 : decode cL_law 1156 = .ok (.iload 5, 2) := by decide +kernel
theorem dL_law_1158 : decode cL_law 1158 = .ok (.iconst 2, 1) := by decide +kernel
theorem dL_law_1159 : decode cL_law 1159 = .ok (.iadd, 1) := by decide +kernel
theorem dL_law_1160 : decode cL_law 1160 = .ok (.iaload, 1) := by decide +kernel
theorem dL_law_1161 : decode cL_law 1161 = .ok (.i2c, 1) := by decide +kernel
theorem dL_law_1162 : decode cL_law 1162 = .ok (.invokevirtual 205, 3) := by decide +kernel
theorem dL_law_1165 : decode cL_law 1165 = .ok (.istore 7, 2) := by decide +kernel
theorem dL_law_1167 : decode cL_law 1167 = .ok (.aload_n 2, 1) := by decide +kernel
theorem dL_law_1168 : decode cL_law 1168 = .ok (.invokevirtual 139, 3) := by decide +kernel
theorem dL_law_1171 : decode cL_law 1171 = .ok (.iload 6, 2) := by decide +kernel
theorem dL_law_1173 : decode cL_law 1173 = .ok (.if_icmp .eq 5, 3) := by decide +kernel
theorem dL_law_1176 : decode cL_law 1176 = .ok (.iconst 0, 1) := by decide +kernel
theorem dL_law_1177 : decode cL_law 1177 = .ok (.ireturn, 1) := by decide +kernel
theorem dL_law_1178 : decode cL_law 1178 = .ok (.iload 6, 2) := by decide +kernel
theorem dL_law_1180 : decode cL_law 1180 = .ok (.ifCond .ne 15, 3) := by decide +kernel
theorem dL_law_1183 : decode cL_law 1183 = .ok (.aload_n 3, 1) := by decide +kernel
theorem dL_law_1184 : decode cL_law 1184 = .ok (.iconst 0, 1) := by decide +kernel
theorem dL_law_1185 : decode cL_law 1185 = .ok (.laload, 1) := by decide +kernel
theorem dL_law_1186 : decode cL_law 1186 = .ok (.iload 7, 2) := by decide +kernel
theorem dL_law_1188 : decode cL_law 1188 = .ok (.i2l, 1) := by decide +kernel
theorem dL_law_1189 : decode cL_law 1189 = .ok (.lcmp, 1) := by decide +kernel
theorem dL_law_1190 : decode cL_law 1190 = .ok (.ifCond .eq 5, 3) := by decide +kernel
theorem dL_law_1193 : decode cL_law 1193 = .ok (.iconst 0, 1) := by decide +kernel
theorem dL_law_1194 : decode cL_law 1194 = .ok (.ireturn, 1) := by decide +kernel
theorem dL_law_1195 : decode cL_law 1195 = .ok (.goto 1095, 3) := by decide +kernel
theorem dL_law_1198 : decode cL_law 1198 = .ok (.aload_n 1, 1) := by decide +kernel
theorem dL_law_1199 : decode cL_law 1199 = .ok (.aload_n 0, 1) := by decide +kernel
theorem dL_law_1200 : decode cL_law 1200 = .ok (.iload 5, 2) := by decide +kernel
theorem dL_law_1202 : decode cL_law 1202 = .ok (.iconst 1, 1) := by decide +kernel
theorem dL_law_1203 : decode cL_law 1203 = .ok (.iadd, 1) := by decide +kernel
theorem dL_law_1204 : decode cL_law 1204 = .ok (.iaload, 1) := by decide +kernel
theorem dL_law_1205 : decode cL_law 1205 = .ok (.aload_n 3, 1) := by decide +kernel
theorem dL_law_1206 : decode cL_law 1206 = .ok (.invokestatic 206, 3) := by decide +kernel
theorem dL_law_1209 : decode cL_law 1209 = .ok (.istore 6, 2) := by decide +kernel
theorem dL_law_1211 : decode cL_law 1211 = .ok (.aload_n 2, 1) := by decide +kernel
theorem dL_law_1212 : decode cL_law 1212 = .ok (.aload_n 0, 1) := by decide +kernel
theorem dL_law_1213 : decode cL_law 1213 = .ok (.iload 5, 2) := by decide +kernel
theorem dL_law_1215 : decode cL_law 1215 = .ok (.iconst 1, 1) := by decide +kernel
theorem dL_law_1216 : decode cL_law 1216 = .ok (.iadd, 1) := by decide +kernel
theorem dL_law_1217 : decode cL_law 1217 = .ok (.iaload, 1) := by decide +kernel
theorem dL_law_1218 : decode cL_law 1218 = .ok (.invokevirtual 208, 3) := by decide +kernel
theorem dL_law_1221 : decode cL_law 1221 = .ok (.istore 7, 2) := by decide +kernel
theorem dL_law_1223 : decode cL_law 1223 = .ok (.aload_n 2, 1) := by decide +kernel
theorem dL_law_1224 : decode cL_law 1224 = .ok (.invokevirtual 139, 3) := by decide +kernel
theorem dL_law_1227 : decode cL_law 1227 = .ok (.iload 6, 2) := by decide +kernel
theorem dL_law_1229 : decode cL_law 1229 = .ok (.if_icmp .eq 5, 3) := by decide +kernel
theorem dL_law_1232 : decode cL_law 1232 = .ok (.iconst 0, 1) := by decide +kernel
theorem dL_law_1233 : decode cL_law 1233 = .ok (.ireturn, 1) := by decide +kernel
theorem dL_law_1234 : decode cL_law 1234 = .ok (.iload 6, 2) := by decide +kernel
theorem dL_law_1236 : decode cL_law 1236 = .ok (.ifCond .ne 15, 3) := by decide +kernel
theorem dL_law_1239 : decode cL_law 1239 = .ok (.aload_n 3, 1) := by decide +kernel
theorem dL_law_1240 : decode cL_law 1240 = .ok (.iconst 0, 1) := by decide +kernel
theorem dL_law_1241 : decode cL_law 1241 = .ok (.laload, 1) := by decide +kernel
theorem dL_law_1242 : decode cL_law 1242 = .ok (.iload 7, 2) := by decide +kernel
theorem dL_law_1244 : decode cL_law 1244 = .ok (.i2l, 1) := by decide +kernel
theorem dL_law_1245 : decode cL_law 1245 = .ok (.lcmp, 1) := by decide +kernel
theorem dL_law_1246 : decode cL_law 1246 = .ok (.ifCond .eq 5, 3) := by decide +kernel
theorem dL_law_1249 : decode cL_law 1249 = .ok (.iconst 0, 1) := by decide +kernel
theorem dL_law_1250 : decode cL_law 1250 = .ok (.ireturn, 1) := by decide +kernel
theorem dL_law_1251 : decode cL_law 1251 = .ok (.goto 1039, 3) := by decide +kernel
theorem dL_law_1254 : decode cL_law 1254 = .ok (.aload_n 1, 1) := by decide +kernel
theorem dL_law_1255 : decode cL_law 1255 = .ok (.aload_n 0, 1) := by decide +kernel
theorem dL_law_1256 : decode cL_law 1256 = .ok (.iload 5, 2) := by decide +kernel
theorem dL_law_1258 : decode cL_law 1258 = .ok (.iconst 1, 1) := by decide +kernel
theorem dL_law_1259 : decode cL_law 1259 = .ok (.iadd, 1) := by decide +kernel
theorem dL_law_1260 : decode cL_law 1260 = .ok (.iaload, 1) := by decide +kernel
theorem dL_law_1261 : decode cL_law 1261 = .ok (.aload_n 0, 1) := by decide +kernel
theorem dL_law_1262 : decode cL_law 1262 = .ok (.iload 5, 2) := by decide +kernel
theorem dL_law_1264 : decode cL_law 1264 = .ok (.iconst 2, 1) := by decide +kernel
theorem dL_law_1265 : decode cL_law 1265 = .ok (.iadd, 1) := by decide +kernel
theorem dL_law_1266 : decode cL_law 1266 = .ok (.iaload, 1) := by decide +kernel
theorem dL_law_1267 : decode cL_law 1267 = .ok (.aload_n 0, 1) := by decide +kernel
theorem dL_law_1268 : decode cL_law 1268 = .ok (.iload 5, 2) := by decide +kernel
theorem dL_law_1270 : decode cL_law 1270 = .ok (.iconst 3, 1) := by decide +kernel
theorem dL_law_1271 : decode cL_law 1271 = .ok (.iadd, 1) := by decide +kernel
theorem dL_law_1272 : decode cL_law 1272 = .ok (.iaload, 1) := by decide +kernel
theorem dL_law_1273 : decode cL_law 1273 = .ok (.aload_n 3, 1) := by decide +kernel
theorem dL_law_1274 : decode cL_law 1274 = .ok (.invokestatic 209, 3) := by decide +kernel
theorem dL_law_1277 : decode cL_law 1277 = .ok (.istore 6, 2) := by decide +kernel
theorem dL_law_1279 : decode cL_law 1279 = .ok (.aload_n 2, 1) := by decide +kernel
theorem dL_law_1280 : decode cL_law 1280 = .ok (.aload_n 0, 1) := by decide +kernel
theorem dL_law_1281 : decode cL_law 1281 = .ok (.iload 5, 2) := by decide +kernel
theorem dL_law_1283 : decode cL_law 1283 = .ok (.iconst 1, 1) := by decide +kernel
theorem dL_law_1284 : decode cL_law 1284 = .ok (.iadd, 1) := by decide +kernel
theorem dL_law_1285 : decode cL_law 1285 = .ok (.iaload, 1) := by decide +kernel
theorem dL_law_1286 : decode cL_law 1286 = .ok (.aload_n 0, 1) := by decide +kernel
theorem dL_law_1287 : decode cL_law 1287 = .ok (.iload 5, 2) := by decide +kernel
theorem dL_law_1289 : decode cL_law 1289 = .ok (.iconst 2, 1) := by decide +kernel
theorem dL_law_1290 : decode cL_law 1290 = .ok (.iadd, 1) := by decide +kernel
theorem dL_law_1291 : decode cL_law 1291 = .ok (.iaload, 1) := by decide +kernel
theorem dL_law_1292 : decode cL_law 1292 = .ok (.aload_n 0, 1) := by decide +kernel
theorem dL_law_1293 : decode cL_law 1293 = .ok (.iload 5, 2) := by decide +kernel
theorem dL_law_1295 : decode cL_law 1295 = .ok (.iconst 3, 1) := by decide +kernel
theorem dL_law_1296 : decode cL_law 1296 = .ok (.iadd, 1) := by decide +kernel
theorem dL_law_1297 : decode cL_law 1297 = .ok (.iaload, 1) := by decide +kernel
theorem dL_law_1298 : decode cL_law 1298 = .ok (.invokevirtual 211, 3) := by decide +kernel
theorem dL_law_1301 : decode cL_law 1301 = .ok (.istore 7, 2) := by decide +kernel
theorem dL_law_1303 : decode cL_law 1303 = .ok (.aload_n 2, 1) := by decide +kernel
theorem dL_law_1304 : decode cL_law 1304 = .ok (.invokevirtual 139, 3) := by decide +kernel
theorem dL_law_1307 : decode cL_law 1307 = .ok (.iload 6, 2) := by decide +kernel
theorem dL_law_1309 : decode cL_law 1309 = .ok (.if_icmp .eq 5, 3) := by decide +kernel
theorem dL_law_1312 : decode cL_law 1312 = .ok (.iconst 0, 1) := by decide +kernel
theorem dL_law_1313 : decode cL_law 1313 = .ok (.ireturn, 1) := by decide +kernel
theorem dL_law_1314 : decode cL_law 1314 = .ok (.iload 6, 2) := by decide +kernel
theorem dL_law_1316 : decode cL_law 1316 = .ok (.ifCond .ne 22, 3) := by decide +kernel
theorem dL_law_1319 : decode cL_law 1319 = .ok (.aload_n 3, 1) := by decide +kernel
theorem dL_law_1320 : decode cL_law 1320 = .ok (.iconst 0, 1) := by decide +kernel
theorem dL_law_1321 : decode cL_law 1321 = .ok (.laload, 1) := by decide +kernel
theorem dL_law_1322 : decode cL_law 1322 = .ok (.iload 7, 2) := by decide +kernel
theorem dL_law_1324 : decode cL_law 1324 = .ok (.ifCond .eq 7, 3) := by decide +kernel
theorem dL_law_1327 : decode cL_law 1327 = .ok (.lconst 1, 1) := by decide +kernel
theorem dL_law_1328 : decode cL_law 1328 = .ok (.goto 4, 3) := by decide +kernel
theorem dL_law_1331 : decode cL_law 1331 = .ok (.lconst 0, 1) := by decide +kernel
theorem dL_law_1332 : decode cL_law 1332 = .ok (.lcmp, 1) := by decide +kernel
theorem dL_law_1333 : decode cL_law 1333 = .ok (.ifCond .eq 5, 3) := by decide +kernel
theorem dL_law_1336 : decode cL_law 1336 = .ok (.iconst 0, 1) := by decide +kernel
theorem dL_law_1337 : decode cL_law 1337 = .ok (.ireturn, 1) := by decide +kernel
theorem dL_law_1338 : decode cL_law 1338 = .ok (.goto 952, 3) := by decide +kernel
theorem dL_law_1341 : decode cL_law 1341 = .ok (.aload_n 1, 1) := by decide +kernel
theorem dL_law_1342 : decode cL_law 1342 = .ok (.aload_n 0, 1) := by decide +kernel
theorem dL_law_1343 : decode cL_law 1343 = .ok (.iload 5, 2) := by decide +kernel
theorem dL_law_1345 : decode cL_law 1345 = .ok (.iconst 1, 1) := by decide +kernel
theorem dL_law_1346 : decode cL_law 1346 = .ok (.iadd, 1) := by decide +kernel
theorem dL_law_1347 : decode cL_law 1347 = .ok (.iaload, 1) := by decide +kernel
theorem dL_law_1348 : decode cL_law 1348 = .ok (.aload_n 0, 1) := by decide +kernel
theorem dL_law_1349 : decode cL_law 1349 = .ok (.iload 5, 2) := by decide +kernel
theorem dL_law_1351 : decode cL_law 1351 = .ok (.iconst 2, 1) := by decide +kernel
theorem dL_law_1352 : decode cL_law 1352 = .ok (.iadd, 1) := by decide +kernel
theorem dL_law_1353 : decode cL_law 1353 = .ok (.iaload, 1) := by decide +kernel
theorem dL_law_1354 : decode cL_law 1354 = .ok (.aload_n 3, 1) := by decide +kernel
theorem dL_law_1355 : decode cL_law 1355 = .ok (.invokestatic 212, 3) := by decide +kernel
theorem dL_law_1358 : decode cL_law 1358 = .ok (.istore 6, 2) := by decide +kernel
theorem dL_law_1360 : decode cL_law 1360 = .ok (.aload_n 2, 1) := by decide +kernel
theorem dL_law_1361 : decode cL_law 1361 = .ok (.aload_n 0, 1) := by decide +kernel
theorem dL_law_1362 : decode cL_law 1362 = .ok (.iload 5, 2) := by decide +kernel
theorem dL_law_1364 : decode cL_law 1364 = .ok (.iconst 1, 1) := by decide +kernel
theorem dL_law_1365 : decode cL_law 1365 = .ok (.iadd, 1) := by decide +kernel
theorem dL_law_1366 : decode cL_law 1366 = .ok (.iaload, 1) := by decide +kernel
theorem dL_law_1367 : decode cL_law 1367 = .ok (.aload_n 0, 1) := by decide +kernel
theorem dL_law_1368 : decode cL_law 1368 = .ok (.iload 5, 2) := by decide +kernel
theorem dL_law_1370 : decode cL_law 1370 = .ok (.iconst 2, 1) := by decide +kernel
theorem dL_law_1371 : decode cL_law 1371 = .ok (.iadd, 1) := by decide +kernel
theorem dL_law_1372 : decode cL_law 1372 = .ok (.iaload, 1) := by decide +kernel
theorem dL_law_1373 : decode cL_law 1373 = .ok (.invokevirtual 214, 3) := by decide +kernel
theorem dL_law_1376 : decode cL_law 1376 = .ok (.istore 7, 2) := by decide +kernel
theorem dL_law_1378 : decode cL_law 1378 = .ok (.aload_n 2, 1) := by decide +kernel
theorem dL_law_1379 : decode cL_law 1379 = .ok (.invokevirtual 139, 3) := by decide +kernel
theorem dL_law_1382 : decode cL_law 1382 = .ok (.iload 6, 2) := by decide +kernel
theorem dL_law_1384 : decode cL_law 1384 = .ok (.if_icmp .eq 5, 3) := by decide +kernel
theorem dL_law_1387 : decode cL_law 1387 = .ok (.iconst 0, 1) := by decide +kernel
theorem dL_law_1388 : decode cL_law 1388 = .ok (.ireturn, 1) := by decide +kernel
theorem dL_law_1389 : decode cL_law 1389 = .ok (.iload 6, 2) := by decide +kernel
theorem dL_law_1391 : decode cL_law 1391 = .ok (.ifCond .ne 15, 3) := by decide +kernel
theorem dL_law_1394 : decode cL_law 1394 = .ok (.aload_n 3, 1) := by decide +kernel
theorem dL_law_1395 : decode cL_law 1395 = .ok (.iconst 0, 1) := by decide +kernel
theorem dL_law_1396 : decode cL_law 1396 = .ok (.laload, 1) := by decide +kernel
theorem dL_law_1397 : decode cL_law 1397 = .ok (.iload 7, 2) := by decide +kernel
theorem dL_law_1399 : decode cL_law 1399 = .ok (.i2l, 1) := by decide +kernel
theorem dL_law_1400 : decode cL_law 1400 = .ok (.lcmp, 1) := by decide +kernel
theorem dL_law_1401 : decode cL_law 1401 = .ok (.ifCond .eq 5, 3) := by decide +kernel
theorem dL_law_1404 : decode cL_law 1404 = .ok (.iconst 0, 1) := by decide +kernel
theorem dL_law_1405 : decode cL_law 1405 = .ok (.ireturn, 1) := by decide +kernel
theorem dL_law_1406 : decode cL_law 1406 = .ok (.goto 884, 3) := by decide +kernel
theorem dL_law_1409 : decode cL_law 1409 = .ok (.aload_n 1, 1) := by decide +kernel
theorem dL_law_1410 : decode cL_law 1410 = .ok (.aload_n 0, 1) := by decide +kernel
theorem dL_law_1411 : decode cL_law 1411 = .ok (.iload 5, 2) := by decide +kernel
theorem dL_law_1413 : decode cL_law 1413 = .ok (.iconst 1, 1) := by decide +kernel
theorem dL_law_1414 : decode cL_law 1414 = .ok (.iadd, 1) := by decide +kernel
theorem dL_law_1415 : decode cL_law 1415 = .ok (.iaload, 1) := by decide +kernel
theorem dL_law_1416 : decode cL_law 1416 = .ok (.aload_n 3, 1) := by decide +kernel
theorem dL_law_1417 : decode cL_law 1417 = .ok (.invokestatic 215, 3) := by decide +kernel
theorem dL_law_1420 : decode cL_law 1420 = .ok (.istore 6, 2) := by decide +kernel
theorem dL_law_1422 : decode cL_law 1422 = .ok (.aload_n 2, 1) := by decide +kernel
theorem dL_law_1423 : decode cL_law 1423 = .ok (.aload_n 0, 1) := by decide +kernel
theorem dL_law_1424 : decode cL_law 1424 = .ok (.iload 5, 2) := by decide +kernel
theorem dL_law_1426 : decode cL_law 1426 = .ok (.iconst 1, 1) := by decide +kernel
theorem dL_law_1427 : decode cL_law 1427 = .ok (.iadd, 1) := by decide +kernel
theorem dL_law_1428 : decode cL_law 1428 = .ok (.iaload, 1) := by decide +kernel
theorem dL_law_1429 : decode cL_law 1429 = .ok (.invokevirtual 217, 3) := by decide +kernel
theorem dL_law_1432 : decode cL_law 1432 = .ok (.istore 7, 2) := by decide +kernel
theorem dL_law_1434 : decode cL_law 1434 = .ok (.aload_n 2, 1) := by decide +kernel
theorem dL_law_1435 : decode cL_law 1435 = .ok (.invokevirtual 139, 3) := by decide +kernel
theorem dL_law_1438 : decode cL_law 1438 = .ok (.iload 6, 2) := by decide +kernel
theorem dL_law_1440 : decode cL_law 1440 = .ok (.if_icmp .eq 5, 3) := by decide +kernel
theorem dL_law_1443 : decode cL_law 1443 = .ok (.iconst 0, 1) := by decide +kernel
theorem dL_law_1444 : decode cL_law 1444 = .ok (.ireturn, 1) := by decide +kernel
theorem dL_law_1445 : decode cL_law 1445 = .ok (.iload 6, 2) := by decide +kernel
theorem dL_law_1447 : decode cL_law 1447 = .ok (.ifCond .ne 15, 3) := by decide +kernel
theorem dL_law_1450 : decode cL_law 1450 = .ok (.aload_n 3, 1) := by decide +kernel
theorem dL_law_1451 : decode cL_law 1451 = .ok (.iconst 0, 1) := by decide +kernel
theorem dL_law_1452 : decode cL_law 1452 = .ok (.laload, 1) := by decide +kernel
theorem dL_law_1453 : decode cL_law 1453 = .ok (.iload 7, 2) := by decide +kernel
theorem dL_law_1455 : decode cL_law 1455 = .ok (.i2l, 1) := by decide +kernel
theorem dL_law_1456 : decode cL_law 1456 = .ok (.lcmp, 1) := by decide +kernel
theorem dL_law_1457 : decode cL_law 1457 = .ok (.ifCond .eq 5, 3) := by decide +kernel
theorem dL_law_1460 : decode cL_law 1460 = .ok (.iconst 0, 1) := by decide +kernel
theorem dL_law_1461 : decode cL_law 1461 = .ok (.ireturn, 1) := by decide +kernel
theorem dL_law_1462 : decode cL_law 1462 = .ok (.goto 828, 3) := by decide +kernel
theorem dL_law_1465 : decode cL_law 1465 = .ok (.aload_n 1, 1) := by decide +kernel
theorem dL_law_1466 : decode cL_law 1466 = .ok (.aload_n 0, 1) := by decide +kernel
theorem dL_law_1467 : decode cL_law 1467 = .ok (.iload 5, 2) := by decide +kernel
theorem dL_law_1469 : decode cL_law 1469 = .ok (.iconst 1, 1) := by decide +kernel
theorem dL_law_1470 : decode cL_law 1470 = .ok (.iadd, 1) := by decide +kernel
theorem dL_law_1471 : decode cL_law 1471 = .ok (.iaload, 1) := by decide +kernel
theorem dL_law_1472 : decode cL_law 1472 = .ok (.aload_n 3, 1) := by decide +kernel
theorem dL_law_1473 : decode cL_law 1473 = .ok (.invokestatic 218, 3) := by decide +kernel
theorem dL_law_1476 : decode cL_law 1476 = .ok (.istore 6, 2) := by decide +kernel
theorem dL_law_1478 : decode cL_law 1478 = .ok (.aload_n 2, 1) := by decide +kernel
theorem dL_law_1479 : decode cL_law 1479 = .ok (.aload_n 0, 1) := by decide +kernel
theorem dL_law_1480 : decode cL_law 1480 = .ok (.iload 5, 2) := by decide +kernel
theorem dL_law_1482 : decode cL_law 1482 = .ok (.iconst 1, 1) := by decide +kernel
theorem dL_law_1483 : decode cL_law 1483 = .ok (.iadd, 1) := by decide +kernel
theorem dL_law_1484 : decode cL_law 1484 = .ok (.iaload, 1) := by decide +kernel
theorem dL_law_1485 : decode cL_law 1485 = .ok (.invokevirtual 220, 3) := by decide +kernel
theorem dL_law_1488 : decode cL_law 1488 = .ok (.istore 7, 2) := by decide +kernel
theorem dL_law_1490 : decode cL_law 1490 = .ok (.aload_n 2, 1) := by decide +kernel
theorem dL_law_1491 : decode cL_law 1491 = .ok (.invokevirtual 139, 3) := by decide +kernel
theorem dL_law_1494 : decode cL_law 1494 = .ok (.iload 6, 2) := by decide +kernel
theorem dL_law_1496 : decode cL_law 1496 = .ok (.if_icmp .eq 5, 3) := by decide +kernel
theorem dL_law_1499 : decode cL_law 1499 = .ok (.iconst 0, 1) := by decide +kernel
theorem dL_law_1500 : decode cL_law 1500 = .ok (.ireturn, 1) := by decide +kernel
theorem dL_law_1501 : decode cL_law 1501 = .ok (.iload 6, 2) := by decide +kernel
theorem dL_law_1503 : decode cL_law 1503 = .ok (.ifCond .ne 15, 3) := by decide +kernel
theorem dL_law_1506 : decode cL_law 1506 = .ok (.aload_n 3, 1) := by decide +kernel
theorem dL_law_1507 : decode cL_law 1507 = .ok (.iconst 0, 1) := by decide +kernel
theorem dL_law_1508 : decode cL_law 1508 = .ok (.laload, 1) := by decide +kernel
theorem dL_law_1509 : decode cL_law 1509 = .ok (.iload 7, 2) := by decide +kernel
theorem dL_law_1511 : decode cL_law 1511 = .ok (.i2l, 1) := by decide +kernel
theorem dL_law_1512 : decode cL_law 1512 = .ok (.lcmp, 1) := by decide +kernel
theorem dL_law_1513 : decode cL_law 1513 = .ok (.ifCond .eq 5, 3) := by decide +kernel
theorem dL_law_1516 : decode cL_law 1516 = .ok (.iconst 0, 1) := by decide +kernel
theorem dL_law_1517 : decode cL_law 1517 = .ok (.ireturn, 1) := by decide +kernel
theorem dL_law_1518 : decode cL_law 1518 = .ok (.goto 772, 3) := by decide +kernel
theorem dL_law_1521 : decode cL_law 1521 = .ok (.aload_n 1, 1) := by decide +kernel
theorem dL_law_1522 : decode cL_law 1522 = .ok (.aload_n 0, 1) := by decide +kernel
theorem dL_law_1523 : decode cL_law 1523 = .ok (.iload 5, 2) := by decide +kernel
theorem dL_law_1525 : decode cL_law 1525 = .ok (.iconst 1, 1) := by decide +kernel
theorem dL_law_1526 : decode cL_law 1526 = .ok (.iadd, 1) := by decide +kernel
theorem dL_law_1527 : decode cL_law 1527 = .ok (.iaload, 1) := by decide +kernel
theorem dL_law_1528 : decode cL_law 1528 = .ok (.aload_n 3, 1) := by decide +kernel
theorem dL_law_1529 : decode cL_law 1529 = .ok (.invokestatic 221, 3) := by decide +kernel
theorem dL_law_1532 : decode cL_law 1532 = .ok (.istore 6, 2) := by decide +kernel
theorem dL_law_1534 : decode cL_law 1534 = .ok (.aload_n 2, 1) := by decide +kernel
theorem dL_law_1535 : decode cL_law 1535 = .ok (.aload_n 0, 1) := by decide +kernel
theorem dL_law_1536 : decode cL_law 1536 = .ok (.iload 5, 2) := by decide +kernel
theorem dL_law_1538 : decode cL_law 1538 = .ok (.iconst 1, 1) := by decide +kernel
theorem dL_law_1539 : decode cL_law 1539 = .ok (.iadd, 1) := by decide +kernel
theorem dL_law_1540 : decode cL_law 1540 = .ok (.iaload, 1) := by decide +kernel
theorem dL_law_1541 : decode cL_law 1541 = .ok (.invokevirtual 223, 3) := by decide +kernel
theorem dL_law_1544 : decode cL_law 1544 = .ok (.istore 7, 2) := by decide +kernel
theorem dL_law_1546 : decode cL_law 1546 = .ok (.aload_n 2, 1) := by decide +kernel
theorem dL_law_1547 : decode cL_law 1547 = .ok (.invokevirtual 139, 3) := by decide +kernel
theorem dL_law_1550 : decode cL_law 1550 = .ok (.iload 6, 2) := by decide +kernel
theorem dL_law_1552 : decode cL_law 1552 = .ok (.if_icmp .eq 5, 3) := by decide +kernel
theorem dL_law_1555 : decode cL_law 1555 = .ok (.iconst 0, 1) := by decide +kernel
theorem dL_law_1556 : decode cL_law 1556 = .ok (.ireturn, 1) := by decide +kernel
theorem dL_law_1557 : decode cL_law 1557 = .ok (.iload 6, 2) := by decide +kernel
theorem dL_law_1559 : decode cL_law 1559 = .ok (.ifCond .ne 15, 3) := by decide +kernel
theorem dL_law_1562 : decode cL_law 1562 = .ok (.aload_n 3, 1) := by decide +kernel
theorem dL_law_1563 : decode cL_law 1563 = .ok (.iconst 0, 1) := by decide +kernel
theorem dL_law_1564 : decode cL_law 1564 = .ok (.laload, 1) := by decide +kernel
theorem dL_law_1565 : decode cL_law 1565 = .ok (.iload 7, 2) := by decide +kernel
theorem dL_law_1567 : decode cL_law 1567 = .ok (.i2l, 1) := by decide +kernel
theorem dL_law_1568 : decode cL_law 1568 = .ok (.lcmp, 1) := by decide +kernel
theorem dL_law_1569 : decode cL_law 1569 = .ok (.ifCond .eq 5, 3) := by decide +kernel
theorem dL_law_1572 : decode cL_law 1572 = .ok (.iconst 0, 1) := by decide +kernel
theorem dL_law_1573 : decode cL_law 1573 = .ok (.ireturn, 1) := by decide +kernel
theorem dL_law_1574 : decode cL_law 1574 = .ok (.goto 716, 3) := by decide +kernel
theorem dL_law_1577 : decode cL_law 1577 = .ok (.aload_n 1, 1) := by decide +kernel
theorem dL_law_1578 : decode cL_law 1578 = .ok (.aload_n 0, 1) := by decide +kernel
theorem dL_law_1579 : decode cL_law 1579 = .ok (.iload 5, 2) := by decide +kernel
theorem dL_law_1581 : decode cL_law 1581 = .ok (.iconst 1, 1) := by decide +kernel
theorem dL_law_1582 : decode cL_law 1582 = .ok (.iadd, 1) := by decide +kernel
theorem dL_law_1583 : decode cL_law 1583 = .ok (.iaload, 1) := by decide +kernel
theorem dL_law_1584 : decode cL_law 1584 = .ok (.aload_n 3, 1) := by decide +kernel
theorem dL_law_1585 : decode cL_law 1585 = .ok (.invokestatic 224, 3) := by decide +kernel
theorem dL_law_1588 : decode cL_law 1588 = .ok (.istore 6, 2) := by decide +kernel
theorem dL_law_1590 : decode cL_law 1590 = .ok (.aload_n 2, 1) := by decide +kernel
theorem dL_law_1591 : decode cL_law 1591 = .ok (.aload_n 0, 1) := by decide +kernel
theorem dL_law_1592 : decode cL_law 1592 = .ok (.iload 5, 2) := by decide +kernel
theorem dL_law_1594 : decode cL_law 1594 = .ok (.iconst 1, 1) := by decide +kernel
theorem dL_law_1595 : decode cL_law 1595 = .ok (.iadd, 1) := by decide +kernel
theorem dL_law_1596 : decode cL_law 1596 = .ok (.iaload, 1) := by decide +kernel
theorem dL_law_1597 : decode cL_law 1597 = .ok (.invokevirtual 226, 3) := by decide +kernel
theorem dL_law_1600 : decode cL_law 1600 = .ok (.istore 7, 2) := by decide +kernel
theorem dL_law_1602 : decode cL_law 1602 = .ok (.aload_n 2, 1) := by decide +kernel
theorem dL_law_1603 : decode cL_law 1603 = .ok (.invokevirtual 139, 3) := by decide +kernel
theorem dL_law_1606 : decode cL_law 1606 = .ok (.iload 6, 2) := by decide +kernel
theorem dL_law_1608 : decode cL_law 1608 = .ok (.if_icmp .eq 5, 3) := by decide +kernel
theorem dL_law_1611 : decode cL_law 1611 = .ok (.iconst 0, 1) := by decide +kernel
theorem dL_law_1612 : decode cL_law 1612 = .ok (.ireturn, 1) := by decide +kernel
theorem dL_law_1613 : decode cL_law 1613 = .ok (.iload 6, 2) := by decide +kernel
theorem dL_law_1615 : decode cL_law 1615 = .ok (.ifCond .ne 15, 3) := by decide +kernel
theorem dL_law_1618 : decode cL_law 1618 = .ok (.aload_n 3, 1) := by decide +kernel
theorem dL_law_1619 : decode cL_law 1619 = .ok (.iconst 0, 1) := by decide +kernel
theorem dL_law_1620 : decode cL_law 1620 = .ok (.laload, 1) := by decide +kernel
theorem dL_law_1621 : decode cL_law 1621 = .ok (.iload 7, 2) := by decide +kernel
theorem dL_law_1623 : decode cL_law 1623 = .ok (.i2l, 1) := by decide +kernel
theorem dL_law_1624 : decode cL_law 1624 = .ok (.lcmp, 1) := by decide +kernel
theorem dL_law_1625 : decode cL_law 1625 = .ok (.ifCond .eq 5, 3) := by decide +kernel
theorem dL_law_1628 : decode cL_law 1628 = .ok (.iconst 0, 1) := by decide +kernel
theorem dL_law_1629 : decode cL_law 1629 = .ok (.ireturn, 1) := by decide +kernel
theorem dL_law_1630 : decode cL_law 1630 = .ok (.goto 660, 3) := by decide +kernel
theorem dL_law_1633 : decode cL_law 1633 = .ok (.aload_n 1, 1) := by decide +kernel
theorem dL_law_1634 : decode cL_law 1634 = .ok (.aload_n 0, 1) := by decide +kernel
theorem dL_law_1635 : decode cL_law 1635 = .ok (.iload 5, 2) := by decide +kernel
theorem dL_law_1637 : decode cL_law 1637 = .ok (.iconst 1, 1) := by decide +kernel
theorem dL_law_1638 : decode cL_law 1638 = .ok (.iadd, 1) := by decide +kernel
theorem dL_law_1639 : decode cL_law 1639 = .ok (.iaload, 1) := by decide +kernel
theorem dL_law_1640 : decode cL_law 1640 = .ok (.aload_n 0, 1) := by decide +kernel
theorem dL_law_1641 : decode cL_law 1641 = .ok (.iload 5, 2) := by decide +kernel
theorem dL_law_1643 : decode cL_law 1643 = .ok (.iconst 2, 1) := by decide +kernel
theorem dL_law_1644 : decode cL_law 1644 = .ok (.iadd, 1) := by decide +kernel
theorem dL_law_1645 : decode cL_law 1645 = .ok (.iaload, 1) := by decide +kernel
theorem dL_law_1646 : decode cL_law 1646 = .ok (.aload_n 3, 1) := by decide +kernel
theorem dL_law_1647 : decode cL_law 1647 = .ok (.invokestatic 227, 3) := by decide +kernel
theorem dL_law_1650 : decode cL_law 1650 = .ok (.istore 6, 2) := by decide +kernel
theorem dL_law_1652 : decode cL_law 1652 = .ok (.aload_n 2, 1) := by decide +kernel
theorem dL_law_1653 : decode cL_law 1653 = .ok (.aload_n 0, 1) := by decide +kernel
theorem dL_law_1654 : decode cL_law 1654 = .ok (.iload 5, 2) := by decide +kernel
theorem dL_law_1656 : decode cL_law 1656 = .ok (.iconst 1, 1) := by decide +kernel
theorem dL_law_1657 : decode cL_law 1657 = .ok (.iadd, 1) := by decide +kernel
theorem dL_law_1658 : decode cL_law 1658 = .ok (.iaload, 1) := by decide +kernel
theorem dL_law_1659 : decode cL_law 1659 = .ok (.aload_n 0, 1) := by decide +kernel
theorem dL_law_1660 : decode cL_law 1660 = .ok (.iload 5, 2) := by decide +kernel
theorem dL_law_1662 : decode cL_law 1662 = .ok (.iconst 2, 1) := by decide +kernel
theorem dL_law_1663 : decode cL_law 1663 = .ok (.iadd, 1) := by decide +kernel
theorem dL_law_1664 : decode cL_law 1664 = .ok (.iaload, 1) := by decide +kernel
theorem dL_law_1665 : decode cL_law 1665 = .ok (.invokevirtual 229, 3) := by decide +kernel
theorem dL_law_1668 : decode cL_law 1668 = .ok (.istore 7, 2) := by decide +kernel
theorem dL_law_1670 : decode cL_law 1670 = .ok (.aload_n 2, 1) := by decide +kernel
theorem dL_law_1671 : decode cL_law 1671 = .ok (.invokevirtual 139, 3) := by decide +kernel
theorem dL_law_1674 : decode cL_law 1674 = .ok (.iload 6, 2) := by decide +kernel
theorem dL_law_1676 : decode cL_law 1676 = .ok (.if_icmp .eq 5, 3) := by decide +kernel
theorem dL_law_1679 : decode cL_law 1679 = .ok (.iconst 0, 1) := by decide +kernel
theorem dL_law_1680 : decode cL_law 1680 = .ok (.ireturn, 1) := by decide +kernel
theorem dL_law_1681 : decode cL_law 1681 = .ok (.iload 6, 2) := by decide +kernel
theorem dL_law_1683 : decode cL_law 1683 = .ok (.ifCond .ne 15, 3) := by decide +kernel
theorem dL_law_1686 : decode cL_law 1686 = .ok (.aload_n 3, 1) := by decide +kernel
theorem dL_law_1687 : decode cL_law 1687 = .ok (.iconst 0, 1) := by decide +kernel
theorem dL_law_1688 : decode cL_law 1688 = .ok (.laload, 1) := by decide +kernel
theorem dL_law_1689 : decode cL_law 1689 = .ok (.iload 7, 2) := by decide +kernel
theorem dL_law_1691 : decode cL_law 1691 = .ok (.i2l, 1) := by decide +kernel
theorem dL_law_1692 : decode cL_law 1692 = .ok (.lcmp, 1) := by decide +kernel
theorem dL_law_1693 : decode cL_law 1693 = .ok (.ifCond .eq 5, 3) := by decide +kernel
theorem dL_law_1696 : decode cL_law 1696 = .ok (.iconst 0, 1) := by decide +kernel
theorem dL_law_1697 : decode cL_law 1697 = .ok (.ireturn, 1) := by decide +kernel
theorem dL_law_1698 : decode cL_law 1698 = .ok (.goto 592, 3) := by decide +kernel
theorem dL_law_1701 : decode cL_law 1701 = .ok (.aload_n 1, 1) := by decide +kernel
theorem dL_law_1702 : decode cL_law 1702 = .ok (.aload_n 0, 1) := by decide +kernel
theorem dL_law_1703 : decode cL_law 1703 = .ok (.iload 5, 2) := by decide +kernel
theorem dL_law_1705 : decode cL_law 1705 = .ok (.iconst 1, 1) := by decide +kernel
theorem dL_law_1706 : decode cL_law 1706 = .ok (.iadd, 1) := by decide +kernel
theorem dL_law_1707 : decode cL_law 1707 = .ok (.iaload, 1) := by decide +kernel
theorem dL_law_1708 : decode cL_law 1708 = .ok (.aload_n 3, 1) := by decide +kernel
theorem dL_law_1709 : decode cL_law 1709 = .ok (.invokestatic 230, 3) := by decide +kernel
theorem dL_law_1712 : decode cL_law 1712 = .ok (.istore 6, 2) := by decide +kernel
theorem dL_law_1714 : decode cL_law 1714 = .ok (.aload_n 2, 1) := by decide +kernel
theorem dL_law_1715 : decode cL_law 1715 = .ok (.aload_n 0, 1) := by decide +kernel
theorem dL_law_1716 : decode cL_law 1716 = .ok (.iload 5, 2) := by decide +kernel
theorem dL_law_1718 : decode cL_law 1718 = .ok (.iconst 1, 1) := by decide +kernel
theorem dL_law_1719 : decode cL_law 1719 = .ok (.iadd, 1) := by decide +kernel
theorem dL_law_1720 : decode cL_law 1720 = .ok (.iaload, 1) := by decide +kernel
theorem dL_law_1721 : decode cL_law 1721 = .ok (.invokevirtual 232, 3) := by decide +kernel
theorem dL_law_1724 : decode cL_law 1724 = .ok (.istore 7, 2) := by decide +kernel
theorem dL_law_1726 : decode cL_law 1726 = .ok (.aload_n 2, 1) := by decide +kernel
theorem dL_law_1727 : decode cL_law 1727 = .ok (.invokevirtual 139, 3) := by decide +kernel
theorem dL_law_1730 : decode cL_law 1730 = .ok (.iload 6, 2) := by decide +kernel
theorem dL_law_1732 : decode cL_law 1732 = .ok (.if_icmp .eq 5, 3) := by decide +kernel
theorem dL_law_1735 : decode cL_law 1735 = .ok (.iconst 0, 1) := by decide +kernel
theorem dL_law_1736 : decode cL_law 1736 = .ok (.ireturn, 1) := by decide +kernel
theorem dL_law_1737 : decode cL_law 1737 = .ok (.iload 6, 2) := by decide +kernel
theorem dL_law_1739 : decode cL_law 1739 = .ok (.ifCond .ne 15, 3) := by decide +kernel
theorem dL_law_1742 : decode cL_law 1742 = .ok (.aload_n 3, 1) := by decide +kernel
theorem dL_law_1743 : decode cL_law 1743 = .ok (.iconst 0, 1) := by decide +kernel
theorem dL_law_1744 : decode cL_law 1744 = .ok (.laload, 1) := by decide +kernel
theorem dL_law_1745 : decode cL_law 1745 = .ok (.iload 7, 2) := by decide +kernel
theorem dL_law_1747 : decode cL_law 1747 = .ok (.i2l, 1) := by decide +kernel
theorem dL_law_1748 : decode cL_law 1748 = .ok (.lcmp, 1) := by decide +kernel
theorem dL_law_1749 : decode cL_law 1749 = .ok (.ifCond .eq 5, 3) := by decide +kernel
theorem dL_law_1752 : decode cL_law 1752 = .ok (.iconst 0, 1) := by decide +kernel
theorem dL_law_1753 : decode cL_law 1753 = .ok (.ireturn, 1) := by decide +kernel
theorem dL_law_1754 : decode cL_law 1754 = .ok (.goto 536, 3) := by decide +kernel
theorem dL_law_1757 : decode cL_law 1757 = .ok (.aload_n 1, 1) := by decide +kernel
theorem dL_law_1758 : decode cL_law 1758 = .ok (.aload_n 0, 1) := by decide +kernel
theorem dL_law_1759 : decode cL_law 1759 = .ok (.iload 5, 2) := by decide +kernel
theorem dL_law_1761 : decode cL_law 1761 = .ok (.iconst 1, 1) := by decide +kernel
theorem dL_law_1762 : decode cL_law 1762 = .ok (.iadd, 1) := by decide +kernel
theorem dL_law_1763 : decode cL_law 1763 = .ok (.iaload, 1) := by decide +kernel
theorem dL_law_1764 : decode cL_law 1764 = .ok (.aload_n 3, 1) := by decide +kernel
theorem dL_law_1765 : decode cL_law 1765 = .ok (.invokestatic 233, 3) := by decide +kernel
theorem dL_law_1768 : decode cL_law 1768 = .ok (.istore 6, 2) := by decide +kernel
theorem dL_law_1770 : decode cL_law 1770 = .ok (.aload_n 2, 1) := by decide +kernel
theorem dL_law_1771 : decode cL_law 1771 = .ok (.aload_n 0, 1) := by decide +kernel
theorem dL_law_1772 : decode cL_law 1772 = .ok (.iload 5, 2) := by decide +kernel
theorem dL_law_1774 : decode cL_law 1774 = .ok (.iconst 1, 1) := by decide +kernel
theorem dL_law_1775 : decode cL_law 1775 = .ok (.iadd, 1) := by decide +kernel
theorem dL_law_1776 : decode cL_law 1776 = .ok (.iaload, 1) := by decide +kernel
theorem dL_law_1777 : decode cL_law 1777 = .ok (.invokevirtual 235, 3) := by decide +kernel
theorem dL_law_1780 : decode cL_law 1780 = .ok (.istore 7, 2) := by decide +kernel
theorem dL_law_1782 : decode cL_law 1782 = .ok (.aload_n 2, 1) := by decide +kernel
theorem dL_law_1783 : decode cL_law 1783 = .ok (.invokevirtual 139, 3) := by decide +kernel
theorem dL_law_1786 : decode cL_law 1786 = .ok (.iload 6, 2) := by decide +kernel
theorem dL_law_1788 : decode cL_law 1788 = .ok (.if_icmp .eq 5, 3) := by decide +kernel
theorem dL_law_1791 : decode cL_law 1791 = .ok (.iconst 0, 1) := by decide +kernel
theorem dL_law_1792 : decode cL_law 1792 = .ok (.ireturn, 1) := by decide +kernel
theorem dL_law_1793 : decode cL_law 1793 = .ok (.iload 6, 2) := by decide +kernel
theorem dL_law_1795 : decode cL_law 1795 = .ok (.ifCond .ne 15, 3) := by decide +kernel
theorem dL_law_1798 : decode cL_law 1798 = .ok (.aload_n 3, 1) := by decide +kernel
theorem dL_law_1799 : decode cL_law 1799 = .ok (.iconst 0, 1) := by decide +kernel
theorem dL_law_1800 : decode cL_law 1800 = .ok (.laload, 1) := by decide +kernel
theorem dL_law_1801 : decode cL_law 1801 = .ok (.iload 7, 2) := by decide +kernel
theorem dL_law_1803 : decode cL_law 1803 = .ok (.i2l, 1) := by decide +kernel
theorem dL_law_1804 : decode cL_law 1804 = .ok (.lcmp, 1) := by decide +kernel
theorem dL_law_1805 : decode cL_law 1805 = .ok (.ifCond .eq 5, 3) := by decide +kernel
theorem dL_law_1808 : decode cL_law 1808 = .ok (.iconst 0, 1) := by decide +kernel
theorem dL_law_1809 : decode cL_law 1809 = .ok (.ireturn, 1) := by decide +kernel
theorem dL_law_1810 : decode cL_law 1810 = .ok (.goto 480, 3) := by decide +kernel
theorem dL_law_1813 : decode cL_law 1813 = .ok (.aload_n 1, 1) := by decide +kernel
theorem dL_law_1814 : decode cL_law 1814 = .ok (.invokevirtual 236, 3) := by decide +kernel
theorem dL_law_1817 : decode cL_law 1817 = .ok (.aload_n 2, 1) := by decide +kernel
theorem dL_law_1818 : decode cL_law 1818 = .ok (.invokevirtual 239, 3) := by decide +kernel
theorem dL_law_1821 : decode cL_law 1821 = .ok (.if_icmp .eq 469, 3) := by decide +kernel
theorem dL_law_1824 : decode cL_law 1824 = .ok (.iconst 0, 1) := by decide +kernel
theorem dL_law_1825 : decode cL_law 1825 = .ok (.ireturn, 1) := by decide +kernel
theorem dL_law_1826 : decode cL_law 1826 = .ok (.aload_n 1, 1) := by decide +kernel
theorem dL_law_1827 : decode cL_law 1827 = .ok (.invokevirtual 240, 3) := by decide +kernel
theorem dL_law_1830 : decode cL_law 1830 = .ok (.aload_n 2, 1) := by decide +kernel
theorem dL_law_1831 : decode cL_law 1831 = .ok (.invokevirtual 243, 3) := by decide +kernel
theorem dL_law_1834 : decode cL_law 1834 = .ok (.if_icmp .eq 456, 3) := by decide +kernel
theorem dL_law_1837 : decode cL_law 1837 = .ok (.iconst 0, 1) := by decide +kernel
theorem dL_law_1838 : decode cL_law 1838 = .ok (.ireturn, 1) := by decide +kernel
theorem dL_law_1839 : decode cL_law 1839 = .ok (.aload_n 1, 1) := by decide +kernel
theorem dL_law_1840 : decode cL_law 1840 = .ok (.aload_n 0, 1) := by decide +kernel
theorem dL_law_1841 : decode cL_law 1841 = .ok (.iload 5, 2) := by decide +kernel
theorem dL_law_1843 : decode cL_law 1843 = .ok (.iconst 1, 1) := by decide +kernel
theorem dL_law_1844 : decode cL_law 1844 = .ok (.iadd, 1) := by decide +kernel
theorem dL_law_1845 : decode cL_law 1845 = .ok (.iaload, 1) := by decide +kernel
theorem dL_law_1846 : decode cL_law 1846 = .ok (.aload_n 3, 1) := by decide +kernel
theorem dL_law_1847 : decode cL_law 1847 = .ok (.invokestatic 244, 3) := by decide +kernel
theorem dL_law_1850 : decode cL_law 1850 = .ok (.istore 6, 2) := by decide +kernel
theorem dL_law_1852 : decode cL_law 1852 = .ok (.aload_n 2, 1) := by decide +kernel
theorem dL_law_1853 : decode cL_law 1853 = .ok (.aload_n 0, 1) := by decide +kernel
theorem dL_law_1854 : decode cL_law 1854 = .ok (.iload 5, 2) := by decide +kernel
theorem dL_law_1856 : decode cL_law 1856 = .ok (.iconst 1, 1) := by decide +kernel
theorem dL_law_1857 : decode cL_law 1857 = .ok (.iadd, 1) := by decide +kernel
theorem dL_law_1858 : decode cL_law 1858 = .ok (.iaload, 1) := by decide +kernel
theorem dL_law_1859 : decode cL_law 1859 = .ok (.invokevirtual 246, 3) := by decide +kernel
theorem dL_law_1862 : decode cL_law 1862 = .ok (.istore 7, 2) := by decide +kernel
theorem dL_law_1864 : decode cL_law 1864 = .ok (.aload_n 2, 1) := by decide +kernel
theorem dL_law_1865 : decode cL_law 1865 = .ok (.invokevirtual 139, 3) := by decide +kernel
theorem dL_law_1868 : decode cL_law 1868 = .ok (.iload 6, 2) := by decide +kernel
theorem dL_law_1870 : decode cL_law 1870 = .ok (.if_icmp .eq 5, 3) := by decide +kernel
theorem dL_law_1873 : decode cL_law 1873 = .ok (.iconst 0, 1) := by decide +kernel
theorem dL_law_1874 : decode cL_law 1874 = .ok (.ireturn, 1) := by decide +kernel
theorem dL_law_1875 : decode cL_law 1875 = .ok (.iload 6, 2) := by decide +kernel
theorem dL_law_1877 : decode cL_law 1877 = .ok (.ifCond .ne 15, 3) := by decide +kernel
theorem dL_law_1880 : decode cL_law 1880 = .ok (.aload_n 3, 1) := by decide +kernel
theorem dL_law_1881 : decode cL_law 1881 = .ok (.iconst 0, 1) := by decide +kernel
theorem dL_law_1882 : decode cL_law 1882 = .ok (.laload, 1) := by decide +kernel
theorem dL_law_1883 : decode cL_law 1883 = .ok (.iload 7, 2) := by decide +kernel
theorem dL_law_1885 : decode cL_law 1885 = .ok (.i2l, 1) := by decide +kernel
theorem dL_law_1886 : decode cL_law 1886 = .ok (.lcmp, 1) := by decide +kernel
theorem dL_law_1887 : decode cL_law 1887 = .ok (.ifCond .eq 5, 3) := by decide +kernel
theorem dL_law_1890 : decode cL_law 1890 = .ok (.iconst 0, 1) := by decide +kernel
theorem dL_law_1891 : decode cL_law 1891 = .ok (.ireturn, 1) := by decide +kernel
theorem dL_law_1892 : decode cL_law 1892 = .ok (.goto 398, 3) := by decide +kernel
theorem dL_law_1895 : decode cL_law 1895 = .ok (.aload_n 1, 1) := by decide +kernel
theorem dL_law_1896 : decode cL_law 1896 = .ok (.aload_n 0, 1) := by decide +kernel
theorem dL_law_1897 : decode cL_law 1897 = .ok (.iload 5, 2) := by decide +kernel
theorem dL_law_1899 : decode cL_law 1899 = .ok (.iconst 1, 1) := by decide +kernel
theorem dL_law_1900 : decode cL_law 1900 = .ok (.iadd, 1) := by decide +kernel
theorem dL_law_1901 : decode cL_law 1901 = .ok (.iaload, 1) := by decide +kernel
theorem dL_law_1902 : decode cL_law 1902 = .ok (.aload_n 3, 1) := by decide +kernel
theorem dL_law_1903 : decode cL_law 1903 = .ok (.invokestatic 247, 3) := by decide +kernel
theorem dL_law_1906 : decode cL_law 1906 = .ok (.istore 6, 2) := by decide +kernel
theorem dL_law_1908 : decode cL_law 1908 = .ok (.aload_n 2, 1) := by decide +kernel
theorem dL_law_1909 : decode cL_law 1909 = .ok (.aload_n 0, 1) := by decide +kernel
theorem dL_law_1910 : decode cL_law 1910 = .ok (.iload 5, 2) := by decide +kernel
theorem dL_law_1912 : decode cL_law 1912 = .ok (.iconst 1, 1) := by decide +kernel
theorem dL_law_1913 : decode cL_law 1913 = .ok (.iadd, 1) := by decide +kernel
theorem dL_law_1914 : decode cL_law 1914 = .ok (.iaload, 1) := by decide +kernel
theorem dL_law_1915 : decode cL_law 1915 = .ok (.invokevirtual 249, 3) := by decide +kernel
theorem dL_law_1918 : decode cL_law 1918 = .ok (.istore 7, 2) := by decide +kernel
theorem dL_law_1920 : decode cL_law 1920 = .ok (.aload_n 2, 1) := by decide +kernel
theorem dL_law_1921 : decode cL_law 1921 = .ok (.invokevirtual 139, 3) := by decide +kernel
theorem dL_law_1924 : decode cL_law 1924 = .ok (.iload 6, 2) := by decide +kernel
theorem dL_law_1926 : decode cL_law 1926 = .ok (.if_icmp .eq 5, 3) := by decide +kernel
theorem dL_law_1929 : decode cL_law 1929 = .ok (.iconst 0, 1) := by decide +kernel
theorem dL_law_1930 : decode cL_law 1930 = .ok (.ireturn, 1) := by decide +kernel
theorem dL_law_1931 : decode cL_law 1931 = .ok (.iload 6, 2) := by decide +kernel
theorem dL_law_1933 : decode cL_law 1933 = .ok (.ifCond .ne 22, 3) := by decide +kernel
theorem dL_law_1936 : decode cL_law 1936 = .ok (.aload_n 3, 1) := by decide +kernel
theorem dL_law_1937 : decode cL_law 1937 = .ok (.iconst 0, 1) := by decide +kernel
theorem dL_law_1938 : decode cL_law 1938 = .ok (.laload, 1) := by decide +kernel
theorem dL_law_1939 : decode cL_law 1939 = .ok (.iload 7, 2) := by decide +kernel
theorem dL_law_1941 : decode cL_law 1941 = .ok (.ifCond .eq 7, 3) := by decide +kernel
theorem dL_law_1944 : decode cL_law 1944 = .ok (.lconst 1, 1) := by decide +kernel
theorem dL_law_1945 : decode cL_law 1945 = .ok (.goto 4, 3) := by decide +kernel
theorem dL_law_1948 : decode cL_law 1948 = .ok (.lconst 0, 1) := by decide +kernel
theorem dL_law_1949 : decode cL_law 1949 = .ok (.lcmp, 1) := by decide +kernel
theorem dL_law_1950 : decode cL_law 1950 = .ok (.ifCond .eq 5, 3) := by decide +kernel
theorem dL_law_1953 : decode cL_law 1953 = .ok (.iconst 0, 1) := by decide +kernel
theorem dL_law_1954 : decode cL_law 1954 = .ok (.ireturn, 1) := by decide +kernel
theorem dL_law_1955 : decode cL_law 1955 = .ok (.goto 335, 3) := by decide +kernel
theorem dL_law_1958 : decode cL_law 1958 = .ok (.aload_n 1, 1) := by decide +kernel
theorem dL_law_1959 : decode cL_law 1959 = .ok (.aload_n 0, 1) := by decide +kernel
theorem dL_law_1960 : decode cL_law 1960 = .ok (.iload 5, 2) := by decide +kernel
theorem dL_law_1962 : decode cL_law 1962 = .ok (.iconst 1, 1) := by decide +kernel
theorem dL_law_1963 : decode cL_law 1963 = .ok (.iadd, 1) := by decide +kernel
theorem dL_law_1964 : decode cL_law 1964 = .ok (.iaload, 1) := by decide +kernel
theorem dL_law_1965 : decode cL_law 1965 = .ok (.aload_n 3, 1) := by decide +kernel
theorem dL_law_1966 : decode cL_law 1966 = .ok (.invokestatic 250, 3) := by decide +kernel
theorem dL_law_1969 : decode cL_law 1969 = .ok (.istore 6, 2) := by decide +kernel
theorem dL_law_1971 : decode cL_law 1971 = .ok (.aload_n 2, 1) := by decide +kernel
theorem dL_law_1972 : decode cL_law 1972 = .ok (.aload_n 0, 1) := by decide +kernel
theorem dL_law_1973 : decode cL_law 1973 = .ok (.iload 5, 2) := by decide +kernel
theorem dL_law_1975 : decode cL_law 1975 = .ok (.iconst 1, 1) := by decide +kernel
theorem dL_law_1976 : decode cL_law 1976 = .ok (.iadd, 1) := by decide +kernel
theorem dL_law_1977 : decode cL_law 1977 = .ok (.iaload, 1) := by decide +kernel
theorem dL_law_1978 : decode cL_law 1978 = .ok (.invokevirtual 252, 3) := by decide +kernel
theorem dL_law_1981 : decode cL_law 1981 = .ok (.istore 7, 2) := by decide +kernel
theorem dL_law_1983 : decode cL_law 1983 = .ok (.aload_n 2, 1) := by decide +kernel
theorem dL_law_1984 : decode cL_law 1984 = .ok (.invokevirtual 139, 3) := by decide +kernel
theorem dL_law_1987 : decode cL_law 1987 = .ok (.iload 6, 2) := by decide +kernel
theorem dL_law_1989 : decode cL_law 1989 = .ok (.if_icmp .eq 5, 3) := by decide +kernel
theorem dL_law_1992 : decode cL_law 1992 = .ok (.iconst 0, 1) := by decide +kernel
theorem dL_law_1993 : decode cL_law 1993 = .ok (.ireturn, 1) := by decide +kernel
theorem dL_law_1994 : decode cL_law 1994 = .ok (.iload 6, 2) := by decide +kernel
theorem dL_law_1996 : decode cL_law 1996 = .ok (.ifCond .ne 22, 3) := by decide +kernel
theorem dL_law_1999 : decode cL_law 1999 = .ok (.aload_n 3, 1) := by decide +kernel
theorem dL_law_2000 : decode cL_law 2000 = .ok (.iconst 0, 1) := by decide +kernel
theorem dL_law_2001 : decode cL_law 2001 = .ok (.laload, 1) := by decide +kernel
theorem dL_law_2002 : decode cL_law 2002 = .ok (.iload 7, 2) := by decide +kernel
theorem dL_law_2004 : decode cL_law 2004 = .ok (.ifCond .eq 7, 3) := by decide +kernel
theorem dL_law_2007 : decode cL_law 2007 = .ok (.lconst 1, 1) := by decide +kernel
theorem dL_law_2008 : decode cL_law 2008 = .ok (.goto 4, 3) := by decide +kernel
theorem dL_law_2011 : decode cL_law 2011 = .ok (.lconst 0, 1) := by decide +kernel
theorem dL_law_2012 : decode cL_law 2012 = .ok (.lcmp, 1) := by decide +kernel
theorem dL_law_2013 : decode cL_law 2013 = .ok (.ifCond .eq 5, 3) := by decide +kernel
theorem dL_law_2016 : decode cL_law 2016 = .ok (.iconst 0, 1) := by decide +kernel
theorem dL_law_2017 : decode cL_law 2017 = .ok (.ireturn, 1) := by decide +kernel
theorem dL_law_2018 : decode cL_law 2018 = .ok (.goto 272, 3) := by decide +kernel
theorem dL_law_2021 : decode cL_law 2021 = .ok (.aload_n 1, 1) := by decide +kernel
theorem dL_law_2022 : decode cL_law 2022 = .ok (.aload_n 0, 1) := by decide +kernel
theorem dL_law_2023 : decode cL_law 2023 = .ok (.iload 5, 2) := by decide +kernel
theorem dL_law_2025 : decode cL_law 2025 = .ok (.iconst 1, 1) := by decide +kernel
theorem dL_law_2026 : decode cL_law 2026 = .ok (.iadd, 1) := by decide +kernel
theorem dL_law_2027 : decode cL_law 2027 = .ok (.iaload, 1) := by decide +kernel
theorem dL_law_2028 : decode cL_law 2028 = .ok (.aload_n 0, 1) := by decide +kernel
theorem dL_law_2029 : decode cL_law 2029 = .ok (.iload 5, 2) := by decide +kernel
theorem dL_law_2031 : decode cL_law 2031 = .ok (.iconst 2, 1) := by decide +kernel
theorem dL_law_2032 : decode cL_law 2032 = .ok (.iadd, 1) := by decide +kernel
theorem dL_law_2033 : decode cL_law 2033 = .ok (.iaload, 1) := by decide +kernel
theorem dL_law_2034 : decode cL_law 2034 = .ok (.aload_n 3, 1) := by decide +kernel
theorem dL_law_2035 : decode cL_law 2035 = .ok (.invokestatic 253, 3) := by decide +kernel
theorem dL_law_2038 : decode cL_law 2038 = .ok (.istore 6, 2) := by decide +kernel
theorem dL_law_2040 : decode cL_law 2040 = .ok (.aload_n 2, 1) := by decide +kernel
theorem dL_law_2041 : decode cL_law 2041 = .ok (.aload_n 0, 1) := by decide +kernel
theorem dL_law_2042 : decode cL_law 2042 = .ok (.iload 5, 2) := by decide +kernel
theorem dL_law_2044 : decode cL_law 2044 = .ok (.iconst 1, 1) := by decide +kernel
end
section
theorem dL_law_2045 : decode cL_law 2045 = .ok (.iadd, 1) := by decide +kernel
theorem dL_law_2046 : decode cL_law 2046 = .ok (.iaload, 1) := by decide +kernel
theorem dL_law_2047 : decode cL_law 2047 = .ok (.aload_n 0, 1) := by decide +kernel
theorem dL_law_2048 : decode cL_law 2048 = .ok (.iload 5, 2) := by decide +kernel
theorem dL_law_2050 : decode cL_law 2050 = .ok (.iconst 2, 1) := by decide +kernel
theorem dL_law_2051 : decode cL_law 2051 = .ok (.iadd, 1) := by decide +kernel
theorem dL_law_2052 : decode cL_law 2052 = .ok (.iaload, 1) := by decide +kernel
theorem dL_law_2053 : decode cL_law 2053 = .ok (.invokevirtual 255, 3) := by decide +kernel
theorem dL_law_2056 : decode cL_law 2056 = .ok (.istore 7, 2) := by decide +kernel
theorem dL_law_2058 : decode cL_law 2058 = .ok (.aload_n 2, 1) := by decide +kernel
theorem dL_law_2059 : decode cL_law 2059 = .ok (.invokevirtual 139, 3) := by decide +kernel
theorem dL_law_2062 : decode cL_law 2062 = .ok (.iload 6, 2) := by decide +kernel
theorem dL_law_2064 : decode cL_law 2064 = .ok (.if_icmp .eq 5, 3) := by decide +kernel
theorem dL_law_2067 : decode cL_law 2067 = .ok (.iconst 0, 1) := by decide +kernel
theorem dL_law_2068 : decode cL_law 2068 = .ok (.ireturn, 1) := by decide +kernel
theorem dL_law_2069 : decode cL_law 2069 = .ok (.iload 6, 2) := by decide +kernel
theorem dL_law_2071 : decode cL_law 2071 = .ok (.ifCond .ne 15, 3) := by decide +kernel
theorem dL_law_2074 : decode cL_law 2074 = .ok (.aload_n 3, 1) := by decide +kernel
theorem dL_law_2075 : decode cL_law 2075 = .ok (.iconst 0, 1) := by decide +kernel
theorem dL_law_2076 : decode cL_law 2076 = .ok (.laload, 1) := by decide +kernel
theorem dL_law_2077 : decode cL_law 2077 = .ok (.iload 7, 2) := by decide +kernel
theorem dL_law_2079 : decode cL_law 2079 = .ok (.i2l, 1) := by decide +kernel
theorem dL_law_2080 : decode cL_law 2080 = .ok (.lcmp, 1) := by decide +kernel
theorem dL_law_2081 : decode cL_law 2081 = .ok (.ifCond .eq 5, 3) := by decide +kernel
theorem dL_law_2084 : decode cL_law 2084 = .ok (.iconst 0, 1) := by decide +kernel
theorem dL_law_2085 : decode cL_law 2085 = .ok (.ireturn, 1) := by decide +kernel
theorem dL_law_2086 : decode cL_law 2086 = .ok (.goto 204, 3) := by decide +kernel
theorem dL_law_2089 : decode cL_law 2089 = .ok (.aload_n 1, 1) := by decide +kernel
theorem dL_law_2090 : decode cL_law 2090 = .ok (.aload_n 0, 1) := by decide +kernel
theorem dL_law_2091 : decode cL_law 2091 = .ok (.iload 5, 2) := by decide +kernel
theorem dL_law_2093 : decode cL_law 2093 = .ok (.iconst 1, 1) := by decide +kernel
theorem dL_law_2094 : decode cL_law 2094 = .ok (.iadd, 1) := by decide +kernel
theorem dL_law_2095 : decode cL_law 2095 = .ok (.iaload, 1) := by decide +kernel
theorem dL_law_2096 : decode cL_law 2096 = .ok (.aload_n 3, 1) := by decide +kernel
theorem dL_law_2097 : decode cL_law 2097 = .ok (.invokestatic 256, 3) := by decide +kernel
theorem dL_law_2100 : decode cL_law 2100 = .ok (.istore 6, 2) := by decide +kernel
theorem dL_law_2102 : decode cL_law 2102 = .ok (.aload_n 2, 1) := by decide +kernel
theorem dL_law_2103 : decode cL_law 2103 = .ok (.aload_n 0, 1) := by decide +kernel
theorem dL_law_2104 : decode cL_law 2104 = .ok (.iload 5, 2) := by decide +kernel
theorem dL_law_2106 : decode cL_law 2106 = .ok (.iconst 1, 1) := by decide +kernel
theorem dL_law_2107 : decode cL_law 2107 = .ok (.iadd, 1) := by decide +kernel
theorem dL_law_2108 : decode cL_law 2108 = .ok (.iaload, 1) := by decide +kernel
theorem dL_law_2109 : decode cL_law 2109 = .ok (.invokevirtual 258, 3) := by decide +kernel
theorem dL_law_2112 : decode cL_law 2112 = .ok (.istore 7, 2) := by decide +kernel
theorem dL_law_2114 : decode cL_law 2114 = .ok (.aload_n 2, 1) := by decide +kernel
theorem dL_law_2115 : decode cL_law 2115 = .ok (.invokevirtual 139, 3) := by decide +kernel
theorem dL_law_2118 : decode cL_law 2118 = .ok (.iload 6, 2) := by decide +kernel
theorem dL_law_2120 : decode cL_law 2120 = .ok (.if_icmp .eq 5, 3) := by decide +kernel
theorem dL_law_2123 : decode cL_law 2123 = .ok (.iconst 0, 1) := by decide +kernel
theorem dL_law_2124 : decode cL_law 2124 = .ok (.ireturn, 1) := by decide +kernel
theorem dL_law_2125 : decode cL_law 2125 = .ok (.iload 6, 2) := by decide +kernel
theorem dL_law_2127 : decode cL_law 2127 = .ok (.ifCond .ne 15, 3) := by decide +kernel
theorem dL_law_2130 : decode cL_law 2130 = .ok (.aload_n 3, 1) := by decide +kernel
theorem dL_law_2131 : decode cL_law 2131 = .ok (.iconst 0, 1) := by decide +kernel
theorem dL_law_2132 : decode cL_law 2132 = .ok (.laload, 1) := by decide +kernel
theorem dL_law_2133 : decode cL_law 2133 = .ok (.iload 7, 2) := by decide +kernel
theorem dL_law_2135 : decode cL_law 2135 = .ok (.i2l, 1) := by decide +kernel
theorem dL_law_2136 : decode cL_law 2136 = .ok (.lcmp, 1) := by decide +kernel
theorem dL_law_2137 : decode cL_law 2137 = .ok (.ifCond .eq 5, 3) := by decide +kernel
theorem dL_law_2140 : decode cL_law 2140 = .ok (.iconst 0, 1) := by decide +kernel
theorem dL_law_2141 : decode cL_law 2141 = .ok (.ireturn, 1) := by decide +kernel
theorem dL_law_2142 : decode cL_law 2142 = .ok (.goto 148, 3) := by decide +kernel
theorem dL_law_2145 : decode cL_law 2145 = .ok (.aload_n 1, 1) := by decide +kernel
theorem dL_law_2146 : decode cL_law 2146 = .ok (.invokevirtual 259, 3) := by decide +kernel
theorem dL_law_2149 : decode cL_law 2149 = .ok (.aload_n 2, 1) := by decide +kernel
theorem dL_law_2150 : decode cL_law 2150 = .ok (.invokevirtual 263, 3) := by decide +kernel
theorem dL_law_2153 : decode cL_law 2153 = .ok (.lcmp, 1) := by decide +kernel
theorem dL_law_2154 : decode cL_law 2154 = .ok (.ifCond .eq 136, 3) := by decide +kernel
theorem dL_law_2157 : decode cL_law 2157 = .ok (.iconst 0, 1) := by decide +kernel
theorem dL_law_2158 : decode cL_law 2158 = .ok (.ireturn, 1) := by decide +kernel
theorem dL_law_2159 : decode cL_law 2159 = .ok (.aload_n 1, 1) := by decide +kernel
theorem dL_law_2160 : decode cL_law 2160 = .ok (.aload 4, 2) := by decide +kernel
theorem dL_law_2162 : decode cL_law 2162 = .ok (.invokestatic 264, 3) := by decide +kernel
theorem dL_law_2165 : decode cL_law 2165 = .ok (.istore 6, 2) := by decide +kernel
theorem dL_law_2167 : decode cL_law 2167 = .ok (.aload_n 2, 1) := by decide +kernel
theorem dL_law_2168 : decode cL_law 2168 = .ok (.invokevirtual 267, 3) := by decide +kernel
theorem dL_law_2171 : decode cL_law 2171 = .ok (.fstore 7, 2) := by decide +kernel
theorem dL_law_2173 : decode cL_law 2173 = .ok (.aload_n 2, 1) := by decide +kernel
theorem dL_law_2174 : decode cL_law 2174 = .ok (.invokevirtual 139, 3) := by decide +kernel
theorem dL_law_2177 : decode cL_law 2177 = .ok (.iload 6, 2) := by decide +kernel
theorem dL_law_2179 : decode cL_law 2179 = .ok (.if_icmp .eq 5, 3) := by decide +kernel
theorem dL_law_2182 : decode cL_law 2182 = .ok (.iconst 0, 1) := by decide +kernel
theorem dL_law_2183 : decode cL_law 2183 = .ok (.ireturn, 1) := by decide +kernel
theorem dL_law_2184 : decode cL_law 2184 = .ok (.iload 6, 2) := by decide +kernel
theorem dL_law_2186 : decode cL_law 2186 = .ok (.ifCond .ne 36, 3) := by decide +kernel
theorem dL_law_2189 : decode cL_law 2189 = .ok (.aload 4, 2) := by decide +kernel
theorem dL_law_2191 : decode cL_law 2191 = .ok (.iconst 0, 1) := by decide +kernel
theorem dL_law_2192 : decode cL_law 2192 = .ok (.daload, 1) := by decide +kernel
theorem dL_law_2193 : decode cL_law 2193 = .ok (.fload 7, 2) := by decide +kernel
theorem dL_law_2195 : decode cL_law 2195 = .ok (.f2d, 1) := by decide +kernel
theorem dL_law_2196 : decode cL_law 2196 = .ok (.dcmp .l, 1) := by decide +kernel
theorem dL_law_2197 : decode cL_law 2197 = .ok (.ifCond .eq 25, 3) := by decide +kernel
theorem dL_law_2200 : decode cL_law 2200 = .ok (.aload 4, 2) := by decide +kernel
theorem dL_law_2202 : decode cL_law 2202 = .ok (.iconst 0, 1) := by decide +kernel
theorem dL_law_2203 : decode cL_law 2203 = .ok (.daload, 1) := by decide +kernel
theorem dL_law_2204 : decode cL_law 2204 = .ok (.aload 4, 2) := by decide +kernel
theorem dL_law_2206 : decode cL_law 2206 = .ok (.iconst 0, 1) := by decide +kernel
theorem dL_law_2207 : decode cL_law 2207 = .ok (.daload, 1) := by decide +kernel
theorem dL_law_2208 : decode cL_law 2208 = .ok (.dcmp .l, 1) := by decide +kernel
theorem dL_law_2209 : decode cL_law 2209 = .ok (.ifCond .eq 11, 3) := by decide +kernel
theorem dL_law_2212 : decode cL_law 2212 = .ok (.fload 7, 2) := by decide +kernel
theorem dL_law_2214 : decode cL_law 2214 = .ok (.fload 7, 2) := by decide +kernel
theorem dL_law_2216 : decode cL_law 2216 = .ok (.fcmp .l, 1) := by decide +kernel
theorem dL_law_2217 : decode cL_law 2217 = .ok (.ifCond .ne 5, 3) := by decide +kernel
theorem dL_law_2220 : decode cL_law 2220 = .ok (.iconst 0, 1) := by decide +kernel
theorem dL_law_2221 : decode cL_law 2221 = .ok (.ireturn, 1) := by decide +kernel
theorem dL_law_2222 : decode cL_law 2222 = .ok (.goto 68, 3) := by decide +kernel
theorem dL_law_2225 : decode cL_law 2225 = .ok (.aload_n 1, 1) := by decide +kernel
theorem dL_law_2226 : decode cL_law 2226 = .ok (.aload 4, 2) := by decide +kernel
theorem dL_law_2228 : decode cL_law 2228 = .ok (.invokestatic 268, 3) := by decide +kernel
theorem dL_law_2231 : decode cL_law 2231 = .ok (.istore 6, 2) := by decide +kernel
theorem dL_law_2233 : decode cL_law 2233 = .ok (.aload_n 2, 1) := by decide +kernel
theorem dL_law_2234 : decode cL_law 2234 = .ok (.invokevirtual 270, 3) := by decide +kernel
theorem dL_law_2237 : decode cL_law 2237 = .ok (.dstore 7, 2) := by decide +kernel
theorem dL_law_2239 : decode cL_law 2239 = .ok (.aload_n 2, 1) := by decide +kernel
theorem dL_law_2240 : decode cL_law 2240 = .ok (.invokevirtual 139, 3) := by decide +kernel
theorem dL_law_2243 : decode cL_law 2243 = .ok (.iload 6, 2) := by decide +kernel
theorem dL_law_2245 : decode cL_law 2245 = .ok (.if_icmp .eq 5, 3) := by decide +kernel
theorem dL_law_2248 : decode cL_law 2248 = .ok (.iconst 0, 1) := by decide +kernel
theorem dL_law_2249 : decode cL_law 2249 = .ok (.ireturn, 1) := by decide +kernel
theorem dL_law_2250 : decode cL_law 2250 = .ok (.iload 6, 2) := by decide +kernel
theorem dL_law_2252 : decode cL_law 2252 = .ok (.ifCond .ne 35, 3) := by decide +kernel
theorem dL_law_2255 : decode cL_law 2255 = .ok (.aload 4, 2) := by decide +kernel
theorem dL_law_2257 : decode cL_law 2257 = .ok (.iconst 0, 1) := by decide +kernel
theorem dL_law_2258 : decode cL_law 2258 = .ok (.daload, 1) := by decide +kernel
theorem dL_law_2259 : decode cL_law 2259 = .ok (.dload 7, 2) := by decide +kernel
theorem dL_law_2261 : decode cL_law 2261 = .ok (.dcmp .l, 1) := by decide +kernel
theorem dL_law_2262 : decode cL_law 2262 = .ok (.ifCond .eq 25, 3) := by decide +kernel
theorem dL_law_2265 : decode cL_law 2265 = .ok (.aload 4, 2) := by decide +kernel
theorem dL_law_2267 : decode cL_law 2267 = .ok (.iconst 0, 1) := by decide +kernel
theorem dL_law_2268 : decode cL_law 2268 = .ok (.daload, 1) := by decide +kernel
theorem dL_law_2269 : decode cL_law 2269 = .ok (.aload 4, 2) := by decide +kernel
theorem dL_law_2271 : decode cL_law 2271 = .ok (.iconst 0, 1) := by decide +kernel
theorem dL_law_2272 : decode cL_law 2272 = .ok (.daload, 1) := by decide +kernel
theorem dL_law_2273 : decode cL_law 2273 = .ok (.dcmp .l, 1) := by decide +kernel
theorem dL_law_2274 : decode cL_law 2274 = .ok (.ifCond .eq 11, 3) := by decide +kernel
theorem dL_law_2277 : decode cL_law 2277 = .ok (.dload 7, 2) := by decide +kernel
theorem dL_law_2279 : decode cL_law 2279 = .ok (.dload 7, 2) := by decide +kernel
theorem dL_law_2281 : decode cL_law 2281 = .ok (.dcmp .l, 1) := by decide +kernel
theorem dL_law_2282 : decode cL_law 2282 = .ok (.ifCond .ne 5, 3) := by decide +kernel
theorem dL_law_2285 : decode cL_law 2285 = .ok (.iconst 0, 1) := by decide +kernel
theorem dL_law_2286 : decode cL_law 2286 = .ok (.ireturn, 1) := by decide +kernel
theorem dL_law_2287 : decode cL_law 2287 = .ok (.goto 3, 3) := by decide +kernel
theorem dL_law_2290 : decode cL_law 2290 = .ok (.iinc 5 4, 3) := by decide +kernel
theorem dL_law_2293 : decode cL_law 2293 = .ok (.goto (-2265), 3) := by decide +kernel
theorem dL_law_2296 : decode cL_law 2296 = .ok (.iconst 1, 1) := by decide +kernel
theorem dL_law_2297 : decode cL_law 2297 = .ok (.ireturn, 1) := by decide +kernel
end
