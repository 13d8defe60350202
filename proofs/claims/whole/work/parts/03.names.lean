def RX0 : String := "SkeinMarket$Bid"
def TX0 : u_T := fun k => match k with
  | 0 => ("SkeinMarket$Bid", "bidder", "I", true)
  | 1 => ("SkeinMarket$Bid", "wishes", "Ljava/util/ArrayList;", true)
  | 2 => ("SkeinMarket$Bid", "price", "I", false)
  | 3 => ("SkeinMarket$Bid", "state", "C", false)
  | 4 => ("SkeinMarket$Bid", "lossReason", "C", false)
  | 5 => ("SkeinMarket$Bid", "winner", "I", false)
  | _ => ("SkeinMarket$Bid", "dues", "I", false)
def tyX0 : Nat → FieldType := fun k => match k with
  | 0 => .int
  | 1 => .object "java/util/ArrayList"
  | 2 => .int
  | 3 => .char
  | 4 => .char
  | 5 => .int
  | _ => .int
abbrev wsX00 : List Cond := u_ws RX0 TX0 7
theorem nmX0 : ∀ a, a < 7 → ∀ b, b < 7 → a ≠ b → (TX0 a).2.1 ≠ (TX0 b).2.1 := by decide +kernel
theorem tyX0_ok : ∀ k, k < 7 → parseFieldDescriptor (TX0 k).2.2.1 = some (tyX0 k) := by decide +kernel
abbrev cX0_init : ByteArray := prog_2_method_1_code
def yX0_init : MethodName := ⟨RX0, "<init>", "(II)V"⟩
def RX1 : String := "SkeinMarket$Floor"
def TX1 : u_T := fun k => match k with
  | 0 => ("SkeinMarket$Floor", "lotNumbers", "[I", true)
  | 1 => ("SkeinMarket$Floor", "reserves", "[I", true)
  | 2 => ("SkeinMarket$Floor", "reserveSums", "[I", true)
  | 3 => ("SkeinMarket$Floor", "bidNumbers", "[I", true)
  | 4 => ("SkeinMarket$Floor", "bidders", "[I", true)
  | 5 => ("SkeinMarket$Floor", "prices", "[I", true)
  | 6 => ("SkeinMarket$Floor", "itemCounts", "[I", true)
  | 7 => ("SkeinMarket$Floor", "fittingLots", "[I", true)
  | 8 => ("SkeinMarket$Floor", "queue", "[I", true)
  | 9 => ("SkeinMarket$Floor", "restCosts", "[I", true)
  | 10 => ("SkeinMarket$Floor", "givenPlaces", "[I", true)
  | 11 => ("SkeinMarket$Floor", "lotCount", "I", false)
  | 12 => ("SkeinMarket$Floor", "bidCount", "I", false)
  | _ => ("SkeinMarket$Floor", "queueLength", "I", false)
def tyX1 : Nat → FieldType := fun k => match k with
  | 0 => .array .int
  | 1 => .array .int
  | 2 => .array .int
  | 3 => .array .int
  | 4 => .array .int
  | 5 => .array .int
  | 6 => .array .int
  | 7 => .array .int
  | 8 => .array .int
  | 9 => .array .int
  | 10 => .array .int
  | 11 => .int
  | 12 => .int
  | _ => .int
abbrev wsX10 : List Cond := u_ws RX1 TX1 14
theorem nmX1 : ∀ a, a < 14 → ∀ b, b < 14 → a ≠ b → (TX1 a).2.1 ≠ (TX1 b).2.1 := by decide +kernel
theorem tyX1_ok : ∀ k, k < 14 → parseFieldDescriptor (TX1 k).2.2.1 = some (tyX1 k) := by decide +kernel
abbrev cX1_init : ByteArray := prog_3_method_1_code
def yX1_init : MethodName := ⟨RX1, "<init>", "()V"⟩
abbrev cX1_clearAll : ByteArray := prog_3_method_2_code
def yX1_clearAll : MethodName := ⟨RX1, "clearAll", "()V"⟩
abbrev cX1_addLot : ByteArray := prog_3_method_3_code
def yX1_addLot : MethodName := ⟨RX1, "addLot", "(II)V"⟩
abbrev cX1_addBid : ByteArray := prog_3_method_4_code
def yX1_addBid : MethodName := ⟨RX1, "addBid", "(III)V"⟩
abbrev cX1_addItem : ByteArray := prog_3_method_5_code
def yX1_addItem : MethodName := ⟨RX1, "addItem", "(I)V"⟩
abbrev cX1_placeOf : ByteArray := prog_3_method_6_code
def yX1_placeOf : MethodName := ⟨RX1, "placeOf", "(I)I"⟩
abbrev cX1_setOf : ByteArray := prog_3_method_7_code
def yX1_setOf : MethodName := ⟨RX1, "setOf", "(I)I"⟩
abbrev cX1_bidOfBidderIn : ByteArray := prog_3_method_8_code
def yX1_bidOfBidderIn : MethodName := ⟨RX1, "bidOfBidderIn", "(II)I"⟩
abbrev cX1_hasOneBidPerBidder : ByteArray := prog_3_method_9_code
def yX1_hasOneBidPerBidder : MethodName := ⟨RX1, "hasOneBidPerBidder", "(I)Z"⟩
abbrev cX1_priceSum : ByteArray := prog_3_method_10_code
def yX1_priceSum : MethodName := ⟨RX1, "priceSum", "(I)I"⟩
abbrev cX1_leastCost : ByteArray := prog_3_method_11_code
def yX1_leastCost : MethodName := ⟨RX1, "leastCost", "(I)I"⟩
abbrev cX1_queueItems : ByteArray := prog_3_method_12_code
def yX1_queueItems : MethodName := ⟨RX1, "queueItems", "(I)Z"⟩
abbrev cX1_restCost : ByteArray := prog_3_method_13_code
def yX1_restCost : MethodName := ⟨RX1, "restCost", "(I)I"⟩
abbrev cX1_giveLots : ByteArray := prog_3_method_14_code
def yX1_giveLots : MethodName := ⟨RX1, "giveLots", "(I)V"⟩
abbrev cX1_firstCheapest : ByteArray := prog_3_method_15_code
def yX1_firstCheapest : MethodName := ⟨RX1, "firstCheapest", "(II)I"⟩
abbrev cX1_lotGiven : ByteArray := prog_3_method_16_code
def yX1_lotGiven : MethodName := ⟨RX1, "lotGiven", "(III)I"⟩
def RX2 : String := "SkeinMarket$Item"
def TX2 : u_T := fun k => match k with
  | 0 => ("SkeinMarket$Item", "fibre", "I", true)
  | 1 => ("SkeinMarket$Item", "grade", "C", true)
  | _ => ("SkeinMarket$Item", "lot", "I", false)
def tyX2 : Nat → FieldType := fun k => match k with
  | 0 => .int
  | 1 => .char
  | _ => .int
abbrev wsX20 : List Cond := u_ws RX2 TX2 3
theorem nmX2 : ∀ a, a < 3 → ∀ b, b < 3 → a ≠ b → (TX2 a).2.1 ≠ (TX2 b).2.1 := by decide +kernel
theorem tyX2_ok : ∀ k, k < 3 → parseFieldDescriptor (TX2 k).2.2.1 = some (tyX2 k) := by decide +kernel
abbrev cX2_init : ByteArray := prog_4_method_1_code
def yX2_init : MethodName := ⟨RX2, "<init>", "(IC)V"⟩
def RX3 : String := "SkeinMarket$Lot"
def TX3 : u_T := fun k => match k with
  | 0 => ("SkeinMarket$Lot", "fibre", "I", true)
  | 1 => ("SkeinMarket$Lot", "grade", "C", true)
  | 2 => ("SkeinMarket$Lot", "reserve", "I", true)
  | 3 => ("SkeinMarket$Lot", "state", "C", false)
  | _ => ("SkeinMarket$Lot", "buyer", "I", false)
def tyX3 : Nat → FieldType := fun k => match k with
  | 0 => .int
  | 1 => .char
  | 2 => .int
  | 3 => .char
  | _ => .int
abbrev wsX30 : List Cond := u_ws RX3 TX3 5
theorem nmX3 : ∀ a, a < 5 → ∀ b, b < 5 → a ≠ b → (TX3 a).2.1 ≠ (TX3 b).2.1 := by decide +kernel
theorem tyX3_ok : ∀ k, k < 5 → parseFieldDescriptor (TX3 k).2.2.1 = some (tyX3 k) := by decide +kernel
abbrev cX3_init : ByteArray := prog_5_method_1_code
def yX3_init : MethodName := ⟨RX3, "<init>", "(ICI)V"⟩
def RX4 : String := "SkeinMarket$Rule"
def TX4 : u_T := fun k => match k with
  | 0 => ("SkeinMarket$Rule", "fibre", "I", true)
  | 1 => ("SkeinMarket$Rule", "other", "I", true)
  | _ => ("SkeinMarket$Rule", "steps", "I", true)
def tyX4 : Nat → FieldType := fun k => match k with
  | 0 => .int
  | 1 => .int
  | _ => .int
abbrev wsX40 : List Cond := u_ws RX4 TX4 3
theorem nmX4 : ∀ a, a < 3 → ∀ b, b < 3 → a ≠ b → (TX4 a).2.1 ≠ (TX4 b).2.1 := by decide +kernel
theorem tyX4_ok : ∀ k, k < 3 → parseFieldDescriptor (TX4 k).2.2.1 = some (tyX4 k) := by decide +kernel
abbrev cX4_init : ByteArray := prog_6_method_1_code
def yX4_init : MethodName := ⟨RX4, "<init>", "(III)V"⟩
def RX5 : String := "SkeinMarket$Search"
def TX5 : u_T := fun k => match k with
  | 0 => ("SkeinMarket$Search", "canFill", "[Z", true)
  | 1 => ("SkeinMarket$Search", "worthTrying", "[Z", true)
  | 2 => ("SkeinMarket$Search", "hopes", "[I", true)
  | 3 => ("SkeinMarket$Search", "bestSet", "I", false)
  | _ => ("SkeinMarket$Search", "bestSurplus", "I", false)
def tyX5 : Nat → FieldType := fun k => match k with
  | 0 => .array .boolean
  | 1 => .array .boolean
  | 2 => .array .int
  | 3 => .int
  | _ => .int
abbrev wsX50 : List Cond := u_ws RX5 TX5 5
theorem nmX5 : ∀ a, a < 5 → ∀ b, b < 5 → a ≠ b → (TX5 a).2.1 ≠ (TX5 b).2.1 := by decide +kernel
theorem tyX5_ok : ∀ k, k < 5 → parseFieldDescriptor (TX5 k).2.2.1 = some (tyX5 k) := by decide +kernel
abbrev cX5_init : ByteArray := prog_7_method_1_code
def yX5_init : MethodName := ⟨RX5, "<init>", "()V"⟩
abbrev cX5_forgetBest : ByteArray := prog_7_method_2_code
def yX5_forgetBest : MethodName := ⟨RX5, "forgetBest", "()V"⟩
abbrev cX5_goThroughSets : ByteArray := prog_7_method_3_code
def yX5_goThroughSets : MethodName := ⟨RX5, "goThroughSets", "(LSkeinMarket$Floor;)V"⟩
abbrev cX5_compareWithBest : ByteArray := prog_7_method_4_code
def yX5_compareWithBest : MethodName := ⟨RX5, "compareWithBest", "(II)V"⟩
abbrev cX5_hasLowestOfDifferent : ByteArray := prog_7_method_5_code
def yX5_hasLowestOfDifferent : MethodName := ⟨RX5, "hasLowestOfDifferent", "(II)Z"⟩
abbrev cX5_findBest : ByteArray := prog_7_method_6_code
def yX5_findBest : MethodName := ⟨RX5, "findBest", "(LSkeinMarket$Floor;I)V"⟩
abbrev cX5_estimate : ByteArray := prog_7_method_7_code
def yX5_estimate : MethodName := ⟨RX5, "estimate", "(LSkeinMarket$Floor;I)V"⟩
abbrev cX5_branch : ByteArray := prog_7_method_8_code
def yX5_branch : MethodName := ⟨RX5, "branch", "(LSkeinMarket$Search;LSkeinMarket$Floor;IIIII)V"⟩
abbrev cX5_costWith : ByteArray := prog_7_method_9_code
def yX5_costWith : MethodName := ⟨RX5, "costWith", "(LSkeinMarket$Floor;II)I"⟩
abbrev cX5_fillWithItem : ByteArray := prog_7_method_10_code
def yX5_fillWithItem : MethodName := ⟨RX5, "fillWithItem", "(LSkeinMarket$Floor;II)V"⟩
abbrev cX5_canFillWithLast : ByteArray := prog_7_method_11_code
def yX5_canFillWithLast : MethodName := ⟨RX5, "canFillWithLast", "(LSkeinMarket$Floor;II)Z"⟩
abbrev cX5_leastFilled : ByteArray := prog_7_method_12_code
def yX5_leastFilled : MethodName := ⟨RX5, "leastFilled", "(LSkeinMarket$Floor;I)I"⟩
def RX6 : String := "SkeinMarket"
def TX6 : u_T := fun k => match k with
  | 0 => ("SkeinMarket", "allLots", "Ljava/util/ArrayList;", true)
  | 1 => ("SkeinMarket", "allBids", "Ljava/util/ArrayList;", true)
  | 2 => ("SkeinMarket", "rules", "Ljava/util/ArrayList;", true)
  | 3 => ("SkeinMarket", "floor", "LSkeinMarket$Floor;", true)
  | 4 => ("SkeinMarket", "search", "LSkeinMarket$Search;", true)
  | 5 => ("SkeinMarket", "openLotCount", "I", false)
  | 6 => ("SkeinMarket", "openBidCount", "I", false)
  | 7 => ("SkeinMarket", "soldCount", "I", false)
  | 8 => ("SkeinMarket", "wonCount", "I", false)
  | _ => ("SkeinMarket", "paidSum", "J", false)
def tyX6 : Nat → FieldType := fun k => match k with
  | 0 => .object "java/util/ArrayList"
  | 1 => .object "java/util/ArrayList"
  | 2 => .object "java/util/ArrayList"
  | 3 => .object "SkeinMarket$Floor"
  | 4 => .object "SkeinMarket$Search"
  | 5 => .int
  | 6 => .int
  | 7 => .int
  | 8 => .int
  | _ => .long
abbrev wsX60 : List Cond := u_ws RX6 TX6 10
theorem nmX6 : ∀ a, a < 10 → ∀ b, b < 10 → a ≠ b → (TX6 a).2.1 ≠ (TX6 b).2.1 := by decide +kernel
theorem tyX6_ok : ∀ k, k < 10 → parseFieldDescriptor (TX6 k).2.2.1 = some (tyX6 k) := by decide +kernel
abbrev cX6_init : ByteArray := prog_1_method_1_code
def yX6_init : MethodName := ⟨RX6, "<init>", "()V"⟩
abbrev cX6_offer : ByteArray := prog_1_method_2_code
def yX6_offer : MethodName := ⟨RX6, "offer", "(ICI)I"⟩
abbrev cX6_withdraw : ByteArray := prog_1_method_3_code
def yX6_withdraw : MethodName := ⟨RX6, "withdraw", "(I)I"⟩
abbrev cX6_allow : ByteArray := prog_1_method_4_code
def yX6_allow : MethodName := ⟨RX6, "allow", "(III)I"⟩
abbrev cX6_forbid : ByteArray := prog_1_method_5_code
def yX6_forbid : MethodName := ⟨RX6, "forbid", "()I"⟩
abbrev cX6_bid : ByteArray := prog_1_method_6_code
def yX6_bid : MethodName := ⟨RX6, "bid", "(II)I"⟩
abbrev cX6_ask : ByteArray := prog_1_method_7_code
def yX6_ask : MethodName := ⟨RX6, "ask", "(IIC)I"⟩
abbrev cX6_raise : ByteArray := prog_1_method_8_code
def yX6_raise : MethodName := ⟨RX6, "raise", "(II)I"⟩
abbrev cX6_cancel : ByteArray := prog_1_method_9_code
def yX6_cancel : MethodName := ⟨RX6, "cancel", "(I)I"⟩
abbrev cX6_close : ByteArray := prog_1_method_10_code
def yX6_close : MethodName := ⟨RX6, "close", "()I"⟩
abbrev cX6_lots : ByteArray := prog_1_method_11_code
def yX6_lots : MethodName := ⟨RX6, "lots", "()I"⟩
abbrev cX6_bids : ByteArray := prog_1_method_12_code
def yX6_bids : MethodName := ⟨RX6, "bids", "()I"⟩
abbrev cX6_openLots : ByteArray := prog_1_method_13_code
def yX6_openLots : MethodName := ⟨RX6, "openLots", "()I"⟩
abbrev cX6_openBids : ByteArray := prog_1_method_14_code
def yX6_openBids : MethodName := ⟨RX6, "openBids", "()I"⟩
abbrev cX6_fibreOf : ByteArray := prog_1_method_15_code
def yX6_fibreOf : MethodName := ⟨RX6, "fibreOf", "(I)I"⟩
abbrev cX6_gradeOf : ByteArray := prog_1_method_16_code
def yX6_gradeOf : MethodName := ⟨RX6, "gradeOf", "(I)C"⟩
abbrev cX6_reserveOf : ByteArray := prog_1_method_17_code
def yX6_reserveOf : MethodName := ⟨RX6, "reserveOf", "(I)I"⟩
abbrev cX6_lotState : ByteArray := prog_1_method_18_code
def yX6_lotState : MethodName := ⟨RX6, "lotState", "(I)C"⟩
abbrev cX6_soldTo : ByteArray := prog_1_method_19_code
def yX6_soldTo : MethodName := ⟨RX6, "soldTo", "(I)I"⟩
abbrev cX6_countOf : ByteArray := prog_1_method_20_code
def yX6_countOf : MethodName := ⟨RX6, "countOf", "(IC)I"⟩
abbrev cX6_items : ByteArray := prog_1_method_21_code
def yX6_items : MethodName := ⟨RX6, "items", "(I)I"⟩
abbrev cX6_fits : ByteArray := prog_1_method_22_code
def yX6_fits : MethodName := ⟨RX6, "fits", "(III)Z"⟩
abbrev cX6_fitting : ByteArray := prog_1_method_23_code
def yX6_fitting : MethodName := ⟨RX6, "fitting", "(II)I"⟩
abbrev cX6_priceOf : ByteArray := prog_1_method_24_code
def yX6_priceOf : MethodName := ⟨RX6, "priceOf", "(I)I"⟩
abbrev cX6_stateOf : ByteArray := prog_1_method_25_code
def yX6_stateOf : MethodName := ⟨RX6, "stateOf", "(I)C"⟩
abbrev cX6_reason : ByteArray := prog_1_method_26_code
def yX6_reason : MethodName := ⟨RX6, "reason", "(I)C"⟩
abbrev cX6_rival : ByteArray := prog_1_method_27_code
def yX6_rival : MethodName := ⟨RX6, "rival", "(I)I"⟩
abbrev cX6_lotOf : ByteArray := prog_1_method_28_code
def yX6_lotOf : MethodName := ⟨RX6, "lotOf", "(II)I"⟩
abbrev cX6_paid : ByteArray := prog_1_method_29_code
def yX6_paid : MethodName := ⟨RX6, "paid", "(I)I"⟩
abbrev cX6_costOf : ByteArray := prog_1_method_30_code
def yX6_costOf : MethodName := ⟨RX6, "costOf", "(I)I"⟩
abbrev cX6_surplus : ByteArray := prog_1_method_31_code
def yX6_surplus : MethodName := ⟨RX6, "surplus", "()I"⟩
abbrev cX6_surplusBySets : ByteArray := prog_1_method_32_code
def yX6_surplusBySets : MethodName := ⟨RX6, "surplusBySets", "()I"⟩
abbrev cX6_surplusWithout : ByteArray := prog_1_method_33_code
def yX6_surplusWithout : MethodName := ⟨RX6, "surplusWithout", "(I)I"⟩
abbrev cX6_wouldWin : ByteArray := prog_1_method_34_code
def yX6_wouldWin : MethodName := ⟨RX6, "wouldWin", "(I)Z"⟩
abbrev cX6_wouldWinBySets : ByteArray := prog_1_method_35_code
def yX6_wouldWinBySets : MethodName := ⟨RX6, "wouldWinBySets", "(I)Z"⟩
abbrev cX6_lotFor : ByteArray := prog_1_method_36_code
def yX6_lotFor : MethodName := ⟨RX6, "lotFor", "(II)I"⟩
abbrev cX6_payment : ByteArray := prog_1_method_37_code
def yX6_payment : MethodName := ⟨RX6, "payment", "(I)I"⟩
abbrev cX6_takings : ByteArray := prog_1_method_38_code
def yX6_takings : MethodName := ⟨RX6, "takings", "()J"⟩
abbrev cX6_soldShare : ByteArray := prog_1_method_39_code
def yX6_soldShare : MethodName := ⟨RX6, "soldShare", "()F"⟩
abbrev cX6_meanPaid : ByteArray := prog_1_method_40_code
def yX6_meanPaid : MethodName := ⟨RX6, "meanPaid", "()D"⟩
abbrev cX6_isFibre : ByteArray := prog_1_method_41_code
def yX6_isFibre : MethodName := ⟨RX6, "isFibre", "(I)Z"⟩
abbrev cX6_isGrade : ByteArray := prog_1_method_42_code
def yX6_isGrade : MethodName := ⟨RX6, "isGrade", "(C)Z"⟩
abbrev cX6_isBidder : ByteArray := prog_1_method_43_code
def yX6_isBidder : MethodName := ⟨RX6, "isBidder", "(I)Z"⟩
abbrev cX6_isLot : ByteArray := prog_1_method_44_code
def yX6_isLot : MethodName := ⟨RX6, "isLot", "(I)Z"⟩
abbrev cX6_isBid : ByteArray := prog_1_method_45_code
def yX6_isBid : MethodName := ⟨RX6, "isBid", "(I)Z"⟩
abbrev cX6_knownLot : ByteArray := prog_1_method_46_code
def yX6_knownLot : MethodName := ⟨RX6, "knownLot", "(I)LSkeinMarket$Lot;"⟩
abbrev cX6_knownBid : ByteArray := prog_1_method_47_code
def yX6_knownBid : MethodName := ⟨RX6, "knownBid", "(I)LSkeinMarket$Bid;"⟩
abbrev cX6_knownOpenBid : ByteArray := prog_1_method_48_code
def yX6_knownOpenBid : MethodName := ⟨RX6, "knownOpenBid", "(I)LSkeinMarket$Bid;"⟩
abbrev cX6_knownItem : ByteArray := prog_1_method_49_code
def yX6_knownItem : MethodName := ⟨RX6, "knownItem", "(LSkeinMarket$Bid;I)LSkeinMarket$Item;"⟩
abbrev cX6_isFit : ByteArray := prog_1_method_50_code
def yX6_isFit : MethodName := ⟨RX6, "isFit", "(LSkeinMarket$Lot;LSkeinMarket$Item;)Z"⟩
abbrev cX6_fillFloor : ByteArray := prog_1_method_51_code
def yX6_fillFloor : MethodName := ⟨RX6, "fillFloor", "()V"⟩
abbrev cX6_addItemsToFloor : ByteArray := prog_1_method_52_code
def yX6_addItemsToFloor : MethodName := ⟨RX6, "addItemsToFloor", "(LSkeinMarket$Bid;)V"⟩
abbrev cX6_fittingOnFloor : ByteArray := prog_1_method_53_code
def yX6_fittingOnFloor : MethodName := ⟨RX6, "fittingOnFloor", "(LSkeinMarket$Item;)I"⟩
abbrev cX6_isInBestSet : ByteArray := prog_1_method_54_code
def yX6_isInBestSet : MethodName := ⟨RX6, "isInBestSet", "(I)Z"⟩
abbrev cX6_settlePayments : ByteArray := prog_1_method_55_code
def yX6_settlePayments : MethodName := ⟨RX6, "settlePayments", "(II)V"⟩
abbrev cX6_handOutLots : ByteArray := prog_1_method_56_code
def yX6_handOutLots : MethodName := ⟨RX6, "handOutLots", "(I)I"⟩
abbrev cX6_handOutLotsTo : ByteArray := prog_1_method_57_code
def yX6_handOutLotsTo : MethodName := ⟨RX6, "handOutLotsTo", "(II)I"⟩
abbrev cX6_settleLosers : ByteArray := prog_1_method_58_code
def yX6_settleLosers : MethodName := ⟨RX6, "settleLosers", "(I)V"⟩
abbrev cX6_reasonToLose : ByteArray := prog_1_method_59_code
def yX6_reasonToLose : MethodName := ⟨RX6, "reasonToLose", "(LSkeinMarket$Bid;I)C"⟩
def RX7 : String := "SkeinMarketModel"
def TX7 : u_T := fun k => match k with
  | 0 => ("SkeinMarketModel", "thrown", "I", false)
  | 1 => ("SkeinMarketModel", "lots", "I", false)
  | 2 => ("SkeinMarketModel", "bids", "I", false)
  | 3 => ("SkeinMarketModel", "rules", "I", false)
  | 4 => ("SkeinMarketModel", "openLots", "I", false)
  | 5 => ("SkeinMarketModel", "openBids", "I", false)
  | 6 => ("SkeinMarketModel", "takings", "J", false)
  | 7 => ("SkeinMarketModel", "fibre", "[I", true)
  | 8 => ("SkeinMarketModel", "grade", "[I", true)
  | 9 => ("SkeinMarketModel", "reserve", "[I", true)
  | 10 => ("SkeinMarketModel", "buyer", "[I", true)
  | 11 => ("SkeinMarketModel", "lotState", "[C", true)
  | 12 => ("SkeinMarketModel", "state", "[C", true)
  | 13 => ("SkeinMarketModel", "reason", "[C", true)
  | 14 => ("SkeinMarketModel", "bidder", "[I", true)
  | 15 => ("SkeinMarketModel", "price", "[I", true)
  | 16 => ("SkeinMarketModel", "items", "[I", true)
  | 17 => ("SkeinMarketModel", "askFibre", "[I", true)
  | 18 => ("SkeinMarketModel", "askGrade", "[I", true)
  | 19 => ("SkeinMarketModel", "got", "[I", true)
  | 20 => ("SkeinMarketModel", "paid", "[I", true)
  | 21 => ("SkeinMarketModel", "rival", "[I", true)
  | 22 => ("SkeinMarketModel", "ruleFibre", "[I", true)
  | 23 => ("SkeinMarketModel", "ruleOther", "[I", true)
  | 24 => ("SkeinMarketModel", "ruleSteps", "[I", true)
  | 25 => ("SkeinMarketModel", "lotAt", "[I", true)
  | 26 => ("SkeinMarketModel", "bidAt", "[I", true)
  | 27 => ("SkeinMarketModel", "value", "[I", true)
  | 28 => ("SkeinMarketModel", "costs", "[I", true)
  | 29 => ("SkeinMarketModel", "row", "[I", true)
  | 30 => ("SkeinMarketModel", "ahead", "[I", true)
  | 31 => ("SkeinMarketModel", "want", "[I", true)
  | _ => ("SkeinMarketModel", "give", "[I", true)
def tyX7 : Nat → FieldType := fun k => match k with
  | 0 => .int
  | 1 => .int
  | 2 => .int
  | 3 => .int
  | 4 => .int
  | 5 => .int
  | 6 => .long
  | 7 => .array .int
  | 8 => .array .int
  | 9 => .array .int
  | 10 => .array .int
  | 11 => .array .char
  | 12 => .array .char
  | 13 => .array .char
  | 14 => .array .int
  | 15 => .array .int
  | 16 => .array .int
  | 17 => .array .int
  | 18 => .array .int
  | 19 => .array .int
  | 20 => .array .int
  | 21 => .array .int
  | 22 => .array .int
  | 23 => .array .int
  | 24 => .array .int
  | 25 => .array .int
  | 26 => .array .int
  | 27 => .array .int
  | 28 => .array .int
  | 29 => .array .int
  | 30 => .array .int
  | 31 => .array .int
  | _ => .array .int
abbrev wsX70 : List Cond := u_ws RX7 TX7 33
theorem nmX7 : ∀ a, a < 33 → ∀ b, b < 33 → a ≠ b → (TX7 a).2.1 ≠ (TX7 b).2.1 := by decide +kernel
theorem tyX7_ok : ∀ k, k < 33 → parseFieldDescriptor (TX7 k).2.2.1 = some (tyX7 k) := by decide +kernel
abbrev cX7_init : ByteArray := prog_9_method_1_code
def yX7_init : MethodName := ⟨RX7, "<init>", "()V"⟩
abbrev cX7_thrown : ByteArray := prog_9_method_2_code
def yX7_thrown : MethodName := ⟨RX7, "thrown", "()I"⟩
abbrev cX7_fail : ByteArray := prog_9_method_3_code
def yX7_fail : MethodName := ⟨RX7, "fail", "(I)I"⟩
abbrev cX7_isIn : ByteArray := prog_9_method_4_code
def yX7_isIn : MethodName := ⟨RX7, "isIn", "(III)Z"⟩
abbrev cX7_isGrade : ByteArray := prog_9_method_5_code
def yX7_isGrade : MethodName := ⟨RX7, "isGrade", "(C)Z"⟩
abbrev cX7_isLot : ByteArray := prog_9_method_6_code
def yX7_isLot : MethodName := ⟨RX7, "isLot", "(I)Z"⟩
abbrev cX7_isBid : ByteArray := prog_9_method_7_code
def yX7_isBid : MethodName := ⟨RX7, "isBid", "(I)Z"⟩
abbrev cX7_offer : ByteArray := prog_9_method_8_code
def yX7_offer : MethodName := ⟨RX7, "offer", "(ICI)I"⟩
abbrev cX7_withdraw : ByteArray := prog_9_method_9_code
def yX7_withdraw : MethodName := ⟨RX7, "withdraw", "(I)I"⟩
abbrev cX7_allow : ByteArray := prog_9_method_10_code
def yX7_allow : MethodName := ⟨RX7, "allow", "(III)I"⟩
abbrev cX7_forbid : ByteArray := prog_9_method_11_code
def yX7_forbid : MethodName := ⟨RX7, "forbid", "()I"⟩
abbrev cX7_bid : ByteArray := prog_9_method_12_code
def yX7_bid : MethodName := ⟨RX7, "bid", "(II)I"⟩
abbrev cX7_ask : ByteArray := prog_9_method_13_code
def yX7_ask : MethodName := ⟨RX7, "ask", "(IIC)I"⟩
abbrev cX7_raise : ByteArray := prog_9_method_14_code
def yX7_raise : MethodName := ⟨RX7, "raise", "(II)I"⟩
abbrev cX7_cancel : ByteArray := prog_9_method_15_code
def yX7_cancel : MethodName := ⟨RX7, "cancel", "(I)I"⟩
abbrev cX7_suits : ByteArray := prog_9_method_16_code
def yX7_suits : MethodName := ⟨RX7, "suits", "(II)Z"⟩
abbrev cX7_gather : ByteArray := prog_9_method_17_code
def yX7_gather : MethodName := ⟨RX7, "gather", "()V"⟩
abbrev cX7_adds : ByteArray := prog_9_method_18_code
def yX7_adds : MethodName := ⟨RX7, "adds", "(II)Z"⟩
abbrev cX7_least : ByteArray := prog_9_method_19_code
def yX7_least : MethodName := ⟨RX7, "least", "(I)I"⟩
abbrev cX7_walk : ByteArray := prog_9_method_20_code
def yX7_walk : MethodName := ⟨RX7, "walk", "(IIIII)V"⟩
abbrev cX7_all : ByteArray := prog_9_method_21_code
def yX7_all : MethodName := ⟨RX7, "all", "()V"⟩
abbrev cX7_isAhead : ByteArray := prog_9_method_22_code
def yX7_isAhead : MethodName := ⟨RX7, "isAhead", "(II)Z"⟩
abbrev cX7_best : ByteArray := prog_9_method_23_code
def yX7_best : MethodName := ⟨RX7, "best", "(I)I"⟩
abbrev cX7_pays : ByteArray := prog_9_method_24_code
def yX7_pays : MethodName := ⟨RX7, "pays", "(II)I"⟩
abbrev cX7_isInSet : ByteArray := prog_9_method_25_code
def yX7_isInSet : MethodName := ⟨RX7, "isInSet", "(II)Z"⟩
abbrev cX7_gives : ByteArray := prog_9_method_26_code
def yX7_gives : MethodName := ⟨RX7, "gives", "(I)I"⟩
abbrev cX7_close : ByteArray := prog_9_method_27_code
def yX7_close : MethodName := ⟨RX7, "close", "()I"⟩
abbrev cX7_why : ByteArray := prog_9_method_28_code
def yX7_why : MethodName := ⟨RX7, "why", "(II)C"⟩
abbrev cX7_lots : ByteArray := prog_9_method_29_code
def yX7_lots : MethodName := ⟨RX7, "lots", "()I"⟩
abbrev cX7_bids : ByteArray := prog_9_method_30_code
def yX7_bids : MethodName := ⟨RX7, "bids", "()I"⟩
abbrev cX7_openLots : ByteArray := prog_9_method_31_code
def yX7_openLots : MethodName := ⟨RX7, "openLots", "()I"⟩
abbrev cX7_openBids : ByteArray := prog_9_method_32_code
def yX7_openBids : MethodName := ⟨RX7, "openBids", "()I"⟩
abbrev cX7_noLot : ByteArray := prog_9_method_33_code
def yX7_noLot : MethodName := ⟨RX7, "noLot", "(I)Z"⟩
abbrev cX7_fibreOf : ByteArray := prog_9_method_34_code
def yX7_fibreOf : MethodName := ⟨RX7, "fibreOf", "(I)I"⟩
abbrev cX7_gradeOf : ByteArray := prog_9_method_35_code
def yX7_gradeOf : MethodName := ⟨RX7, "gradeOf", "(I)C"⟩
abbrev cX7_reserveOf : ByteArray := prog_9_method_36_code
def yX7_reserveOf : MethodName := ⟨RX7, "reserveOf", "(I)I"⟩
abbrev cX7_lotState : ByteArray := prog_9_method_37_code
def yX7_lotState : MethodName := ⟨RX7, "lotState", "(I)C"⟩
abbrev cX7_soldTo : ByteArray := prog_9_method_38_code
def yX7_soldTo : MethodName := ⟨RX7, "soldTo", "(I)I"⟩
abbrev cX7_countOf : ByteArray := prog_9_method_39_code
def yX7_countOf : MethodName := ⟨RX7, "countOf", "(IC)I"⟩
abbrev cX7_noBid : ByteArray := prog_9_method_40_code
def yX7_noBid : MethodName := ⟨RX7, "noBid", "(I)Z"⟩
abbrev cX7_items : ByteArray := prog_9_method_41_code
def yX7_items : MethodName := ⟨RX7, "items", "(I)I"⟩
abbrev cX7_fits : ByteArray := prog_9_method_42_code
def yX7_fits : MethodName := ⟨RX7, "fits", "(III)Z"⟩
abbrev cX7_fitting : ByteArray := prog_9_method_43_code
def yX7_fitting : MethodName := ⟨RX7, "fitting", "(II)I"⟩
abbrev cX7_priceOf : ByteArray := prog_9_method_44_code
def yX7_priceOf : MethodName := ⟨RX7, "priceOf", "(I)I"⟩
abbrev cX7_stateOf : ByteArray := prog_9_method_45_code
def yX7_stateOf : MethodName := ⟨RX7, "stateOf", "(I)C"⟩
abbrev cX7_reason : ByteArray := prog_9_method_46_code
def yX7_reason : MethodName := ⟨RX7, "reason", "(I)C"⟩
abbrev cX7_rival : ByteArray := prog_9_method_47_code
def yX7_rival : MethodName := ⟨RX7, "rival", "(I)I"⟩
abbrev cX7_lotOf : ByteArray := prog_9_method_48_code
def yX7_lotOf : MethodName := ⟨RX7, "lotOf", "(II)I"⟩
abbrev cX7_paid : ByteArray := prog_9_method_49_code
def yX7_paid : MethodName := ⟨RX7, "paid", "(I)I"⟩
abbrev cX7_costOf : ByteArray := prog_9_method_50_code
def yX7_costOf : MethodName := ⟨RX7, "costOf", "(I)I"⟩
abbrev cX7_surplus : ByteArray := prog_9_method_51_code
def yX7_surplus : MethodName := ⟨RX7, "surplus", "()I"⟩
abbrev cX7_surplusBySets : ByteArray := prog_9_method_52_code
def yX7_surplusBySets : MethodName := ⟨RX7, "surplusBySets", "()I"⟩
abbrev cX7_surplusWithout : ByteArray := prog_9_method_53_code
def yX7_surplusWithout : MethodName := ⟨RX7, "surplusWithout", "(I)I"⟩
abbrev cX7_wouldWin : ByteArray := prog_9_method_54_code
def yX7_wouldWin : MethodName := ⟨RX7, "wouldWin", "(I)Z"⟩
abbrev cX7_wouldWinBySets : ByteArray := prog_9_method_55_code
def yX7_wouldWinBySets : MethodName := ⟨RX7, "wouldWinBySets", "(I)Z"⟩
abbrev cX7_lotFor : ByteArray := prog_9_method_56_code
def yX7_lotFor : MethodName := ⟨RX7, "lotFor", "(II)I"⟩
abbrev cX7_payment : ByteArray := prog_9_method_57_code
def yX7_payment : MethodName := ⟨RX7, "payment", "(I)I"⟩
abbrev cX7_takings : ByteArray := prog_9_method_58_code
def yX7_takings : MethodName := ⟨RX7, "takings", "()J"⟩
abbrev cX7_soldShare : ByteArray := prog_9_method_59_code
def yX7_soldShare : MethodName := ⟨RX7, "soldShare", "()F"⟩
abbrev cX7_meanPaid : ByteArray := prog_9_method_60_code
def yX7_meanPaid : MethodName := ⟨RX7, "meanPaid", "()D"⟩
def RJx145de : String := "java/io/Serializable"
def TJx145de : u_T := fun k => match k with
  | _ => ("", "", "", false)
def tyJx145de : Nat → FieldType := fun k => match k with
  | _ => .int
abbrev wsJx145de0 : List Cond := u_ws RJx145de TJx145de 0
theorem nmJx145de : ∀ a, a < 0 → ∀ b, b < 0 → a ≠ b → (TJx145de a).2.1 ≠ (TJx145de b).2.1 := by decide +kernel
theorem tyJx145de_ok : ∀ k, k < 0 → parseFieldDescriptor (TJx145de k).2.2.1 = some (tyJx145de k) := by decide +kernel
def RJx00060 : String := "java/lang/ArrayIndexOutOfBoundsException"
def TJx00060 : u_T := fun k => match k with
  | 0 => ("java/lang/Throwable", "backtrace", "Ljava/lang/Object;", false)
  | 1 => ("java/lang/Throwable", "detailMessage", "Ljava/lang/String;", false)
  | 2 => ("java/lang/Throwable", "cause", "Ljava/lang/Throwable;", false)
  | 3 => ("java/lang/Throwable", "stackTrace", "[Ljava/lang/StackTraceElement;", false)
  | 4 => ("java/lang/Throwable", "depth", "I", false)
  | _ => ("java/lang/Throwable", "suppressedExceptions", "Ljava/util/List;", false)
def tyJx00060 : Nat → FieldType := fun k => match k with
  | 0 => .object "java/lang/Object"
  | 1 => .object "java/lang/String"
  | 2 => .object "java/lang/Throwable"
  | 3 => .array (.object "java/lang/StackTraceElement")
  | 4 => .int
  | _ => .object "java/util/List"
abbrev wsJx000600 : List Cond := u_ws RJx00060 TJx00060 6
theorem nmJx00060 : ∀ a, a < 6 → ∀ b, b < 6 → a ≠ b → (TJx00060 a).2.1 ≠ (TJx00060 b).2.1 := by decide +kernel
theorem tyJx00060_ok : ∀ k, k < 6 → parseFieldDescriptor (TJx00060 k).2.2.1 = some (tyJx00060 k) := by decide +kernel
abbrev cJx00060_init_a7421 : ByteArray := prog_12_method_2_code
def yJx00060_init_a7421 : MethodName := ⟨RJx00060, "<init>", "(Ljava/lang/String;)V"⟩
def RJx8e188 : String := "java/lang/Cloneable"
def TJx8e188 : u_T := fun k => match k with
  | _ => ("", "", "", false)
def tyJx8e188 : Nat → FieldType := fun k => match k with
  | _ => .int
abbrev wsJx8e1880 : List Cond := u_ws RJx8e188 TJx8e188 0
theorem nmJx8e188 : ∀ a, a < 0 → ∀ b, b < 0 → a ≠ b → (TJx8e188 a).2.1 ≠ (TJx8e188 b).2.1 := by decide +kernel
theorem tyJx8e188_ok : ∀ k, k < 0 → parseFieldDescriptor (TJx8e188 k).2.2.1 = some (tyJx8e188 k) := by decide +kernel
def RJ6 : String := "java/lang/Integer"
def TJ6 : u_T := fun k => match k with
  | _ => ("", "", "", false)
def tyJ6 : Nat → FieldType := fun k => match k with
  | _ => .int
abbrev wsJ60 : List Cond := u_ws RJ6 TJ6 0
theorem nmJ6 : ∀ a, a < 0 → ∀ b, b < 0 → a ≠ b → (TJ6 a).2.1 ≠ (TJ6 b).2.1 := by decide +kernel
theorem tyJ6_ok : ∀ k, k < 0 → parseFieldDescriptor (TJ6 k).2.2.1 = some (tyJ6 k) := by decide +kernel
abbrev cJ6_bitCount_0f7a4 : ByteArray := prog_18_method_49_code
def yJ6_bitCount_0f7a4 : MethodName := ⟨RJ6, "bitCount", "(I)I"⟩
def RJxab1ab : String := "java/lang/Iterable"
def TJxab1ab : u_T := fun k => match k with
  | _ => ("", "", "", false)
def tyJxab1ab : Nat → FieldType := fun k => match k with
  | _ => .int
abbrev wsJxab1ab0 : List Cond := u_ws RJxab1ab TJxab1ab 0
theorem nmJxab1ab : ∀ a, a < 0 → ∀ b, b < 0 → a ≠ b → (TJxab1ab a).2.1 ≠ (TJxab1ab b).2.1 := by decide +kernel
theorem tyJxab1ab_ok : ∀ k, k < 0 → parseFieldDescriptor (TJxab1ab k).2.2.1 = some (tyJxab1ab k) := by decide +kernel
def RJ9 : String := "java/lang/Math"
def TJ9 : u_T := fun k => match k with
  | _ => ("", "", "", false)
def tyJ9 : Nat → FieldType := fun k => match k with
  | _ => .int
abbrev wsJ90 : List Cond := u_ws RJ9 TJ9 0
theorem nmJ9 : ∀ a, a < 0 → ∀ b, b < 0 → a ≠ b → (TJ9 a).2.1 ≠ (TJ9 b).2.1 := by decide +kernel
theorem tyJ9_ok : ∀ k, k < 0 → parseFieldDescriptor (TJ9 k).2.2.1 = some (tyJ9 k) := by decide +kernel
abbrev cJ9_max_7cf53 : ByteArray := prog_20_method_65_code
def yJ9_max_7cf53 : MethodName := ⟨RJ9, "max", "(II)I"⟩
abbrev cJ9_min_7cf53 : ByteArray := prog_20_method_69_code
def yJ9_min_7cf53 : MethodName := ⟨RJ9, "min", "(II)I"⟩
def RJ0 : String := "java/lang/String"
def TJ0 : u_T := fun k => match k with
  | 0 => ("java/lang/String", "value", "[B", true)
  | _ => ("java/lang/String", "coder", "B", true)
def tyJ0 : Nat → FieldType := fun k => match k with
  | 0 => .array .byte
  | _ => .byte
abbrev wsJ00 : List Cond := u_ws RJ0 TJ0 2
theorem nmJ0 : ∀ a, a < 2 → ∀ b, b < 2 → a ≠ b → (TJ0 a).2.1 ≠ (TJ0 b).2.1 := by decide +kernel
theorem tyJ0_ok : ∀ k, k < 2 → parseFieldDescriptor (TJ0 k).2.2.1 = some (tyJ0 k) := by decide +kernel
def RJ10 : String := "java/lang/System"
def TJ10 : u_T := fun k => match k with
  | _ => ("", "", "", false)
def tyJ10 : Nat → FieldType := fun k => match k with
  | _ => .int
abbrev wsJ100 : List Cond := u_ws RJ10 TJ10 0
theorem nmJ10 : ∀ a, a < 0 → ∀ b, b < 0 → a ≠ b → (TJ10 a).2.1 ≠ (TJ10 b).2.1 := by decide +kernel
theorem tyJ10_ok : ∀ k, k < 0 → parseFieldDescriptor (TJ10 k).2.2.1 = some (tyJ10 k) := by decide +kernel
def RJxa1e45 : String := "java/util/AbstractCollection"
def TJxa1e45 : u_T := fun k => match k with
  | _ => ("", "", "", false)
def tyJxa1e45 : Nat → FieldType := fun k => match k with
  | _ => .int
abbrev wsJxa1e450 : List Cond := u_ws RJxa1e45 TJxa1e45 0
theorem nmJxa1e45 : ∀ a, a < 0 → ∀ b, b < 0 → a ≠ b → (TJxa1e45 a).2.1 ≠ (TJxa1e45 b).2.1 := by decide +kernel
theorem tyJxa1e45_ok : ∀ k, k < 0 → parseFieldDescriptor (TJxa1e45 k).2.2.1 = some (tyJxa1e45 k) := by decide +kernel
abbrev cJxa1e45_init_da8c8 : ByteArray := prog_26_method_1_code
def yJxa1e45_init_da8c8 : MethodName := ⟨RJxa1e45, "<init>", "()V"⟩
def RJxc12de : String := "java/util/AbstractList"
def TJxc12de : u_T := fun k => match k with
  | _ => ("", "", "", false)
def tyJxc12de : Nat → FieldType := fun k => match k with
  | _ => .int
abbrev wsJxc12de0 : List Cond := u_ws RJxc12de TJxc12de 0
theorem nmJxc12de : ∀ a, a < 0 → ∀ b, b < 0 → a ≠ b → (TJxc12de a).2.1 ≠ (TJxc12de b).2.1 := by decide +kernel
theorem tyJxc12de_ok : ∀ k, k < 0 → parseFieldDescriptor (TJxc12de k).2.2.1 = some (tyJxc12de k) := by decide +kernel
abbrev cJxc12de_init_da8c8 : ByteArray := prog_27_method_1_code
def yJxc12de_init_da8c8 : MethodName := ⟨RJxc12de, "<init>", "()V"⟩
def RJx4a65c : String := "java/util/ArrayList"
def TJx4a65c : u_T := fun k => match k with
  | 0 => ("java/util/AbstractList", "modCount", "I", false)
  | 1 => ("java/util/ArrayList", "elementData", "[Ljava/lang/Object;", false)
  | _ => ("java/util/ArrayList", "size", "I", false)
def tyJx4a65c : Nat → FieldType := fun k => match k with
  | 0 => .int
  | 1 => .array (.object "java/lang/Object")
  | _ => .int
abbrev wsJx4a65c0 : List Cond := u_ws RJx4a65c TJx4a65c 3
theorem nmJx4a65c : ∀ a, a < 3 → ∀ b, b < 3 → a ≠ b → (TJx4a65c a).2.1 ≠ (TJx4a65c b).2.1 := by decide +kernel
theorem tyJx4a65c_ok : ∀ k, k < 3 → parseFieldDescriptor (TJx4a65c k).2.2.1 = some (tyJx4a65c k) := by decide +kernel
abbrev cJx4a65c_init_da8c8 : ByteArray := prog_28_method_2_code
def yJx4a65c_init_da8c8 : MethodName := ⟨RJx4a65c, "<init>", "()V"⟩
abbrev cJx4a65c_grow_92f84 : ByteArray := prog_28_method_6_code
def yJx4a65c_grow_92f84 : MethodName := ⟨RJx4a65c, "grow", "(I)[Ljava/lang/Object;"⟩
abbrev cJx4a65c_grow_d5877 : ByteArray := prog_28_method_7_code
def yJx4a65c_grow_d5877 : MethodName := ⟨RJx4a65c, "grow", "()[Ljava/lang/Object;"⟩
abbrev cJx4a65c_size_8abf5 : ByteArray := prog_28_method_8_code
def yJx4a65c_size_8abf5 : MethodName := ⟨RJx4a65c, "size", "()I"⟩
abbrev cJx4a65c_isEmpty_aae02 : ByteArray := prog_28_method_9_code
def yJx4a65c_isEmpty_aae02 : MethodName := ⟨RJx4a65c, "isEmpty", "()Z"⟩
abbrev cJx4a65c_elementData_915e3 : ByteArray := prog_28_method_18_code
def yJx4a65c_elementData_915e3 : MethodName := ⟨RJx4a65c, "elementData", "(I)Ljava/lang/Object;"⟩
abbrev cJx4a65c_get_915e3 : ByteArray := prog_28_method_20_code
def yJx4a65c_get_915e3 : MethodName := ⟨RJx4a65c, "get", "(I)Ljava/lang/Object;"⟩
abbrev cJx4a65c_add_72be8 : ByteArray := prog_28_method_24_code
def yJx4a65c_add_72be8 : MethodName := ⟨RJx4a65c, "add", "(Ljava/lang/Object;[Ljava/lang/Object;I)V"⟩
abbrev cJx4a65c_add_9ea2d : ByteArray := prog_28_method_25_code
def yJx4a65c_add_9ea2d : MethodName := ⟨RJx4a65c, "add", "(Ljava/lang/Object;)Z"⟩
abbrev cJx4a65c_remove_915e3 : ByteArray := prog_28_method_29_code
def yJx4a65c_remove_915e3 : MethodName := ⟨RJx4a65c, "remove", "(I)Ljava/lang/Object;"⟩
abbrev cJx4a65c_fastRemove_b59b0 : ByteArray := prog_28_method_39_code
def yJx4a65c_fastRemove_b59b0 : MethodName := ⟨RJx4a65c, "fastRemove", "([Ljava/lang/Object;I)V"⟩
def RJ7 : String := "java/util/Arrays"
def TJ7 : u_T := fun k => match k with
  | _ => ("", "", "", false)
def tyJ7 : Nat → FieldType := fun k => match k with
  | _ => .int
abbrev wsJ70 : List Cond := u_ws RJ7 TJ7 0
theorem nmJ7 : ∀ a, a < 0 → ∀ b, b < 0 → a ≠ b → (TJ7 a).2.1 ≠ (TJ7 b).2.1 := by decide +kernel
theorem tyJ7_ok : ∀ k, k < 0 → parseFieldDescriptor (TJ7 k).2.2.1 = some (tyJ7 k) := by decide +kernel
abbrev cJ7_copyOf_1904c : ByteArray := prog_29_method_119_code
def yJ7_copyOf_1904c : MethodName := ⟨RJ7, "copyOf", "([Ljava/lang/Object;I)[Ljava/lang/Object;"⟩
abbrev cJ7_copyOf_6403c : ByteArray := prog_29_method_120_code
def yJ7_copyOf_6403c : MethodName := ⟨RJ7, "copyOf", "([Ljava/lang/Object;ILjava/lang/Class;)[Ljava/lang/Object;"⟩
def RJx5ef63 : String := "java/util/Collection"
def TJx5ef63 : u_T := fun k => match k with
  | _ => ("", "", "", false)
def tyJx5ef63 : Nat → FieldType := fun k => match k with
  | _ => .int
abbrev wsJx5ef630 : List Cond := u_ws RJx5ef63 TJx5ef63 0
theorem nmJx5ef63 : ∀ a, a < 0 → ∀ b, b < 0 → a ≠ b → (TJx5ef63 a).2.1 ≠ (TJx5ef63 b).2.1 := by decide +kernel
theorem tyJx5ef63_ok : ∀ k, k < 0 → parseFieldDescriptor (TJx5ef63 k).2.2.1 = some (tyJx5ef63 k) := by decide +kernel
def RJxbd725 : String := "java/util/List"
def TJxbd725 : u_T := fun k => match k with
  | _ => ("", "", "", false)
def tyJxbd725 : Nat → FieldType := fun k => match k with
  | _ => .int
abbrev wsJxbd7250 : List Cond := u_ws RJxbd725 TJxbd725 0
theorem nmJxbd725 : ∀ a, a < 0 → ∀ b, b < 0 → a ≠ b → (TJxbd725 a).2.1 ≠ (TJxbd725 b).2.1 := by decide +kernel
theorem tyJxbd725_ok : ∀ k, k < 0 → parseFieldDescriptor (TJxbd725 k).2.2.1 = some (tyJxbd725 k) := by decide +kernel
def RJ15 : String := "java/util/Objects"
def TJ15 : u_T := fun k => match k with
  | _ => ("", "", "", false)
def tyJ15 : Nat → FieldType := fun k => match k with
  | _ => .int
abbrev wsJ150 : List Cond := u_ws RJ15 TJ15 0
theorem nmJ15 : ∀ a, a < 0 → ∀ b, b < 0 → a ≠ b → (TJ15 a).2.1 ≠ (TJ15 b).2.1 := by decide +kernel
theorem tyJ15_ok : ∀ k, k < 0 → parseFieldDescriptor (TJ15 k).2.2.1 = some (tyJ15 k) := by decide +kernel
abbrev cJ15_checkIndex_7cf53 : ByteArray := prog_33_method_17_code
def yJ15_checkIndex_7cf53 : MethodName := ⟨RJ15, "checkIndex", "(II)I"⟩
def RJxf0a74 : String := "java/util/RandomAccess"
def TJxf0a74 : u_T := fun k => match k with
  | _ => ("", "", "", false)
def tyJxf0a74 : Nat → FieldType := fun k => match k with
  | _ => .int
abbrev wsJxf0a740 : List Cond := u_ws RJxf0a74 TJxf0a74 0
theorem nmJxf0a74 : ∀ a, a < 0 → ∀ b, b < 0 → a ≠ b → (TJxf0a74 a).2.1 ≠ (TJxf0a74 b).2.1 := by decide +kernel
theorem tyJxf0a74_ok : ∀ k, k < 0 → parseFieldDescriptor (TJxf0a74 k).2.2.1 = some (tyJxf0a74 k) := by decide +kernel
def RJxa66e6 : String := "java/util/SequencedCollection"
def TJxa66e6 : u_T := fun k => match k with
  | _ => ("", "", "", false)
def tyJxa66e6 : Nat → FieldType := fun k => match k with
  | _ => .int
abbrev wsJxa66e60 : List Cond := u_ws RJxa66e6 TJxa66e6 0
theorem nmJxa66e6 : ∀ a, a < 0 → ∀ b, b < 0 → a ≠ b → (TJxa66e6 a).2.1 ≠ (TJxa66e6 b).2.1 := by decide +kernel
theorem tyJxa66e6_ok : ∀ k, k < 0 → parseFieldDescriptor (TJxa66e6 k).2.2.1 = some (tyJxa66e6 k) := by decide +kernel
def RJ8 : String := "jdk/internal/util/ArraysSupport"
def TJ8 : u_T := fun k => match k with
  | _ => ("", "", "", false)
def tyJ8 : Nat → FieldType := fun k => match k with
  | _ => .int
abbrev wsJ80 : List Cond := u_ws RJ8 TJ8 0
theorem nmJ8 : ∀ a, a < 0 → ∀ b, b < 0 → a ≠ b → (TJ8 a).2.1 ≠ (TJ8 b).2.1 := by decide +kernel
theorem tyJ8_ok : ∀ k, k < 0 → parseFieldDescriptor (TJ8 k).2.2.1 = some (tyJ8 k) := by decide +kernel
abbrev cJ8_newLength_cabcc : ByteArray := prog_36_method_27_code
def yJ8_newLength_cabcc : MethodName := ⟨RJ8, "newLength", "(III)I"⟩
abbrev cJ8_hugeLength_7cf53 : ByteArray := prog_36_method_28_code
def yJ8_hugeLength_7cf53 : MethodName := ⟨RJ8, "hugeLength", "(II)I"⟩
def RJ3 : String := "jdk/internal/util/Preconditions"
def TJ3 : u_T := fun k => match k with
  | _ => ("", "", "", false)
def tyJ3 : Nat → FieldType := fun k => match k with
  | _ => .int
abbrev wsJ30 : List Cond := u_ws RJ3 TJ3 0
theorem nmJ3 : ∀ a, a < 0 → ∀ b, b < 0 → a ≠ b → (TJ3 a).2.1 ≠ (TJ3 b).2.1 := by decide +kernel
theorem tyJ3_ok : ∀ k, k < 0 → parseFieldDescriptor (TJ3 k).2.2.1 = some (tyJ3 k) := by decide +kernel
abbrev cJ3_checkIndex_8e157 : ByteArray := prog_37_method_11_code
def yJ3_checkIndex_8e157 : MethodName := ⟨RJ3, "checkIndex", "(IILjava/util/function/BiFunction;)I"⟩
def RL : String := "SkeinMarketLaw"
abbrev cL_offer : ByteArray := method_3_code
def yL_offer : MethodName := ⟨RL, "offer", "(LSkeinMarket;ICI[J)I"⟩
abbrev cL_withdraw : ByteArray := method_4_code
def yL_withdraw : MethodName := ⟨RL, "withdraw", "(LSkeinMarket;I[J)I"⟩
abbrev cL_allow : ByteArray := method_5_code
def yL_allow : MethodName := ⟨RL, "allow", "(LSkeinMarket;III[J)I"⟩
abbrev cL_forbid : ByteArray := method_6_code
def yL_forbid : MethodName := ⟨RL, "forbid", "(LSkeinMarket;[J)I"⟩
abbrev cL_bid : ByteArray := method_7_code
def yL_bid : MethodName := ⟨RL, "bid", "(LSkeinMarket;II[J)I"⟩
abbrev cL_ask : ByteArray := method_8_code
def yL_ask : MethodName := ⟨RL, "ask", "(LSkeinMarket;IIC[J)I"⟩
abbrev cL_raise : ByteArray := method_9_code
def yL_raise : MethodName := ⟨RL, "raise", "(LSkeinMarket;II[J)I"⟩
abbrev cL_cancel : ByteArray := method_10_code
def yL_cancel : MethodName := ⟨RL, "cancel", "(LSkeinMarket;I[J)I"⟩
abbrev cL_close : ByteArray := method_11_code
def yL_close : MethodName := ⟨RL, "close", "(LSkeinMarket;[J)I"⟩
abbrev cL_fibreOf : ByteArray := method_12_code
def yL_fibreOf : MethodName := ⟨RL, "fibreOf", "(LSkeinMarket;I[J)I"⟩
abbrev cL_gradeOf : ByteArray := method_13_code
def yL_gradeOf : MethodName := ⟨RL, "gradeOf", "(LSkeinMarket;I[J)I"⟩
abbrev cL_reserveOf : ByteArray := method_14_code
def yL_reserveOf : MethodName := ⟨RL, "reserveOf", "(LSkeinMarket;I[J)I"⟩
abbrev cL_lotState : ByteArray := method_15_code
def yL_lotState : MethodName := ⟨RL, "lotState", "(LSkeinMarket;I[J)I"⟩
abbrev cL_soldTo : ByteArray := method_16_code
def yL_soldTo : MethodName := ⟨RL, "soldTo", "(LSkeinMarket;I[J)I"⟩
abbrev cL_countOf : ByteArray := method_17_code
def yL_countOf : MethodName := ⟨RL, "countOf", "(LSkeinMarket;IC[J)I"⟩
abbrev cL_items : ByteArray := method_18_code
def yL_items : MethodName := ⟨RL, "items", "(LSkeinMarket;I[J)I"⟩
abbrev cL_fits : ByteArray := method_19_code
def yL_fits : MethodName := ⟨RL, "fits", "(LSkeinMarket;III[J)I"⟩
abbrev cL_fitting : ByteArray := method_20_code
def yL_fitting : MethodName := ⟨RL, "fitting", "(LSkeinMarket;II[J)I"⟩
abbrev cL_priceOf : ByteArray := method_21_code
def yL_priceOf : MethodName := ⟨RL, "priceOf", "(LSkeinMarket;I[J)I"⟩
abbrev cL_stateOf : ByteArray := method_22_code
def yL_stateOf : MethodName := ⟨RL, "stateOf", "(LSkeinMarket;I[J)I"⟩
abbrev cL_reason : ByteArray := method_23_code
def yL_reason : MethodName := ⟨RL, "reason", "(LSkeinMarket;I[J)I"⟩
abbrev cL_rival : ByteArray := method_24_code
def yL_rival : MethodName := ⟨RL, "rival", "(LSkeinMarket;I[J)I"⟩
abbrev cL_lotOf : ByteArray := method_25_code
def yL_lotOf : MethodName := ⟨RL, "lotOf", "(LSkeinMarket;II[J)I"⟩
abbrev cL_paid : ByteArray := method_26_code
def yL_paid : MethodName := ⟨RL, "paid", "(LSkeinMarket;I[J)I"⟩
abbrev cL_costOf : ByteArray := method_27_code
def yL_costOf : MethodName := ⟨RL, "costOf", "(LSkeinMarket;I[J)I"⟩
abbrev cL_surplusWithout : ByteArray := method_28_code
def yL_surplusWithout : MethodName := ⟨RL, "surplusWithout", "(LSkeinMarket;I[J)I"⟩
abbrev cL_wouldWin : ByteArray := method_29_code
def yL_wouldWin : MethodName := ⟨RL, "wouldWin", "(LSkeinMarket;I[J)I"⟩
abbrev cL_wouldWinBySets : ByteArray := method_30_code
def yL_wouldWinBySets : MethodName := ⟨RL, "wouldWinBySets", "(LSkeinMarket;I[J)I"⟩
abbrev cL_lotFor : ByteArray := method_31_code
def yL_lotFor : MethodName := ⟨RL, "lotFor", "(LSkeinMarket;II[J)I"⟩
abbrev cL_payment : ByteArray := method_32_code
def yL_payment : MethodName := ⟨RL, "payment", "(LSkeinMarket;I[J)I"⟩
abbrev cL_soldShare : ByteArray := method_33_code
def yL_soldShare : MethodName := ⟨RL, "soldShare", "(LSkeinMarket;[D)I"⟩
abbrev cL_meanPaid : ByteArray := method_34_code
def yL_meanPaid : MethodName := ⟨RL, "meanPaid", "(LSkeinMarket;[D)I"⟩
abbrev cL_law : ByteArray := code
def yL_law : MethodName := ⟨RL, "law", "([I)Z"⟩
abbrev vwCl : List vw_C := [(RJ0, TJ0, 2), (RJx00060, TJx00060, 6), (RJx4a65c, TJx4a65c, 3), (RX0, TX0, 7), (RX1, TX1, 14), (RX2, TX2, 3), (RX3, TX3, 5), (RX4, TX4, 3), (RX5, TX5, 5), (RX6, TX6, 10), (RX7, TX7, 33)]
