theorem iwJx4a65c : ∀ x ∈ u_ws RJx4a65c TJx4a65c 3, x ∈ WW := by decide +kernel
theorem iwX0 : ∀ x ∈ u_ws RX0 TX0 7, x ∈ WW := by decide +kernel
theorem iwX1 : ∀ x ∈ u_ws RX1 TX1 14, x ∈ WW := by decide +kernel
theorem iwX2 : ∀ x ∈ u_ws RX2 TX2 3, x ∈ WW := by decide +kernel
theorem iwX3 : ∀ x ∈ u_ws RX3 TX3 5, x ∈ WW := by decide +kernel
theorem iwX4 : ∀ x ∈ u_ws RX4 TX4 3, x ∈ WW := by decide +kernel
theorem iwX5 : ∀ x ∈ u_ws RX5 TX5 5, x ∈ WW := by decide +kernel
theorem iwX6 : ∀ x ∈ u_ws RX6 TX6 10, x ∈ WW := by decide +kernel
theorem iwX7 : ∀ x ∈ u_ws RX7 TX7 33, x ∈ WW := by decide +kernel
theorem hyX0_init : ynm yX0_init 2 := ⟨by decide +kernel, by decide +kernel, by decide +kernel⟩
theorem hyX1_init : ynm yX1_init 0 := ⟨by decide +kernel, by decide +kernel, by decide +kernel⟩
theorem hyX1_clearAll : ynm yX1_clearAll 0 := ⟨by decide +kernel, by decide +kernel, by decide +kernel⟩
theorem hyX1_addLot : ynm yX1_addLot 2 := ⟨by decide +kernel, by decide +kernel, by decide +kernel⟩
theorem hyX1_addBid : ynm yX1_addBid 3 := ⟨by decide +kernel, by decide +kernel, by decide +kernel⟩
theorem hyX1_addItem : ynm yX1_addItem 1 := ⟨by decide +kernel, by decide +kernel, by decide +kernel⟩
theorem hyX1_placeOf : ynm yX1_placeOf 1 := ⟨by decide +kernel, by decide +kernel, by decide +kernel⟩
theorem hyX1_setOf : ynm yX1_setOf 1 := ⟨by decide +kernel, by decide +kernel, by decide +kernel⟩
theorem hyX1_bidOfBidderIn : ynm yX1_bidOfBidderIn 2 := ⟨by decide +kernel, by decide +kernel, by decide +kernel⟩
theorem hyX1_hasOneBidPerBidder : ynm yX1_hasOneBidPerBidder 1 := ⟨by decide +kernel, by decide +kernel, by decide +kernel⟩
theorem hyX1_priceSum : ynm yX1_priceSum 1 := ⟨by decide +kernel, by decide +kernel, by decide +kernel⟩
theorem hyX1_leastCost : ynm yX1_leastCost 1 := ⟨by decide +kernel, by decide +kernel, by decide +kernel⟩
theorem hyX1_queueItems : ynm yX1_queueItems 1 := ⟨by decide +kernel, by decide +kernel, by decide +kernel⟩
theorem hyX1_restCost : ynm yX1_restCost 1 := ⟨by decide +kernel, by decide +kernel, by decide +kernel⟩
theorem hyX1_giveLots : ynm yX1_giveLots 1 := ⟨by decide +kernel, by decide +kernel, by decide +kernel⟩
theorem hyX1_firstCheapest : ynm yX1_firstCheapest 2 := ⟨by decide +kernel, by decide +kernel, by decide +kernel⟩
theorem hyX1_lotGiven : ynm yX1_lotGiven 3 := ⟨by decide +kernel, by decide +kernel, by decide +kernel⟩
theorem hyX2_init : ynm yX2_init 2 := ⟨by decide +kernel, by decide +kernel, by decide +kernel⟩
theorem hyX3_init : ynm yX3_init 3 := ⟨by decide +kernel, by decide +kernel, by decide +kernel⟩
theorem hyX4_init : ynm yX4_init 3 := ⟨by decide +kernel, by decide +kernel, by decide +kernel⟩
theorem hyX5_init : ynm yX5_init 0 := ⟨by decide +kernel, by decide +kernel, by decide +kernel⟩
theorem hyX5_forgetBest : ynm yX5_forgetBest 0 := ⟨by decide +kernel, by decide +kernel, by decide +kernel⟩
theorem hyX5_goThroughSets : ynm yX5_goThroughSets 1 := ⟨by decide +kernel, by decide +kernel, by decide +kernel⟩
theorem hyX5_compareWithBest : ynm yX5_compareWithBest 2 := ⟨by decide +kernel, by decide +kernel, by decide +kernel⟩
theorem hyX5_hasLowestOfDifferent : ynm yX5_hasLowestOfDifferent 2 := ⟨by decide +kernel, by decide +kernel, by decide +kernel⟩
theorem hyX5_findBest : ynm yX5_findBest 2 := ⟨by decide +kernel, by decide +kernel, by decide +kernel⟩
theorem hyX5_estimate : ynm yX5_estimate 2 := ⟨by decide +kernel, by decide +kernel, by decide +kernel⟩
theorem hyX5_branch : ynm yX5_branch 7 := ⟨by decide +kernel, by decide +kernel, by decide +kernel⟩
theorem hyX5_costWith : ynm yX5_costWith 3 := ⟨by decide +kernel, by decide +kernel, by decide +kernel⟩
theorem hyX5_fillWithItem : ynm yX5_fillWithItem 3 := ⟨by decide +kernel, by decide +kernel, by decide +kernel⟩
theorem hyX5_canFillWithLast : ynm yX5_canFillWithLast 3 := ⟨by decide +kernel, by decide +kernel, by decide +kernel⟩
theorem hyX5_leastFilled : ynm yX5_leastFilled 2 := ⟨by decide +kernel, by decide +kernel, by decide +kernel⟩
theorem hyX6_init : ynm yX6_init 0 := ⟨by decide +kernel, by decide +kernel, by decide +kernel⟩
theorem hyX6_offer : ynm yX6_offer 3 := ⟨by decide +kernel, by decide +kernel, by decide +kernel⟩
theorem hyX6_withdraw : ynm yX6_withdraw 1 := ⟨by decide +kernel, by decide +kernel, by decide +kernel⟩
theorem hyX6_allow : ynm yX6_allow 3 := ⟨by decide +kernel, by decide +kernel, by decide +kernel⟩
theorem hyX6_forbid : ynm yX6_forbid 0 := ⟨by decide +kernel, by decide +kernel, by decide +kernel⟩
theorem hyX6_bid : ynm yX6_bid 2 := ⟨by decide +kernel, by decide +kernel, by decide +kernel⟩
theorem hyX6_ask : ynm yX6_ask 3 := ⟨by decide +kernel, by decide +kernel, by decide +kernel⟩
theorem hyX6_raise : ynm yX6_raise 2 := ⟨by decide +kernel, by decide +kernel, by decide +kernel⟩
theorem hyX6_cancel : ynm yX6_cancel 1 := ⟨by decide +kernel, by decide +kernel, by decide +kernel⟩
theorem hyX6_close : ynm yX6_close 0 := ⟨by decide +kernel, by decide +kernel, by decide +kernel⟩
theorem hyX6_lots : ynm yX6_lots 0 := ⟨by decide +kernel, by decide +kernel, by decide +kernel⟩
theorem hyX6_bids : ynm yX6_bids 0 := ⟨by decide +kernel, by decide +kernel, by decide +kernel⟩
theorem hyX6_openLots : ynm yX6_openLots 0 := ⟨by decide +kernel, by decide +kernel, by decide +kernel⟩
theorem hyX6_openBids : ynm yX6_openBids 0 := ⟨by decide +kernel, by decide +kernel, by decide +kernel⟩
theorem hyX6_fibreOf : ynm yX6_fibreOf 1 := ⟨by decide +kernel, by decide +kernel, by decide +kernel⟩
theorem hyX6_gradeOf : ynm yX6_gradeOf 1 := ⟨by decide +kernel, by decide +kernel, by decide +kernel⟩
theorem hyX6_reserveOf : ynm yX6_reserveOf 1 := ⟨by decide +kernel, by decide +kernel, by decide +kernel⟩
theorem hyX6_lotState : ynm yX6_lotState 1 := ⟨by decide +kernel, by decide +kernel, by decide +kernel⟩
theorem hyX6_soldTo : ynm yX6_soldTo 1 := ⟨by decide +kernel, by decide +kernel, by decide +kernel⟩
theorem hyX6_countOf : ynm yX6_countOf 2 := ⟨by decide +kernel, by decide +kernel, by decide +kernel⟩
theorem hyX6_items : ynm yX6_items 1 := ⟨by decide +kernel, by decide +kernel, by decide +kernel⟩
theorem hyX6_fits : ynm yX6_fits 3 := ⟨by decide +kernel, by decide +kernel, by decide +kernel⟩
theorem hyX6_fitting : ynm yX6_fitting 2 := ⟨by decide +kernel, by decide +kernel, by decide +kernel⟩
theorem hyX6_priceOf : ynm yX6_priceOf 1 := ⟨by decide +kernel, by decide +kernel, by decide +kernel⟩
theorem hyX6_stateOf : ynm yX6_stateOf 1 := ⟨by decide +kernel, by decide +kernel, by decide +kernel⟩
theorem hyX6_reason : ynm yX6_reason 1 := ⟨by decide +kernel, by decide +kernel, by decide +kernel⟩
theorem hyX6_rival : ynm yX6_rival 1 := ⟨by decide +kernel, by decide +kernel, by decide +kernel⟩
theorem hyX6_lotOf : ynm yX6_lotOf 2 := ⟨by decide +kernel, by decide +kernel, by decide +kernel⟩
theorem hyX6_paid : ynm yX6_paid 1 := ⟨by decide +kernel, by decide +kernel, by decide +kernel⟩
theorem hyX6_costOf : ynm yX6_costOf 1 := ⟨by decide +kernel, by decide +kernel, by decide +kernel⟩
theorem hyX6_surplus : ynm yX6_surplus 0 := ⟨by decide +kernel, by decide +kernel, by decide +kernel⟩
theorem hyX6_surplusBySets : ynm yX6_surplusBySets 0 := ⟨by decide +kernel, by decide +kernel, by decide +kernel⟩
theorem hyX6_surplusWithout : ynm yX6_surplusWithout 1 := ⟨by decide +kernel, by decide +kernel, by decide +kernel⟩
theorem hyX6_wouldWin : ynm yX6_wouldWin 1 := ⟨by decide +kernel, by decide +kernel, by decide +kernel⟩
theorem hyX6_wouldWinBySets : ynm yX6_wouldWinBySets 1 := ⟨by decide +kernel, by decide +kernel, by decide +kernel⟩
theorem hyX6_lotFor : ynm yX6_lotFor 2 := ⟨by decide +kernel, by decide +kernel, by decide +kernel⟩
theorem hyX6_payment : ynm yX6_payment 1 := ⟨by decide +kernel, by decide +kernel, by decide +kernel⟩
theorem hyX6_takings : ynm yX6_takings 0 := ⟨by decide +kernel, by decide +kernel, by decide +kernel⟩
theorem hyX6_soldShare : ynm yX6_soldShare 0 := ⟨by decide +kernel, by decide +kernel, by decide +kernel⟩
theorem hyX6_meanPaid : ynm yX6_meanPaid 0 := ⟨by decide +kernel, by decide +kernel, by decide +kernel⟩
theorem hyX6_isFibre : ynm yX6_isFibre 1 := ⟨by decide +kernel, by decide +kernel, by decide +kernel⟩
theorem hyX6_isGrade : ynm yX6_isGrade 1 := ⟨by decide +kernel, by decide +kernel, by decide +kernel⟩
theorem hyX6_isBidder : ynm yX6_isBidder 1 := ⟨by decide +kernel, by decide +kernel, by decide +kernel⟩
theorem hyX6_isLot : ynm yX6_isLot 1 := ⟨by decide +kernel, by decide +kernel, by decide +kernel⟩
theorem hyX6_isBid : ynm yX6_isBid 1 := ⟨by decide +kernel, by decide +kernel, by decide +kernel⟩
theorem hyX6_knownLot : ynm yX6_knownLot 1 := ⟨by decide +kernel, by decide +kernel, by decide +kernel⟩
theorem hyX6_knownBid : ynm yX6_knownBid 1 := ⟨by decide +kernel, by decide +kernel, by decide +kernel⟩
theorem hyX6_knownOpenBid : ynm yX6_knownOpenBid 1 := ⟨by decide +kernel, by decide +kernel, by decide +kernel⟩
theorem hyX6_knownItem : ynm yX6_knownItem 2 := ⟨by decide +kernel, by decide +kernel, by decide +kernel⟩
theorem hyX6_isFit : ynm yX6_isFit 2 := ⟨by decide +kernel, by decide +kernel, by decide +kernel⟩
theorem hyX6_fillFloor : ynm yX6_fillFloor 0 := ⟨by decide +kernel, by decide +kernel, by decide +kernel⟩
theorem hyX6_addItemsToFloor : ynm yX6_addItemsToFloor 1 := ⟨by decide +kernel, by decide +kernel, by decide +kernel⟩
theorem hyX6_fittingOnFloor : ynm yX6_fittingOnFloor 1 := ⟨by decide +kernel, by decide +kernel, by decide +kernel⟩
theorem hyX6_isInBestSet : ynm yX6_isInBestSet 1 := ⟨by decide +kernel, by decide +kernel, by decide +kernel⟩
theorem hyX6_settlePayments : ynm yX6_settlePayments 2 := ⟨by decide +kernel, by decide +kernel, by decide +kernel⟩
theorem hyX6_handOutLots : ynm yX6_handOutLots 1 := ⟨by decide +kernel, by decide +kernel, by decide +kernel⟩
theorem hyX6_handOutLotsTo : ynm yX6_handOutLotsTo 2 := ⟨by decide +kernel, by decide +kernel, by decide +kernel⟩
theorem hyX6_settleLosers : ynm yX6_settleLosers 1 := ⟨by decide +kernel, by decide +kernel, by decide +kernel⟩
theorem hyX6_reasonToLose : ynm yX6_reasonToLose 2 := ⟨by decide +kernel, by decide +kernel, by decide +kernel⟩
theorem hyX7_init : ynm yX7_init 0 := ⟨by decide +kernel, by decide +kernel, by decide +kernel⟩
theorem hyX7_thrown : ynm yX7_thrown 0 := ⟨by decide +kernel, by decide +kernel, by decide +kernel⟩
theorem hyX7_fail : ynm yX7_fail 1 := ⟨by decide +kernel, by decide +kernel, by decide +kernel⟩
theorem hyX7_isIn : ynm yX7_isIn 3 := ⟨by decide +kernel, by decide +kernel, by decide +kernel⟩
theorem hyX7_isGrade : ynm yX7_isGrade 1 := ⟨by decide +kernel, by decide +kernel, by decide +kernel⟩
theorem hyX7_isLot : ynm yX7_isLot 1 := ⟨by decide +kernel, by decide +kernel, by decide +kernel⟩
theorem hyX7_isBid : ynm yX7_isBid 1 := ⟨by decide +kernel, by decide +kernel, by decide +kernel⟩
theorem hyX7_offer : ynm yX7_offer 3 := ⟨by decide +kernel, by decide +kernel, by decide +kernel⟩
theorem hyX7_withdraw : ynm yX7_withdraw 1 := ⟨by decide +kernel, by decide +kernel, by decide +kernel⟩
theorem hyX7_allow : ynm yX7_allow 3 := ⟨by decide +kernel, by decide +kernel, by decide +kernel⟩
theorem hyX7_forbid : ynm yX7_forbid 0 := ⟨by decide +kernel, by decide +kernel, by decide +kernel⟩
theorem hyX7_bid : ynm yX7_bid 2 := ⟨by decide +kernel, by decide +kernel, by decide +kernel⟩
theorem hyX7_ask : ynm yX7_ask 3 := ⟨by decide +kernel, by decide +kernel, by decide +kernel⟩
theorem hyX7_raise : ynm yX7_raise 2 := ⟨by decide +kernel, by decide +kernel, by decide +kernel⟩
theorem hyX7_cancel : ynm yX7_cancel 1 := ⟨by decide +kernel, by decide +kernel, by decide +kernel⟩
theorem hyX7_suits : ynm yX7_suits 2 := ⟨by decide +kernel, by decide +kernel, by decide +kernel⟩
theorem hyX7_gather : ynm yX7_gather 0 := ⟨by decide +kernel, by decide +kernel, by decide +kernel⟩
theorem hyX7_adds : ynm yX7_adds 2 := ⟨by decide +kernel, by decide +kernel, by decide +kernel⟩
theorem hyX7_least : ynm yX7_least 1 := ⟨by decide +kernel, by decide +kernel, by decide +kernel⟩
theorem hyX7_walk : ynm yX7_walk 5 := ⟨by decide +kernel, by decide +kernel, by decide +kernel⟩
theorem hyX7_all : ynm yX7_all 0 := ⟨by decide +kernel, by decide +kernel, by decide +kernel⟩
theorem hyX7_isAhead : ynm yX7_isAhead 2 := ⟨by decide +kernel, by decide +kernel, by decide +kernel⟩
theorem hyX7_best : ynm yX7_best 1 := ⟨by decide +kernel, by decide +kernel, by decide +kernel⟩
theorem hyX7_pays : ynm yX7_pays 2 := ⟨by decide +kernel, by decide +kernel, by decide +kernel⟩
theorem hyX7_isInSet : ynm yX7_isInSet 2 := ⟨by decide +kernel, by decide +kernel, by decide +kernel⟩
theorem hyX7_gives : ynm yX7_gives 1 := ⟨by decide +kernel, by decide +kernel, by decide +kernel⟩
theorem hyX7_close : ynm yX7_close 0 := ⟨by decide +kernel, by decide +kernel, by decide +kernel⟩
theorem hyX7_why : ynm yX7_why 2 := ⟨by decide +kernel, by decide +kernel, by decide +kernel⟩
theorem hyX7_lots : ynm yX7_lots 0 := ⟨by decide +kernel, by decide +kernel, by decide +kernel⟩
theorem hyX7_bids : ynm yX7_bids 0 := ⟨by decide +kernel, by decide +kernel, by decide +kernel⟩
theorem hyX7_openLots : ynm yX7_openLots 0 := ⟨by decide +kernel, by decide +kernel, by decide +kernel⟩
theorem hyX7_openBids : ynm yX7_openBids 0 := ⟨by decide +kernel, by decide +kernel, by decide +kernel⟩
theorem hyX7_noLot : ynm yX7_noLot 1 := ⟨by decide +kernel, by decide +kernel, by decide +kernel⟩
theorem hyX7_fibreOf : ynm yX7_fibreOf 1 := ⟨by decide +kernel, by decide +kernel, by decide +kernel⟩
theorem hyX7_gradeOf : ynm yX7_gradeOf 1 := ⟨by decide +kernel, by decide +kernel, by decide +kernel⟩
theorem hyX7_reserveOf : ynm yX7_reserveOf 1 := ⟨by decide +kernel, by decide +kernel, by decide +kernel⟩
theorem hyX7_lotState : ynm yX7_lotState 1 := ⟨by decide +kernel, by decide +kernel, by decide +kernel⟩
theorem hyX7_soldTo : ynm yX7_soldTo 1 := ⟨by decide +kernel, by decide +kernel, by decide +kernel⟩
theorem hyX7_countOf : ynm yX7_countOf 2 := ⟨by decide +kernel, by decide +kernel, by decide +kernel⟩
theorem hyX7_noBid : ynm yX7_noBid 1 := ⟨by decide +kernel, by decide +kernel, by decide +kernel⟩
theorem hyX7_items : ynm yX7_items 1 := ⟨by decide +kernel, by decide +kernel, by decide +kernel⟩
theorem hyX7_fits : ynm yX7_fits 3 := ⟨by decide +kernel, by decide +kernel, by decide +kernel⟩
theorem hyX7_fitting : ynm yX7_fitting 2 := ⟨by decide +kernel, by decide +kernel, by decide +kernel⟩
theorem hyX7_priceOf : ynm yX7_priceOf 1 := ⟨by decide +kernel, by decide +kernel, by decide +kernel⟩
theorem hyX7_stateOf : ynm yX7_stateOf 1 := ⟨by decide +kernel, by decide +kernel, by decide +kernel⟩
theorem hyX7_reason : ynm yX7_reason 1 := ⟨by decide +kernel, by decide +kernel, by decide +kernel⟩
theorem hyX7_rival : ynm yX7_rival 1 := ⟨by decide +kernel, by decide +kernel, by decide +kernel⟩
theorem hyX7_lotOf : ynm yX7_lotOf 2 := ⟨by decide +kernel, by decide +kernel, by decide +kernel⟩
theorem hyX7_paid : ynm yX7_paid 1 := ⟨by decide +kernel, by decide +kernel, by decide +kernel⟩
theorem hyX7_costOf : ynm yX7_costOf 1 := ⟨by decide +kernel, by decide +kernel, by decide +kernel⟩
theorem hyX7_surplus : ynm yX7_surplus 0 := ⟨by decide +kernel, by decide +kernel, by decide +kernel⟩
theorem hyX7_surplusBySets : ynm yX7_surplusBySets 0 := ⟨by decide +kernel, by decide +kernel, by decide +kernel⟩
theorem hyX7_surplusWithout : ynm yX7_surplusWithout 1 := ⟨by decide +kernel, by decide +kernel, by decide +kernel⟩
theorem hyX7_wouldWin : ynm yX7_wouldWin 1 := ⟨by decide +kernel, by decide +kernel, by decide +kernel⟩
theorem hyX7_wouldWinBySets : ynm yX7_wouldWinBySets 1 := ⟨by decide +kernel, by decide +kernel, by decide +kernel⟩
theorem hyX7_lotFor : ynm yX7_lotFor 2 := ⟨by decide +kernel, by decide +kernel, by decide +kernel⟩
theorem hyX7_payment : ynm yX7_payment 1 := ⟨by decide +kernel, by decide +kernel, by decide +kernel⟩
theorem hyX7_takings : ynm yX7_takings 0 := ⟨by decide +kernel, by decide +kernel, by decide +kernel⟩
theorem hyX7_soldShare : ynm yX7_soldShare 0 := ⟨by decide +kernel, by decide +kernel, by decide +kernel⟩
theorem hyX7_meanPaid : ynm yX7_meanPaid 0 := ⟨by decide +kernel, by decide +kernel, by decide +kernel⟩
theorem hyJx00060_init_a7421 : ynm yJx00060_init_a7421 1 := ⟨by decide +kernel, by decide +kernel, by decide +kernel⟩
theorem hyJ6_bitCount_0f7a4 : ynm yJ6_bitCount_0f7a4 1 := ⟨by decide +kernel, by decide +kernel, by decide +kernel⟩
theorem hyJ9_max_7cf53 : ynm yJ9_max_7cf53 2 := ⟨by decide +kernel, by decide +kernel, by decide +kernel⟩
theorem hyJ9_min_7cf53 : ynm yJ9_min_7cf53 2 := ⟨by decide +kernel, by decide +kernel, by decide +kernel⟩
theorem hyJxa1e45_init_da8c8 : ynm yJxa1e45_init_da8c8 0 := ⟨by decide +kernel, by decide +kernel, by decide +kernel⟩
theorem hyJxc12de_init_da8c8 : ynm yJxc12de_init_da8c8 0 := ⟨by decide +kernel, by decide +kernel, by decide +kernel⟩
theorem hyJx4a65c_init_da8c8 : ynm yJx4a65c_init_da8c8 0 := ⟨by decide +kernel, by decide +kernel, by decide +kernel⟩
theorem hyJx4a65c_grow_92f84 : ynm yJx4a65c_grow_92f84 1 := ⟨by decide +kernel, by decide +kernel, by decide +kernel⟩
theorem hyJx4a65c_grow_d5877 : ynm yJx4a65c_grow_d5877 0 := ⟨by decide +kernel, by decide +kernel, by decide +kernel⟩
theorem hyJx4a65c_size_8abf5 : ynm yJx4a65c_size_8abf5 0 := ⟨by decide +kernel, by decide +kernel, by decide +kernel⟩
theorem hyJx4a65c_isEmpty_aae02 : ynm yJx4a65c_isEmpty_aae02 0 := ⟨by decide +kernel, by decide +kernel, by decide +kernel⟩
theorem hyJx4a65c_elementData_915e3 : ynm yJx4a65c_elementData_915e3 1 := ⟨by decide +kernel, by decide +kernel, by decide +kernel⟩
theorem hyJx4a65c_get_915e3 : ynm yJx4a65c_get_915e3 1 := ⟨by decide +kernel, by decide +kernel, by decide +kernel⟩
theorem hyJx4a65c_add_72be8 : ynm yJx4a65c_add_72be8 3 := ⟨by decide +kernel, by decide +kernel, by decide +kernel⟩
theorem hyJx4a65c_add_9ea2d : ynm yJx4a65c_add_9ea2d 1 := ⟨by decide +kernel, by decide +kernel, by decide +kernel⟩
theorem hyJx4a65c_remove_915e3 : ynm yJx4a65c_remove_915e3 1 := ⟨by decide +kernel, by decide +kernel, by decide +kernel⟩
theorem hyJx4a65c_fastRemove_b59b0 : ynm yJx4a65c_fastRemove_b59b0 2 := ⟨by decide +kernel, by decide +kernel, by decide +kernel⟩
theorem hyJ7_copyOf_1904c : ynm yJ7_copyOf_1904c 2 := ⟨by decide +kernel, by decide +kernel, by decide +kernel⟩
theorem hyJ7_copyOf_6403c : ynm yJ7_copyOf_6403c 3 := ⟨by decide +kernel, by decide +kernel, by decide +kernel⟩
theorem hyJ15_checkIndex_7cf53 : ynm yJ15_checkIndex_7cf53 2 := ⟨by decide +kernel, by decide +kernel, by decide +kernel⟩
theorem hyJ8_newLength_cabcc : ynm yJ8_newLength_cabcc 3 := ⟨by decide +kernel, by decide +kernel, by decide +kernel⟩
theorem hyJ8_hugeLength_7cf53 : ynm yJ8_hugeLength_7cf53 2 := ⟨by decide +kernel, by decide +kernel, by decide +kernel⟩
theorem hyJ3_checkIndex_8e157 : ynm yJ3_checkIndex_8e157 3 := ⟨by decide +kernel, by decide +kernel, by decide +kernel⟩
theorem hyL_offer : ynm yL_offer 5 := ⟨by decide +kernel, by decide +kernel, by decide +kernel⟩
theorem hyL_withdraw : ynm yL_withdraw 3 := ⟨by decide +kernel, by decide +kernel, by decide +kernel⟩
theorem hyL_allow : ynm yL_allow 5 := ⟨by decide +kernel, by decide +kernel, by decide +kernel⟩
theorem hyL_forbid : ynm yL_forbid 2 := ⟨by decide +kernel, by decide +kernel, by decide +kernel⟩
theorem hyL_bid : ynm yL_bid 4 := ⟨by decide +kernel, by decide +kernel, by decide +kernel⟩
theorem hyL_ask : ynm yL_ask 5 := ⟨by decide +kernel, by decide +kernel, by decide +kernel⟩
theorem hyL_raise : ynm yL_raise 4 := ⟨by decide +kernel, by decide +kernel, by decide +kernel⟩
theorem hyL_cancel : ynm yL_cancel 3 := ⟨by decide +kernel, by decide +kernel, by decide +kernel⟩
theorem hyL_close : ynm yL_close 2 := ⟨by decide +kernel, by decide +kernel, by decide +kernel⟩
theorem hyL_fibreOf : ynm yL_fibreOf 3 := ⟨by decide +kernel, by decide +kernel, by decide +kernel⟩
theorem hyL_gradeOf : ynm yL_gradeOf 3 := ⟨by decide +kernel, by decide +kernel, by decide +kernel⟩
theorem hyL_reserveOf : ynm yL_reserveOf 3 := ⟨by decide +kernel, by decide +kernel, by decide +kernel⟩
theorem hyL_lotState : ynm yL_lotState 3 := ⟨by decide +kernel, by decide +kernel, by decide +kernel⟩
theorem hyL_soldTo : ynm yL_soldTo 3 := ⟨by decide +kernel, by decide +kernel, by decide +kernel⟩
theorem hyL_countOf : ynm yL_countOf 4 := ⟨by decide +kernel, by decide +kernel, by decide +kernel⟩
theorem hyL_items : ynm yL_items 3 := ⟨by decide +kernel, by decide +kernel, by decide +kernel⟩
theorem hyL_fits : ynm yL_fits 5 := ⟨by decide +kernel, by decide +kernel, by decide +kernel⟩
theorem hyL_fitting : ynm yL_fitting 4 := ⟨by decide +kernel, by decide +kernel, by decide +kernel⟩
theorem hyL_priceOf : ynm yL_priceOf 3 := ⟨by decide +kernel, by decide +kernel, by decide +kernel⟩
theorem hyL_stateOf : ynm yL_stateOf 3 := ⟨by decide +kernel, by decide +kernel, by decide +kernel⟩
theorem hyL_reason : ynm yL_reason 3 := ⟨by decide +kernel, by decide +kernel, by decide +kernel⟩
theorem hyL_rival : ynm yL_rival 3 := ⟨by decide +kernel, by decide +kernel, by decide +kernel⟩
theorem hyL_lotOf : ynm yL_lotOf 4 := ⟨by decide +kernel, by decide +kernel, by decide +kernel⟩
theorem hyL_paid : ynm yL_paid 3 := ⟨by decide +kernel, by decide +kernel, by decide +kernel⟩
theorem hyL_costOf : ynm yL_costOf 3 := ⟨by decide +kernel, by decide +kernel, by decide +kernel⟩
theorem hyL_surplusWithout : ynm yL_surplusWithout 3 := ⟨by decide +kernel, by decide +kernel, by decide +kernel⟩
theorem hyL_wouldWin : ynm yL_wouldWin 3 := ⟨by decide +kernel, by decide +kernel, by decide +kernel⟩
theorem hyL_wouldWinBySets : ynm yL_wouldWinBySets 3 := ⟨by decide +kernel, by decide +kernel, by decide +kernel⟩
theorem hyL_lotFor : ynm yL_lotFor 4 := ⟨by decide +kernel, by decide +kernel, by decide +kernel⟩
theorem hyL_payment : ynm yL_payment 3 := ⟨by decide +kernel, by decide +kernel, by decide +kernel⟩
theorem hyL_soldShare : ynm yL_soldShare 2 := ⟨by decide +kernel, by decide +kernel, by decide +kernel⟩
theorem hyL_meanPaid : ynm yL_meanPaid 2 := ⟨by decide +kernel, by decide +kernel, by decide +kernel⟩
theorem hyL_law : ynm yL_law 1 := ⟨by decide +kernel, by decide +kernel, by decide +kernel⟩
def RM (d mc ms : Nat) : Room := { frames := d + 8, cells := mc, slots := ms, locals := 40 * d + 160 }
section XM
variable {p : Program} {l : Launch} {e : Env} {R : Room} {s : State} {m : MethodId} {args : Array Value} {below : List Frame} {meth : Method} {c : Code} {H : Heap} {locs : List Loc} {cells slots : Nat} {Q : State → Prop}
variable {cc : ByteArray} {nL pc : Nat} {ls : Array Slot} {rest : List Value} {own : String} {rt : Option FieldType} {G : Gt} {A : Nat → Prop} {w : va_W}
theorem n_ishl1 (hx : p.tables.exec = Jvm.exec) (hb : c.code = cc) {b : Nat} (hb2 : b < 31) (hdg : decode cc pc = .ok (.ishl, 1)) (k : W p l e R s m args below meth c H locs cells slots Q (F0 m (pc + 1) ls (.int (nI (2 ^ b)) :: rest))) : W p l e R s m args below meth c H locs cells slots Q (F0 m pc ls (.int (nI b) :: .int (nI 1) :: rest)) :=
  n_ishl hx hb (by omega) (by rw [Nat.one_mul]; exact Nat.pow_lt_pow_right (by decide) (by omega)) hdg (by rw [Nat.one_mul]; exact k)
theorem nI_min {a b : Nat} (ha : a < 2 ^ 31) (hb : b < 2 ^ 31) : (if nI b < nI a then nI b else nI a) = nI (min a b) := by
  split
  · rename_i h
    rw [nI_ltI hb ha] at h
    rw [Nat.min_eq_right (by omega)]
  · rename_i h
    rw [nI_ltI hb ha] at h
    rw [Nat.min_eq_left (by omega)]
theorem x_min (X : Cx p s m args meth c cc nL own rt G A) (hsz : ls.size = nL) {a b idx : Nat} (ha : a < 2 ^ 31) (hb : b < 2 ^ 31) (g1 : Cond.methodLink own idx yJ9_min_7cf53 ∈ WW) (hf : 1 ≤ R.frames) (hlo : (rest.map fun v => v.category).sum + 13 ≤ R.locals) (hc : cells ≤ R.cells) (hs : slots ≤ R.slots) (hdg : decode cc pc = .ok (.invokestatic idx, 3)) (k : W p l e R s m args below meth c H locs cells slots Q (F0 m (pc + 3) ls (.int (nI (min a b)) :: rest))) : W p l e R s m args below meth c H locs cells slots Q (F0 m pc ls (.int (nI b) :: .int (nI a) :: rest)) :=
  va_mmin X.exec X.bytes (X.ml.trans hsz.symm) X.own (X.ws _ g1) (X.ws _ wq_355) (X.ws _ wq_75) (X.ws _ wq_356) hf hlo hc hs hdg (by rw [nI_min ha hb]; exact k)
theorem r_nz {a : Nat} (k : W p l e R s m args below meth c H locs cells slots Q (F0 m pc ls (.int (zI (a : Int)) :: rest))) : W p l e R s m args below meth c H locs cells slots Q (F0 m pc ls (.int (nI a) :: rest)) := by
  rw [nZ]; exact k
theorem r_n {a b : Nat} (h : a = b) (k : W p l e R s m args below meth c H locs cells slots Q (F0 m pc ls (.int (nI b) :: rest))) : W p l e R s m args below meth c H locs cells slots Q (F0 m pc ls (.int (nI a) :: rest)) := by
  rw [h]; exact k
theorem r_z {a b : Int} (h : a = b) (k : W p l e R s m args below meth c H locs cells slots Q (F0 m pc ls (.int (zI b) :: rest))) : W p l e R s m args below meth c H locs cells slots Q (F0 m pc ls (.int (zI a) :: rest)) := by
  rw [h]; exact k
theorem r_zn {z : Int} {a : Nat} (h : z = (a : Int)) (k : W p l e R s m args below meth c H locs cells slots Q (F0 m pc ls (.int (nI a) :: rest))) : W p l e R s m args below meth c H locs cells slots Q (F0 m pc ls (.int (zI z) :: rest)) := by
  rw [h, ← nZ]; exact k
theorem r_i {x y : Int32} (h : x = y) (k : W p l e R s m args below meth c H locs cells slots Q (F0 m pc ls (.int y :: rest))) : W p l e R s m args below meth c H locs cells slots Q (F0 m pc ls (.int x :: rest)) := by
  rw [h]; exact k
end XM
/-- the floor: its lots, bids and items counted; its rows -/
def fW (G : Gt) (f : Nat → Nat) (lc bc ql : Nat) (ln rs rm bn bd pr ic fl qu rc : Nat → Nat) (gp : Nat → Int) : va_W := [(f 0, .inr (4, [.ref (f 1), .ref (f 2), .ref (f 3), .ref (f 4), .ref (f 5), .ref (f 6), .ref (f 7), .ref (f 8), .ref (f 9), .ref (f 10), .ref (f 11), .int (nI lc), .int (nI bc), .int (nI ql)])), (f 1, .inl (G.2.1 0, 8, .inl (nF ln))), (f 2, .inl (G.2.1 0, 8, .inl (nF rs))), (f 3, .inl (G.2.1 0, 256, .inl (nF rm))), (f 4, .inl (G.2.1 0, 8, .inl (nF bn))), (f 5, .inl (G.2.1 0, 8, .inl (nF bd))), (f 6, .inl (G.2.1 0, 8, .inl (nF pr))), (f 7, .inl (G.2.1 0, 8, .inl (nF ic))), (f 8, .inl (G.2.1 0, 24, .inl (nF fl))), (f 9, .inl (G.2.1 0, 8, .inl (nF qu))), (f 10, .inl (G.2.1 0, 256, .inl (nF rc))), (f 11, .inl (G.2.1 0, 8, .inl (zF gp)))]
/-- the search: its rows, what it found -/
def sW (G : Gt) (h : Nat → Nat) (bs : Nat) (bv : Int) (cf wt : Nat → Nat) (ho : Nat → Nat) : va_W := [(h 0, .inr (8, [.ref (h 1), .ref (h 2), .ref (h 3), .int (nI bs), .int (zI bv)])), (h 1, .inl (G.2.1 2, 256, .inl (nF cf))), (h 2, .inl (G.2.1 2, 8, .inl (nF wt))), (h 3, .inl (G.2.1 0, 9, .inl (nF ho)))]
