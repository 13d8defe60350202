theorem dX0_init_0 : decode cX0_init 0 = .ok (.aload_n 0, 1) := by decide +kernel
theorem dX0_init_1 : decode cX0_init 1 = .ok (.invokespecial 3, 3) := by decide +kernel
theorem dX0_init_4 : decode cX0_init 4 = .ok (.aload_n 0, 1) := by decide +kernel
theorem dX0_init_5 : decode cX0_init 5 = .ok (.new 9, 3) := by decide +kernel
theorem dX0_init_8 : decode cX0_init 8 = .ok (.dup, 1) := by decide +kernel
theorem dX0_init_9 : decode cX0_init 9 = .ok (.invokespecial 11, 3) := by decide +kernel
theorem dX0_init_12 : decode cX0_init 12 = .ok (.putfield 12, 3) := by decide +kernel
theorem dX0_init_15 : decode cX0_init 15 = .ok (.aload_n 0, 1) := by decide +kernel
theorem dX0_init_16 : decode cX0_init 16 = .ok (.bipush 111, 2) := by decide +kernel
theorem dX0_init_18 : decode cX0_init 18 = .ok (.putfield 18, 3) := by decide +kernel
theorem dX0_init_21 : decode cX0_init 21 = .ok (.aload_n 0, 1) := by decide +kernel
theorem dX0_init_22 : decode cX0_init 22 = .ok (.bipush 109, 2) := by decide +kernel
theorem dX0_init_24 : decode cX0_init 24 = .ok (.putfield 22, 3) := by decide +kernel
theorem dX0_init_27 : decode cX0_init 27 = .ok (.aload_n 0, 1) := by decide +kernel
theorem dX0_init_28 : decode cX0_init 28 = .ok (.iconst (-1), 1) := by decide +kernel
theorem dX0_init_29 : decode cX0_init 29 = .ok (.putfield 25, 3) := by decide +kernel
theorem dX0_init_32 : decode cX0_init 32 = .ok (.aload_n 0, 1) := by decide +kernel
theorem dX0_init_33 : decode cX0_init 33 = .ok (.iload_n 1, 1) := by decide +kernel
theorem dX0_init_34 : decode cX0_init 34 = .ok (.putfield 29, 3) := by decide +kernel
theorem dX0_init_37 : decode cX0_init 37 = .ok (.aload_n 0, 1) := by decide +kernel
theorem dX0_init_38 : decode cX0_init 38 = .ok (.iload_n 2, 1) := by decide +kernel
theorem dX0_init_39 : decode cX0_init 39 = .ok (.putfield 32, 3) := by decide +kernel
theorem dX0_init_42 : decode cX0_init 42 = .ok (.return_, 1) := by decide +kernel
theorem dX1_init_0 : decode cX1_init 0 = .ok (.aload_n 0, 1) := by decide +kernel
theorem dX1_init_1 : decode cX1_init 1 = .ok (.invokespecial 3, 3) := by decide +kernel
theorem dX1_init_4 : decode cX1_init 4 = .ok (.aload_n 0, 1) := by decide +kernel
theorem dX1_init_5 : decode cX1_init 5 = .ok (.bipush 8, 2) := by decide +kernel
theorem dX1_init_7 : decode cX1_init 7 = .ok (.newarray .int, 2) := by decide +kernel
theorem dX1_init_9 : decode cX1_init 9 = .ok (.putfield 9, 3) := by decide +kernel
theorem dX1_init_12 : decode cX1_init 12 = .ok (.aload_n 0, 1) := by decide +kernel
theorem dX1_init_13 : decode cX1_init 13 = .ok (.bipush 8, 2) := by decide +kernel
theorem dX1_init_15 : decode cX1_init 15 = .ok (.newarray .int, 2) := by decide +kernel
theorem dX1_init_17 : decode cX1_init 17 = .ok (.putfield 15, 3) := by decide +kernel
theorem dX1_init_20 : decode cX1_init 20 = .ok (.aload_n 0, 1) := by decide +kernel
theorem dX1_init_21 : decode cX1_init 21 = .ok (.sipush 256, 3) := by decide +kernel
theorem dX1_init_24 : decode cX1_init 24 = .ok (.newarray .int, 2) := by decide +kernel
theorem dX1_init_26 : decode cX1_init 26 = .ok (.putfield 18, 3) := by decide +kernel
theorem dX1_init_29 : decode cX1_init 29 = .ok (.aload_n 0, 1) := by decide +kernel
theorem dX1_init_30 : decode cX1_init 30 = .ok (.bipush 8, 2) := by decide +kernel
theorem dX1_init_32 : decode cX1_init 32 = .ok (.newarray .int, 2) := by decide +kernel
theorem dX1_init_34 : decode cX1_init 34 = .ok (.putfield 21, 3) := by decide +kernel
theorem dX1_init_37 : decode cX1_init 37 = .ok (.aload_n 0, 1) := by decide +kernel
theorem dX1_init_38 : decode cX1_init 38 = .ok (.bipush 8, 2) := by decide +kernel
theorem dX1_init_40 : decode cX1_init 40 = .ok (.newarray .int, 2) := by decide +kernel
theorem dX1_init_42 : decode cX1_init 42 = .ok (.putfield 24, 3) := by decide +kernel
theorem dX1_init_45 : decode cX1_init 45 = .ok (.aload_n 0, 1) := by decide +kernel
theorem dX1_init_46 : decode cX1_init 46 = .ok (.bipush 8, 2) := by decide +kernel
theorem dX1_init_48 : decode cX1_init 48 = .ok (.newarray .int, 2) := by decide +kernel
theorem dX1_init_50 : decode cX1_init 50 = .ok (.putfield 27, 3) := by decide +kernel
theorem dX1_init_53 : decode cX1_init 53 = .ok (.aload_n 0, 1) := by decide +kernel
theorem dX1_init_54 : decode cX1_init 54 = .ok (.bipush 8, 2) := by decide +kernel
theorem dX1_init_56 : decode cX1_init 56 = .ok (.newarray .int, 2) := by decide +kernel
theorem dX1_init_58 : decode cX1_init 58 = .ok (.putfield 30, 3) := by decide +kernel
theorem dX1_init_61 : decode cX1_init 61 = .ok (.aload_n 0, 1) := by decide +kernel
theorem dX1_init_62 : decode cX1_init 62 = .ok (.bipush 24, 2) := by decide +kernel
theorem dX1_init_64 : decode cX1_init 64 = .ok (.newarray .int, 2) := by decide +kernel
theorem dX1_init_66 : decode cX1_init 66 = .ok (.putfield 33, 3) := by decide +kernel
theorem dX1_init_69 : decode cX1_init 69 = .ok (.aload_n 0, 1) := by decide +kernel
theorem dX1_init_70 : decode cX1_init 70 = .ok (.bipush 8, 2) := by decide +kernel
theorem dX1_init_72 : decode cX1_init 72 = .ok (.newarray .int, 2) := by decide +kernel
theorem dX1_init_74 : decode cX1_init 74 = .ok (.putfield 36, 3) := by decide +kernel
theorem dX1_init_77 : decode cX1_init 77 = .ok (.aload_n 0, 1) := by decide +kernel
theorem dX1_init_78 : decode cX1_init 78 = .ok (.sipush 256, 3) := by decide +kernel
theorem dX1_init_81 : decode cX1_init 81 = .ok (.newarray .int, 2) := by decide +kernel
theorem dX1_init_83 : decode cX1_init 83 = .ok (.putfield 39, 3) := by decide +kernel
theorem dX1_init_86 : decode cX1_init 86 = .ok (.aload_n 0, 1) := by decide +kernel
theorem dX1_init_87 : decode cX1_init 87 = .ok (.bipush 8, 2) := by decide +kernel
theorem dX1_init_89 : decode cX1_init 89 = .ok (.newarray .int, 2) := by decide +kernel
theorem dX1_init_91 : decode cX1_init 91 = .ok (.putfield 42, 3) := by decide +kernel
theorem dX1_init_94 : decode cX1_init 94 = .ok (.return_, 1) := by decide +kernel
theorem dX1_clearAll_0 : decode cX1_clearAll 0 = .ok (.aload_n 0, 1) := by decide +kernel
theorem dX1_clearAll_1 : decode cX1_clearAll 1 = .ok (.iconst 0, 1) := by decide +kernel
theorem dX1_clearAll_2 : decode cX1_clearAll 2 = .ok (.putfield 45, 3) := by decide +kernel
theorem dX1_clearAll_5 : decode cX1_clearAll 5 = .ok (.aload_n 0, 1) := by decide +kernel
theorem dX1_clearAll_6 : decode cX1_clearAll 6 = .ok (.iconst 0, 1) := by decide +kernel
theorem dX1_clearAll_7 : decode cX1_clearAll 7 = .ok (.putfield 49, 3) := by decide +kernel
theorem dX1_clearAll_10 : decode cX1_clearAll 10 = .ok (.aload_n 0, 1) := by decide +kernel
theorem dX1_clearAll_11 : decode cX1_clearAll 11 = .ok (.iconst 0, 1) := by decide +kernel
theorem dX1_clearAll_12 : decode cX1_clearAll 12 = .ok (.putfield 52, 3) := by decide +kernel
theorem dX1_clearAll_15 : decode cX1_clearAll 15 = .ok (.return_, 1) := by decide +kernel
theorem dX1_addLot_0 : decode cX1_addLot 0 = .ok (.aload_n 0, 1) := by decide +kernel
theorem dX1_addLot_1 : decode cX1_addLot 1 = .ok (.getfield 45, 3) := by decide +kernel
theorem dX1_addLot_4 : decode cX1_addLot 4 = .ok (.bipush 8, 2) := by decide +kernel
theorem dX1_addLot_6 : decode cX1_addLot 6 = .ok (.if_icmp .lt 4, 3) := by decide +kernel
theorem dX1_addLot_9 : decode cX1_addLot 9 = .ok (.return_, 1) := by decide +kernel
theorem dX1_addLot_10 : decode cX1_addLot 10 = .ok (.iconst 1, 1) := by decide +kernel
theorem dX1_addLot_11 : decode cX1_addLot 11 = .ok (.aload_n 0, 1) := by decide +kernel
theorem dX1_addLot_12 : decode cX1_addLot 12 = .ok (.getfield 45, 3) := by decide +kernel
theorem dX1_addLot_15 : decode cX1_addLot 15 = .ok (.ishl, 1) := by decide +kernel
theorem dX1_addLot_16 : decode cX1_addLot 16 = .ok (.istore_n 3, 1) := by decide +kernel
theorem dX1_addLot_17 : decode cX1_addLot 17 = .ok (.iconst 0, 1) := by decide +kernel
theorem dX1_addLot_18 : decode cX1_addLot 18 = .ok (.istore 4, 2) := by decide +kernel
theorem dX1_addLot_20 : decode cX1_addLot 20 = .ok (.iload 4, 2) := by decide +kernel
theorem dX1_addLot_22 : decode cX1_addLot 22 = .ok (.iload_n 3, 1) := by decide +kernel
theorem dX1_addLot_23 : decode cX1_addLot 23 = .ok (.if_icmp .ge 27, 3) := by decide +kernel
theorem dX1_addLot_26 : decode cX1_addLot 26 = .ok (.aload_n 0, 1) := by decide +kernel
theorem dX1_addLot_27 : decode cX1_addLot 27 = .ok (.getfield 18, 3) := by decide +kernel
theorem dX1_addLot_30 : decode cX1_addLot 30 = .ok (.iload_n 3, 1) := by decide +kernel
theorem dX1_addLot_31 : decode cX1_addLot 31 = .ok (.iload 4, 2) := by decide +kernel
theorem dX1_addLot_33 : decode cX1_addLot 33 = .ok (.ior, 1) := by decide +kernel
theorem dX1_addLot_34 : decode cX1_addLot 34 = .ok (.aload_n 0, 1) := by decide +kernel
theorem dX1_addLot_35 : decode cX1_addLot 35 = .ok (.getfield 18, 3) := by decide +kernel
theorem dX1_addLot_38 : decode cX1_addLot 38 = .ok (.iload 4, 2) := by decide +kernel
theorem dX1_addLot_40 : decode cX1_addLot 40 = .ok (.iaload, 1) := by decide +kernel
theorem dX1_addLot_41 : decode cX1_addLot 41 = .ok (.iload_n 2, 1) := by decide +kernel
theorem dX1_addLot_42 : decode cX1_addLot 42 = .ok (.iadd, 1) := by decide +kernel
theorem dX1_addLot_43 : decode cX1_addLot 43 = .ok (.iastore, 1) := by decide +kernel
theorem dX1_addLot_44 : decode cX1_addLot 44 = .ok (.iinc 4 1, 3) := by decide +kernel
theorem dX1_addLot_47 : decode cX1_addLot 47 = .ok (.goto (-27), 3) := by decide +kernel
theorem dX1_addLot_50 : decode cX1_addLot 50 = .ok (.aload_n 0, 1) := by decide +kernel
theorem dX1_addLot_51 : decode cX1_addLot 51 = .ok (.getfield 9, 3) := by decide +kernel
theorem dX1_addLot_54 : decode cX1_addLot 54 = .ok (.aload_n 0, 1) := by decide +kernel
theorem dX1_addLot_55 : decode cX1_addLot 55 = .ok (.getfield 45, 3) := by decide +kernel
theorem dX1_addLot_58 : decode cX1_addLot 58 = .ok (.iload_n 1, 1) := by decide +kernel
theorem dX1_addLot_59 : decode cX1_addLot 59 = .ok (.iastore, 1) := by decide +kernel
theorem dX1_addLot_60 : decode cX1_addLot 60 = .ok (.aload_n 0, 1) := by decide +kernel
theorem dX1_addLot_61 : decode cX1_addLot 61 = .ok (.getfield 15, 3) := by decide +kernel
theorem dX1_addLot_64 : decode cX1_addLot 64 = .ok (.aload_n 0, 1) := by decide +kernel
theorem dX1_addLot_65 : decode cX1_addLot 65 = .ok (.getfield 45, 3) := by decide +kernel
theorem dX1_addLot_68 : decode cX1_addLot 68 = .ok (.iload_n 2, 1) := by decide +kernel
theorem dX1_addLot_69 : decode cX1_addLot 69 = .ok (.iastore, 1) := by decide +kernel
theorem dX1_addLot_70 : decode cX1_addLot 70 = .ok (.aload_n 0, 1) := by decide +kernel
theorem dX1_addLot_71 : decode cX1_addLot 71 = .ok (.dup, 1) := by decide +kernel
theorem dX1_addLot_72 : decode cX1_addLot 72 = .ok (.getfield 45, 3) := by decide +kernel
theorem dX1_addLot_75 : decode cX1_addLot 75 = .ok (.iconst 1, 1) := by decide +kernel
theorem dX1_addLot_76 : decode cX1_addLot 76 = .ok (.iadd, 1) := by decide +kernel
theorem dX1_addLot_77 : decode cX1_addLot 77 = .ok (.putfield 45, 3) := by decide +kernel
theorem dX1_addLot_80 : decode cX1_addLot 80 = .ok (.return_, 1) := by decide +kernel
theorem dX1_addBid_0 : decode cX1_addBid 0 = .ok (.aload_n 0, 1) := by decide +kernel
theorem dX1_addBid_1 : decode cX1_addBid 1 = .ok (.getfield 49, 3) := by decide +kernel
theorem dX1_addBid_4 : decode cX1_addBid 4 = .ok (.bipush 8, 2) := by decide +kernel
theorem dX1_addBid_6 : decode cX1_addBid 6 = .ok (.if_icmp .lt 4, 3) := by decide +kernel
theorem dX1_addBid_9 : decode cX1_addBid 9 = .ok (.return_, 1) := by decide +kernel
theorem dX1_addBid_10 : decode cX1_addBid 10 = .ok (.aload_n 0, 1) := by decide +kernel
theorem dX1_addBid_11 : decode cX1_addBid 11 = .ok (.getfield 21, 3) := by decide +kernel
theorem dX1_addBid_14 : decode cX1_addBid 14 = .ok (.aload_n 0, 1) := by decide +kernel
theorem dX1_addBid_15 : decode cX1_addBid 15 = .ok (.getfield 49, 3) := by decide +kernel
theorem dX1_addBid_18 : decode cX1_addBid 18 = .ok (.iload_n 1, 1) := by decide +kernel
theorem dX1_addBid_19 : decode cX1_addBid 19 = .ok (.iastore, 1) := by decide +kernel
theorem dX1_addBid_20 : decode cX1_addBid 20 = .ok (.aload_n 0, 1) := by decide +kernel
theorem dX1_addBid_21 : decode cX1_addBid 21 = .ok (.getfield 24, 3) := by decide +kernel
theorem dX1_addBid_24 : decode cX1_addBid 24 = .ok (.aload_n 0, 1) := by decide +kernel
theorem dX1_addBid_25 : decode cX1_addBid 25 = .ok (.getfield 49, 3) := by decide +kernel
theorem dX1_addBid_28 : decode cX1_addBid 28 = .ok (.iload_n 2, 1) := by decide +kernel
theorem dX1_addBid_29 : decode cX1_addBid 29 = .ok (.iastore, 1) := by decide +kernel
theorem dX1_addBid_30 : decode cX1_addBid 30 = .ok (.aload_n 0, 1) := by decide +kernel
theorem dX1_addBid_31 : decode cX1_addBid 31 = .ok (.getfield 27, 3) := by decide +kernel
theorem dX1_addBid_34 : decode cX1_addBid 34 = .ok (.aload_n 0, 1) := by decide +kernel
theorem dX1_addBid_35 : decode cX1_addBid 35 = .ok (.getfield 49, 3) := by decide +kernel
theorem dX1_addBid_38 : decode cX1_addBid 38 = .ok (.iload_n 3, 1) := by decide +kernel
theorem dX1_addBid_39 : decode cX1_addBid 39 = .ok (.iastore, 1) := by decide +kernel
theorem dX1_addBid_40 : decode cX1_addBid 40 = .ok (.aload_n 0, 1) := by decide +kernel
theorem dX1_addBid_41 : decode cX1_addBid 41 = .ok (.getfield 30, 3) := by decide +kernel
theorem dX1_addBid_44 : decode cX1_addBid 44 = .ok (.aload_n 0, 1) := by decide +kernel
theorem dX1_addBid_45 : decode cX1_addBid 45 = .ok (.getfield 49, 3) := by decide +kernel
theorem dX1_addBid_48 : decode cX1_addBid 48 = .ok (.iconst 0, 1) := by decide +kernel
theorem dX1_addBid_49 : decode cX1_addBid 49 = .ok (.iastore, 1) := by decide +kernel
theorem dX1_addBid_50 : decode cX1_addBid 50 = .ok (.aload_n 0, 1) := by decide +kernel
theorem dX1_addBid_51 : decode cX1_addBid 51 = .ok (.dup, 1) := by decide +kernel
theorem dX1_addBid_52 : decode cX1_addBid 52 = .ok (.getfield 49, 3) := by decide +kernel
theorem dX1_addBid_55 : decode cX1_addBid 55 = .ok (.iconst 1, 1) := by decide +kernel
theorem dX1_addBid_56 : decode cX1_addBid 56 = .ok (.iadd, 1) := by decide +kernel
theorem dX1_addBid_57 : decode cX1_addBid 57 = .ok (.putfield 49, 3) := by decide +kernel
theorem dX1_addBid_60 : decode cX1_addBid 60 = .ok (.return_, 1) := by decide +kernel
theorem dX1_addItem_0 : decode cX1_addItem 0 = .ok (.aload_n 0, 1) := by decide +kernel
theorem dX1_addItem_1 : decode cX1_addItem 1 = .ok (.getfield 49, 3) := by decide +kernel
theorem dX1_addItem_4 : decode cX1_addItem 4 = .ok (.iconst 1, 1) := by decide +kernel
theorem dX1_addItem_5 : decode cX1_addItem 5 = .ok (.isub, 1) := by decide +kernel
theorem dX1_addItem_6 : decode cX1_addItem 6 = .ok (.istore_n 2, 1) := by decide +kernel
theorem dX1_addItem_7 : decode cX1_addItem 7 = .ok (.iload_n 2, 1) := by decide +kernel
theorem dX1_addItem_8 : decode cX1_addItem 8 = .ok (.ifCond .lt 13, 3) := by decide +kernel
theorem dX1_addItem_11 : decode cX1_addItem 11 = .ok (.aload_n 0, 1) := by decide +kernel
theorem dX1_addItem_12 : decode cX1_addItem 12 = .ok (.getfield 30, 3) := by decide +kernel
theorem dX1_addItem_15 : decode cX1_addItem 15 = .ok (.iload_n 2, 1) := by decide +kernel
theorem dX1_addItem_16 : decode cX1_addItem 16 = .ok (.iaload, 1) := by decide +kernel
theorem dX1_addItem_17 : decode cX1_addItem 17 = .ok (.iconst 3, 1) := by decide +kernel
theorem dX1_addItem_18 : decode cX1_addItem 18 = .ok (.if_icmp .lt 4, 3) := by decide +kernel
theorem dX1_addItem_21 : decode cX1_addItem 21 = .ok (.return_, 1) := by decide +kernel
theorem dX1_addItem_22 : decode cX1_addItem 22 = .ok (.aload_n 0, 1) := by decide +kernel
theorem dX1_addItem_23 : decode cX1_addItem 23 = .ok (.getfield 33, 3) := by decide +kernel
theorem dX1_addItem_26 : decode cX1_addItem 26 = .ok (.iload_n 2, 1) := by decide +kernel
theorem dX1_addItem_27 : decode cX1_addItem 27 = .ok (.iconst 3, 1) := by decide +kernel
theorem dX1_addItem_28 : decode cX1_addItem 28 = .ok (.imul, 1) := by decide +kernel
theorem dX1_addItem_29 : decode cX1_addItem 29 = .ok (.aload_n 0, 1) := by decide +kernel
theorem dX1_addItem_30 : decode cX1_addItem 30 = .ok (.getfield 30, 3) := by decide +kernel
theorem dX1_addItem_33 : decode cX1_addItem 33 = .ok (.iload_n 2, 1) := by decide +kernel
theorem dX1_addItem_34 : decode cX1_addItem 34 = .ok (.iaload, 1) := by decide +kernel
theorem dX1_addItem_35 : decode cX1_addItem 35 = .ok (.iadd, 1) := by decide +kernel
theorem dX1_addItem_36 : decode cX1_addItem 36 = .ok (.iload_n 1, 1) := by decide +kernel
theorem dX1_addItem_37 : decode cX1_addItem 37 = .ok (.iastore, 1) := by decide +kernel
theorem dX1_addItem_38 : decode cX1_addItem 38 = .ok (.aload_n 0, 1) := by decide +kernel
theorem dX1_addItem_39 : decode cX1_addItem 39 = .ok (.getfield 30, 3) := by decide +kernel
theorem dX1_addItem_42 : decode cX1_addItem 42 = .ok (.iload_n 2, 1) := by decide +kernel
theorem dX1_addItem_43 : decode cX1_addItem 43 = .ok (.dup2, 1) := by decide +kernel
theorem dX1_addItem_44 : decode cX1_addItem 44 = .ok (.iaload, 1) := by decide +kernel
theorem dX1_addItem_45 : decode cX1_addItem 45 = .ok (.iconst 1, 1) := by decide +kernel
theorem dX1_addItem_46 : decode cX1_addItem 46 = .ok (.iadd, 1) := by decide +kernel
theorem dX1_addItem_47 : decode cX1_addItem 47 = .ok (.iastore, 1) := by decide +kernel
theorem dX1_addItem_48 : decode cX1_addItem 48 = .ok (.return_, 1) := by decide +kernel
theorem dX1_placeOf_0 : decode cX1_placeOf 0 = .ok (.iconst 0, 1) := by decide +kernel
theorem dX1_placeOf_1 : decode cX1_placeOf 1 = .ok (.istore_n 2, 1) := by decide +kernel
theorem dX1_placeOf_2 : decode cX1_placeOf 2 = .ok (.iload_n 2, 1) := by decide +kernel
theorem dX1_placeOf_3 : decode cX1_placeOf 3 = .ok (.aload_n 0, 1) := by decide +kernel
theorem dX1_placeOf_4 : decode cX1_placeOf 4 = .ok (.getfield 49, 3) := by decide +kernel
theorem dX1_placeOf_7 : decode cX1_placeOf 7 = .ok (.if_icmp .ge 21, 3) := by decide +kernel
theorem dX1_placeOf_10 : decode cX1_placeOf 10 = .ok (.aload_n 0, 1) := by decide +kernel
theorem dX1_placeOf_11 : decode cX1_placeOf 11 = .ok (.getfield 21, 3) := by decide +kernel
theorem dX1_placeOf_14 : decode cX1_placeOf 14 = .ok (.iload_n 2, 1) := by decide +kernel
theorem dX1_placeOf_15 : decode cX1_placeOf 15 = .ok (.iaload, 1) := by decide +kernel
theorem dX1_placeOf_16 : decode cX1_placeOf 16 = .ok (.iload_n 1, 1) := by decide +kernel
theorem dX1_placeOf_17 : decode cX1_placeOf 17 = .ok (.if_icmp .ne 5, 3) := by decide +kernel
theorem dX1_placeOf_20 : decode cX1_placeOf 20 = .ok (.iload_n 2, 1) := by decide +kernel
theorem dX1_placeOf_21 : decode cX1_placeOf 21 = .ok (.ireturn, 1) := by decide +kernel
theorem dX1_placeOf_22 : decode cX1_placeOf 22 = .ok (.iinc 2 1, 3) := by decide +kernel
theorem dX1_placeOf_25 : decode cX1_placeOf 25 = .ok (.goto (-23), 3) := by decide +kernel
theorem dX1_placeOf_28 : decode cX1_placeOf 28 = .ok (.iconst (-1), 1) := by decide +kernel
theorem dX1_placeOf_29 : decode cX1_placeOf 29 = .ok (.ireturn, 1) := by decide +kernel
theorem dX1_setOf_0 : decode cX1_setOf 0 = .ok (.aload_n 0, 1) := by decide +kernel
theorem dX1_setOf_1 : decode cX1_setOf 1 = .ok (.iload_n 1, 1) := by decide +kernel
theorem dX1_setOf_2 : decode cX1_setOf 2 = .ok (.invokevirtual 55, 3) := by decide +kernel
theorem dX1_setOf_5 : decode cX1_setOf 5 = .ok (.istore_n 2, 1) := by decide +kernel
theorem dX1_setOf_6 : decode cX1_setOf 6 = .ok (.iload_n 2, 1) := by decide +kernel
theorem dX1_setOf_7 : decode cX1_setOf 7 = .ok (.ifCond .ge 7, 3) := by decide +kernel
theorem dX1_setOf_10 : decode cX1_setOf 10 = .ok (.iconst 0, 1) := by decide +kernel
theorem dX1_setOf_11 : decode cX1_setOf 11 = .ok (.goto 6, 3) := by decide +kernel
theorem dX1_setOf_14 : decode cX1_setOf 14 = .ok (.iconst 1, 1) := by decide +kernel
theorem dX1_setOf_15 : decode cX1_setOf 15 = .ok (.iload_n 2, 1) := by decide +kernel
theorem dX1_setOf_16 : decode cX1_setOf 16 = .ok (.ishl, 1) := by decide +kernel
theorem dX1_setOf_17 : decode cX1_setOf 17 = .ok (.ireturn, 1) := by decide +kernel
theorem dX1_bidOfBidderIn_0 : decode cX1_bidOfBidderIn 0 = .ok (.iconst 0, 1) := by decide +kernel
theorem dX1_bidOfBidderIn_1 : decode cX1_bidOfBidderIn 1 = .ok (.istore_n 3, 1) := by decide +kernel
theorem dX1_bidOfBidderIn_2 : decode cX1_bidOfBidderIn 2 = .ok (.iload_n 3, 1) := by decide +kernel
theorem dX1_bidOfBidderIn_3 : decode cX1_bidOfBidderIn 3 = .ok (.aload_n 0, 1) := by decide +kernel
theorem dX1_bidOfBidderIn_4 : decode cX1_bidOfBidderIn 4 = .ok (.getfield 49, 3) := by decide +kernel
theorem dX1_bidOfBidderIn_7 : decode cX1_bidOfBidderIn 7 = .ok (.if_icmp .ge 34, 3) := by decide +kernel
theorem dX1_bidOfBidderIn_10 : decode cX1_bidOfBidderIn 10 = .ok (.iload_n 1, 1) := by decide +kernel
theorem dX1_bidOfBidderIn_11 : decode cX1_bidOfBidderIn 11 = .ok (.iconst 1, 1) := by decide +kernel
theorem dX1_bidOfBidderIn_12 : decode cX1_bidOfBidderIn 12 = .ok (.iload_n 3, 1) := by decide +kernel
theorem dX1_bidOfBidderIn_13 : decode cX1_bidOfBidderIn 13 = .ok (.ishl, 1) := by decide +kernel
theorem dX1_bidOfBidderIn_14 : decode cX1_bidOfBidderIn 14 = .ok (.iand, 1) := by decide +kernel
theorem dX1_bidOfBidderIn_15 : decode cX1_bidOfBidderIn 15 = .ok (.ifCond .eq 20, 3) := by decide +kernel
theorem dX1_bidOfBidderIn_18 : decode cX1_bidOfBidderIn 18 = .ok (.aload_n 0, 1) := by decide +kernel
theorem dX1_bidOfBidderIn_19 : decode cX1_bidOfBidderIn 19 = .ok (.getfield 24, 3) := by decide +kernel
theorem dX1_bidOfBidderIn_22 : decode cX1_bidOfBidderIn 22 = .ok (.iload_n 3, 1) := by decide +kernel
theorem dX1_bidOfBidderIn_23 : decode cX1_bidOfBidderIn 23 = .ok (.iaload, 1) := by decide +kernel
theorem dX1_bidOfBidderIn_24 : decode cX1_bidOfBidderIn 24 = .ok (.iload_n 2, 1) := by decide +kernel
theorem dX1_bidOfBidderIn_25 : decode cX1_bidOfBidderIn 25 = .ok (.if_icmp .ne 10, 3) := by decide +kernel
theorem dX1_bidOfBidderIn_28 : decode cX1_bidOfBidderIn 28 = .ok (.aload_n 0, 1) := by decide +kernel
theorem dX1_bidOfBidderIn_29 : decode cX1_bidOfBidderIn 29 = .ok (.getfield 21, 3) := by decide +kernel
theorem dX1_bidOfBidderIn_32 : decode cX1_bidOfBidderIn 32 = .ok (.iload_n 3, 1) := by decide +kernel
theorem dX1_bidOfBidderIn_33 : decode cX1_bidOfBidderIn 33 = .ok (.iaload, 1) := by decide +kernel
theorem dX1_bidOfBidderIn_34 : decode cX1_bidOfBidderIn 34 = .ok (.ireturn, 1) := by decide +kernel
theorem dX1_bidOfBidderIn_35 : decode cX1_bidOfBidderIn 35 = .ok (.iinc 3 1, 3) := by decide +kernel
theorem dX1_bidOfBidderIn_38 : decode cX1_bidOfBidderIn 38 = .ok (.goto (-36), 3) := by decide +kernel
theorem dX1_bidOfBidderIn_41 : decode cX1_bidOfBidderIn 41 = .ok (.iconst (-1), 1) := by decide +kernel
theorem dX1_bidOfBidderIn_42 : decode cX1_bidOfBidderIn 42 = .ok (.ireturn, 1) := by decide +kernel
theorem dX1_hasOneBidPerBidder_0 : decode cX1_hasOneBidPerBidder 0 = .ok (.iconst 0, 1) := by decide +kernel
theorem dX1_hasOneBidPerBidder_1 : decode cX1_hasOneBidPerBidder 1 = .ok (.istore_n 2, 1) := by decide +kernel
theorem dX1_hasOneBidPerBidder_2 : decode cX1_hasOneBidPerBidder 2 = .ok (.iconst 0, 1) := by decide +kernel
theorem dX1_hasOneBidPerBidder_3 : decode cX1_hasOneBidPerBidder 3 = .ok (.istore_n 3, 1) := by decide +kernel
theorem dX1_hasOneBidPerBidder_4 : decode cX1_hasOneBidPerBidder 4 = .ok (.iload_n 3, 1) := by decide +kernel
theorem dX1_hasOneBidPerBidder_5 : decode cX1_hasOneBidPerBidder 5 = .ok (.aload_n 0, 1) := by decide +kernel
theorem dX1_hasOneBidPerBidder_6 : decode cX1_hasOneBidPerBidder 6 = .ok (.getfield 49, 3) := by decide +kernel
theorem dX1_hasOneBidPerBidder_9 : decode cX1_hasOneBidPerBidder 9 = .ok (.if_icmp .ge 41, 3) := by decide +kernel
theorem dX1_hasOneBidPerBidder_12 : decode cX1_hasOneBidPerBidder 12 = .ok (.iload_n 1, 1) := by decide +kernel
theorem dX1_hasOneBidPerBidder_13 : decode cX1_hasOneBidPerBidder 13 = .ok (.iconst 1, 1) := by decide +kernel
theorem dX1_hasOneBidPerBidder_14 : decode cX1_hasOneBidPerBidder 14 = .ok (.iload_n 3, 1) := by decide +kernel
theorem dX1_hasOneBidPerBidder_15 : decode cX1_hasOneBidPerBidder 15 = .ok (.ishl, 1) := by decide +kernel
theorem dX1_hasOneBidPerBidder_16 : decode cX1_hasOneBidPerBidder 16 = .ok (.iand, 1) := by decide +kernel
theorem dX1_hasOneBidPerBidder_17 : decode cX1_hasOneBidPerBidder 17 = .ok (.ifCond .eq 27, 3) := by decide +kernel
theorem dX1_hasOneBidPerBidder_20 : decode cX1_hasOneBidPerBidder 20 = .ok (.iconst 1, 1) := by decide +kernel
theorem dX1_hasOneBidPerBidder_21 : decode cX1_hasOneBidPerBidder 21 = .ok (.aload_n 0, 1) := by decide +kernel
theorem dX1_hasOneBidPerBidder_22 : decode cX1_hasOneBidPerBidder 22 = .ok (.getfield 24, 3) := by decide +kernel
theorem dX1_hasOneBidPerBidder_25 : decode cX1_hasOneBidPerBidder 25 = .ok (.iload_n 3, 1) := by decide +kernel
theorem dX1_hasOneBidPerBidder_26 : decode cX1_hasOneBidPerBidder 26 = .ok (.iaload, 1) := by decide +kernel
theorem dX1_hasOneBidPerBidder_27 : decode cX1_hasOneBidPerBidder 27 = .ok (.ishl, 1) := by decide +kernel
theorem dX1_hasOneBidPerBidder_28 : decode cX1_hasOneBidPerBidder 28 = .ok (.istore 4, 2) := by decide +kernel
theorem dX1_hasOneBidPerBidder_30 : decode cX1_hasOneBidPerBidder 30 = .ok (.iload_n 2, 1) := by decide +kernel
theorem dX1_hasOneBidPerBidder_31 : decode cX1_hasOneBidPerBidder 31 = .ok (.iload 4, 2) := by decide +kernel
theorem dX1_hasOneBidPerBidder_33 : decode cX1_hasOneBidPerBidder 33 = .ok (.iand, 1) := by decide +kernel
theorem dX1_hasOneBidPerBidder_34 : decode cX1_hasOneBidPerBidder 34 = .ok (.ifCond .eq 5, 3) := by decide +kernel
theorem dX1_hasOneBidPerBidder_37 : decode cX1_hasOneBidPerBidder 37 = .ok (.iconst 0, 1) := by decide +kernel
theorem dX1_hasOneBidPerBidder_38 : decode cX1_hasOneBidPerBidder 38 = .ok (.ireturn, 1) := by decide +kernel
theorem dX1_hasOneBidPerBidder_39 : decode cX1_hasOneBidPerBidder 39 = .ok (.iload_n 2, 1) := by decide +kernel
theorem dX1_hasOneBidPerBidder_40 : decode cX1_hasOneBidPerBidder 40 = .ok (.iload 4, 2) := by decide +kernel
theorem dX1_hasOneBidPerBidder_42 : decode cX1_hasOneBidPerBidder 42 = .ok (.ior, 1) := by decide +kernel
theorem dX1_hasOneBidPerBidder_43 : decode cX1_hasOneBidPerBidder 43 = .ok (.istore_n 2, 1) := by decide +kernel
theorem dX1_hasOneBidPerBidder_44 : decode cX1_hasOneBidPerBidder 44 = .ok (.iinc 3 1, 3) := by decide +kernel
theorem dX1_hasOneBidPerBidder_47 : decode cX1_hasOneBidPerBidder 47 = .ok (.goto (-43), 3) := by decide +kernel
theorem dX1_hasOneBidPerBidder_50 : decode cX1_hasOneBidPerBidder 50 = .ok (.iconst 1, 1) := by decide +kernel
theorem dX1_hasOneBidPerBidder_51 : decode cX1_hasOneBidPerBidder 51 = .ok (.ireturn, 1) := by decide +kernel
theorem dX1_priceSum_0 : decode cX1_priceSum 0 = .ok (.iconst 0, 1) := by decide +kernel
theorem dX1_priceSum_1 : decode cX1_priceSum 1 = .ok (.istore_n 2, 1) := by decide +kernel
theorem dX1_priceSum_2 : decode cX1_priceSum 2 = .ok (.iconst 0, 1) := by decide +kernel
theorem dX1_priceSum_3 : decode cX1_priceSum 3 = .ok (.istore_n 3, 1) := by decide +kernel
theorem dX1_priceSum_4 : decode cX1_priceSum 4 = .ok (.iload_n 3, 1) := by decide +kernel
theorem dX1_priceSum_5 : decode cX1_priceSum 5 = .ok (.aload_n 0, 1) := by decide +kernel
theorem dX1_priceSum_6 : decode cX1_priceSum 6 = .ok (.getfield 49, 3) := by decide +kernel
theorem dX1_priceSum_9 : decode cX1_priceSum 9 = .ok (.if_icmp .ge 26, 3) := by decide +kernel
theorem dX1_priceSum_12 : decode cX1_priceSum 12 = .ok (.iload_n 1, 1) := by decide +kernel
theorem dX1_priceSum_13 : decode cX1_priceSum 13 = .ok (.iconst 1, 1) := by decide +kernel
theorem dX1_priceSum_14 : decode cX1_priceSum 14 = .ok (.iload_n 3, 1) := by decide +kernel
theorem dX1_priceSum_15 : decode cX1_priceSum 15 = .ok (.ishl, 1) := by decide +kernel
theorem dX1_priceSum_16 : decode cX1_priceSum 16 = .ok (.iand, 1) := by decide +kernel
theorem dX1_priceSum_17 : decode cX1_priceSum 17 = .ok (.ifCond .eq 12, 3) := by decide +kernel
theorem dX1_priceSum_20 : decode cX1_priceSum 20 = .ok (.iload_n 2, 1) := by decide +kernel
theorem dX1_priceSum_21 : decode cX1_priceSum 21 = .ok (.aload_n 0, 1) := by decide +kernel
theorem dX1_priceSum_22 : decode cX1_priceSum 22 = .ok (.getfield 27, 3) := by decide +kernel
theorem dX1_priceSum_25 : decode cX1_priceSum 25 = .ok (.iload_n 3, 1) := by decide +kernel
theorem dX1_priceSum_26 : decode cX1_priceSum 26 = .ok (.iaload, 1) := by decide +kernel
theorem dX1_priceSum_27 : decode cX1_priceSum 27 = .ok (.iadd, 1) := by decide +kernel
theorem dX1_priceSum_28 : decode cX1_priceSum 28 = .ok (.istore_n 2, 1) := by decide +kernel
theorem dX1_priceSum_29 : decode cX1_priceSum 29 = .ok (.iinc 3 1, 3) := by decide +kernel
theorem dX1_priceSum_32 : decode cX1_priceSum 32 = .ok (.goto (-28), 3) := by decide +kernel
theorem dX1_priceSum_35 : decode cX1_priceSum 35 = .ok (.iload_n 2, 1) := by decide +kernel
theorem dX1_priceSum_36 : decode cX1_priceSum 36 = .ok (.ireturn, 1) := by decide +kernel
theorem dX1_leastCost_0 : decode cX1_leastCost 0 = .ok (.aload_n 0, 1) := by decide +kernel
theorem dX1_leastCost_1 : decode cX1_leastCost 1 = .ok (.iload_n 1, 1) := by decide +kernel
theorem dX1_leastCost_2 : decode cX1_leastCost 2 = .ok (.invokevirtual 59, 3) := by decide +kernel
theorem dX1_leastCost_5 : decode cX1_leastCost 5 = .ok (.ifCond .eq 11, 3) := by decide +kernel
theorem dX1_leastCost_8 : decode cX1_leastCost 8 = .ok (.aload_n 0, 1) := by decide +kernel
theorem dX1_leastCost_9 : decode cX1_leastCost 9 = .ok (.iload_n 1, 1) := by decide +kernel
theorem dX1_leastCost_10 : decode cX1_leastCost 10 = .ok (.invokevirtual 63, 3) := by decide +kernel
theorem dX1_leastCost_13 : decode cX1_leastCost 13 = .ok (.ifCond .ne 5, 3) := by decide +kernel
theorem dX1_leastCost_16 : decode cX1_leastCost 16 = .ok (.iconst (-1), 1) := by decide +kernel
theorem dX1_leastCost_17 : decode cX1_leastCost 17 = .ok (.ireturn, 1) := by decide +kernel
theorem dX1_leastCost_18 : decode cX1_leastCost 18 = .ok (.iconst 1, 1) := by decide +kernel
theorem dX1_leastCost_19 : decode cX1_leastCost 19 = .ok (.aload_n 0, 1) := by decide +kernel
theorem dX1_leastCost_20 : decode cX1_leastCost 20 = .ok (.getfield 45, 3) := by decide +kernel
theorem dX1_leastCost_23 : decode cX1_leastCost 23 = .ok (.ishl, 1) := by decide +kernel
theorem dX1_leastCost_24 : decode cX1_leastCost 24 = .ok (.iconst 1, 1) := by decide +kernel
theorem dX1_leastCost_25 : decode cX1_leastCost 25 = .ok (.isub, 1) := by decide +kernel
theorem dX1_leastCost_26 : decode cX1_leastCost 26 = .ok (.istore_n 2, 1) := by decide +kernel
theorem dX1_leastCost_27 : decode cX1_leastCost 27 = .ok (.iload_n 2, 1) := by decide +kernel
theorem dX1_leastCost_28 : decode cX1_leastCost 28 = .ok (.ifCond .lt 20, 3) := by decide +kernel
theorem dX1_leastCost_31 : decode cX1_leastCost 31 = .ok (.aload_n 0, 1) := by decide +kernel
theorem dX1_leastCost_32 : decode cX1_leastCost 32 = .ok (.getfield 39, 3) := by decide +kernel
theorem dX1_leastCost_35 : decode cX1_leastCost 35 = .ok (.iload_n 2, 1) := by decide +kernel
theorem dX1_leastCost_36 : decode cX1_leastCost 36 = .ok (.aload_n 0, 1) := by decide +kernel
theorem dX1_leastCost_37 : decode cX1_leastCost 37 = .ok (.iload_n 2, 1) := by decide +kernel
theorem dX1_leastCost_38 : decode cX1_leastCost 38 = .ok (.invokevirtual 66, 3) := by decide +kernel
theorem dX1_leastCost_41 : decode cX1_leastCost 41 = .ok (.iastore, 1) := by decide +kernel
theorem dX1_leastCost_42 : decode cX1_leastCost 42 = .ok (.iinc 2 (-1), 3) := by decide +kernel
theorem dX1_leastCost_45 : decode cX1_leastCost 45 = .ok (.goto (-18), 3) := by decide +kernel
theorem dX1_leastCost_48 : decode cX1_leastCost 48 = .ok (.aload_n 0, 1) := by decide +kernel
theorem dX1_leastCost_49 : decode cX1_leastCost 49 = .ok (.getfield 39, 3) := by decide +kernel
theorem dX1_leastCost_52 : decode cX1_leastCost 52 = .ok (.iconst 0, 1) := by decide +kernel
theorem dX1_leastCost_53 : decode cX1_leastCost 53 = .ok (.iaload, 1) := by decide +kernel
theorem dX1_leastCost_54 : decode cX1_leastCost 54 = .ok (.ldc 69, 2) := by decide +kernel
theorem dX1_leastCost_56 : decode cX1_leastCost 56 = .ok (.if_icmp .ge 12, 3) := by decide +kernel
theorem dX1_leastCost_59 : decode cX1_leastCost 59 = .ok (.aload_n 0, 1) := by decide +kernel
theorem dX1_leastCost_60 : decode cX1_leastCost 60 = .ok (.getfield 39, 3) := by decide +kernel
theorem dX1_leastCost_63 : decode cX1_leastCost 63 = .ok (.iconst 0, 1) := by decide +kernel
theorem dX1_leastCost_64 : decode cX1_leastCost 64 = .ok (.iaload, 1) := by decide +kernel
theorem dX1_leastCost_65 : decode cX1_leastCost 65 = .ok (.goto 4, 3) := by decide +kernel
theorem dX1_leastCost_68 : decode cX1_leastCost 68 = .ok (.iconst (-1), 1) := by decide +kernel
theorem dX1_leastCost_69 : decode cX1_leastCost 69 = .ok (.ireturn, 1) := by decide +kernel
theorem dX1_queueItems_0 : decode cX1_queueItems 0 = .ok (.aload_n 0, 1) := by decide +kernel
theorem dX1_queueItems_1 : decode cX1_queueItems 1 = .ok (.iconst 0, 1) := by decide +kernel
theorem dX1_queueItems_2 : decode cX1_queueItems 2 = .ok (.putfield 52, 3) := by decide +kernel
theorem dX1_queueItems_5 : decode cX1_queueItems 5 = .ok (.iconst 0, 1) := by decide +kernel
theorem dX1_queueItems_6 : decode cX1_queueItems 6 = .ok (.istore_n 2, 1) := by decide +kernel
theorem dX1_queueItems_7 : decode cX1_queueItems 7 = .ok (.iload_n 2, 1) := by decide +kernel
theorem dX1_queueItems_8 : decode cX1_queueItems 8 = .ok (.aload_n 0, 1) := by decide +kernel
theorem dX1_queueItems_9 : decode cX1_queueItems 9 = .ok (.getfield 49, 3) := by decide +kernel
theorem dX1_queueItems_12 : decode cX1_queueItems 12 = .ok (.if_icmp .ge 88, 3) := by decide +kernel
theorem dX1_queueItems_15 : decode cX1_queueItems 15 = .ok (.iload_n 1, 1) := by decide +kernel
theorem dX1_queueItems_16 : decode cX1_queueItems 16 = .ok (.iconst 1, 1) := by decide +kernel
theorem dX1_queueItems_17 : decode cX1_queueItems 17 = .ok (.iload_n 2, 1) := by decide +kernel
theorem dX1_queueItems_18 : decode cX1_queueItems 18 = .ok (.ishl, 1) := by decide +kernel
theorem dX1_queueItems_19 : decode cX1_queueItems 19 = .ok (.iand, 1) := by decide +kernel
theorem dX1_queueItems_20 : decode cX1_queueItems 20 = .ok (.ifCond .eq 74, 3) := by decide +kernel
theorem dX1_queueItems_23 : decode cX1_queueItems 23 = .ok (.aload_n 0, 1) := by decide +kernel
theorem dX1_queueItems_24 : decode cX1_queueItems 24 = .ok (.getfield 30, 3) := by decide +kernel
theorem dX1_queueItems_27 : decode cX1_queueItems 27 = .ok (.iload_n 2, 1) := by decide +kernel
theorem dX1_queueItems_28 : decode cX1_queueItems 28 = .ok (.iaload, 1) := by decide +kernel
theorem dX1_queueItems_29 : decode cX1_queueItems 29 = .ok (.istore_n 3, 1) := by decide +kernel
theorem dX1_queueItems_30 : decode cX1_queueItems 30 = .ok (.iload_n 3, 1) := by decide +kernel
theorem dX1_queueItems_31 : decode cX1_queueItems 31 = .ok (.ifCond .eq 16, 3) := by decide +kernel
theorem dX1_queueItems_34 : decode cX1_queueItems 34 = .ok (.aload_n 0, 1) := by decide +kernel
theorem dX1_queueItems_35 : decode cX1_queueItems 35 = .ok (.getfield 52, 3) := by decide +kernel
theorem dX1_queueItems_38 : decode cX1_queueItems 38 = .ok (.iload_n 3, 1) := by decide +kernel
theorem dX1_queueItems_39 : decode cX1_queueItems 39 = .ok (.iadd, 1) := by decide +kernel
theorem dX1_queueItems_40 : decode cX1_queueItems 40 = .ok (.aload_n 0, 1) := by decide +kernel
theorem dX1_queueItems_41 : decode cX1_queueItems 41 = .ok (.getfield 45, 3) := by decide +kernel
theorem dX1_queueItems_44 : decode cX1_queueItems 44 = .ok (.if_icmp .le 5, 3) := by decide +kernel
theorem dX1_queueItems_47 : decode cX1_queueItems 47 = .ok (.iconst 0, 1) := by decide +kernel
theorem dX1_queueItems_48 : decode cX1_queueItems 48 = .ok (.ireturn, 1) := by decide +kernel
theorem dX1_queueItems_49 : decode cX1_queueItems 49 = .ok (.iconst 0, 1) := by decide +kernel
theorem dX1_queueItems_50 : decode cX1_queueItems 50 = .ok (.istore 4, 2) := by decide +kernel
theorem dX1_queueItems_52 : decode cX1_queueItems 52 = .ok (.iload 4, 2) := by decide +kernel
theorem dX1_queueItems_54 : decode cX1_queueItems 54 = .ok (.iload_n 3, 1) := by decide +kernel
theorem dX1_queueItems_55 : decode cX1_queueItems 55 = .ok (.if_icmp .ge 39, 3) := by decide +kernel
theorem dX1_queueItems_58 : decode cX1_queueItems 58 = .ok (.aload_n 0, 1) := by decide +kernel
theorem dX1_queueItems_59 : decode cX1_queueItems 59 = .ok (.getfield 36, 3) := by decide +kernel
theorem dX1_queueItems_62 : decode cX1_queueItems 62 = .ok (.aload_n 0, 1) := by decide +kernel
theorem dX1_queueItems_63 : decode cX1_queueItems 63 = .ok (.getfield 52, 3) := by decide +kernel
theorem dX1_queueItems_66 : decode cX1_queueItems 66 = .ok (.aload_n 0, 1) := by decide +kernel
theorem dX1_queueItems_67 : decode cX1_queueItems 67 = .ok (.getfield 33, 3) := by decide +kernel
theorem dX1_queueItems_70 : decode cX1_queueItems 70 = .ok (.iload_n 2, 1) := by decide +kernel
theorem dX1_queueItems_71 : decode cX1_queueItems 71 = .ok (.iconst 3, 1) := by decide +kernel
theorem dX1_queueItems_72 : decode cX1_queueItems 72 = .ok (.imul, 1) := by decide +kernel
theorem dX1_queueItems_73 : decode cX1_queueItems 73 = .ok (.iload 4, 2) := by decide +kernel
theorem dX1_queueItems_75 : decode cX1_queueItems 75 = .ok (.iadd, 1) := by decide +kernel
theorem dX1_queueItems_76 : decode cX1_queueItems 76 = .ok (.iaload, 1) := by decide +kernel
theorem dX1_queueItems_77 : decode cX1_queueItems 77 = .ok (.iastore, 1) := by decide +kernel
theorem dX1_queueItems_78 : decode cX1_queueItems 78 = .ok (.aload_n 0, 1) := by decide +kernel
theorem dX1_queueItems_79 : decode cX1_queueItems 79 = .ok (.dup, 1) := by decide +kernel
theorem dX1_queueItems_80 : decode cX1_queueItems 80 = .ok (.getfield 52, 3) := by decide +kernel
theorem dX1_queueItems_83 : decode cX1_queueItems 83 = .ok (.iconst 1, 1) := by decide +kernel
theorem dX1_queueItems_84 : decode cX1_queueItems 84 = .ok (.iadd, 1) := by decide +kernel
theorem dX1_queueItems_85 : decode cX1_queueItems 85 = .ok (.putfield 52, 3) := by decide +kernel
theorem dX1_queueItems_88 : decode cX1_queueItems 88 = .ok (.iinc 4 1, 3) := by decide +kernel
theorem dX1_queueItems_91 : decode cX1_queueItems 91 = .ok (.goto (-39), 3) := by decide +kernel
theorem dX1_queueItems_94 : decode cX1_queueItems 94 = .ok (.iinc 2 1, 3) := by decide +kernel
theorem dX1_queueItems_97 : decode cX1_queueItems 97 = .ok (.goto (-90), 3) := by decide +kernel
theorem dX1_queueItems_100 : decode cX1_queueItems 100 = .ok (.iconst 1, 1) := by decide +kernel
theorem dX1_queueItems_101 : decode cX1_queueItems 101 = .ok (.ireturn, 1) := by decide +kernel
theorem dX1_restCost_0 : decode cX1_restCost 0 = .ok (.iload_n 1, 1) := by decide +kernel
theorem dX1_restCost_1 : decode cX1_restCost 1 = .ok (.invokestatic 70, 3) := by decide +kernel
theorem dX1_restCost_4 : decode cX1_restCost 4 = .ok (.istore_n 2, 1) := by decide +kernel
theorem dX1_restCost_5 : decode cX1_restCost 5 = .ok (.iload_n 2, 1) := by decide +kernel
theorem dX1_restCost_6 : decode cX1_restCost 6 = .ok (.aload_n 0, 1) := by decide +kernel
theorem dX1_restCost_7 : decode cX1_restCost 7 = .ok (.getfield 52, 3) := by decide +kernel
theorem dX1_restCost_10 : decode cX1_restCost 10 = .ok (.if_icmp .lt 5, 3) := by decide +kernel
theorem dX1_restCost_13 : decode cX1_restCost 13 = .ok (.iconst 0, 1) := by decide +kernel
theorem dX1_restCost_14 : decode cX1_restCost 14 = .ok (.ireturn, 1) := by decide +kernel
theorem dX1_restCost_15 : decode cX1_restCost 15 = .ok (.aload_n 0, 1) := by decide +kernel
theorem dX1_restCost_16 : decode cX1_restCost 16 = .ok (.getfield 36, 3) := by decide +kernel
theorem dX1_restCost_19 : decode cX1_restCost 19 = .ok (.iload_n 2, 1) := by decide +kernel
theorem dX1_restCost_20 : decode cX1_restCost 20 = .ok (.iaload, 1) := by decide +kernel
theorem dX1_restCost_21 : decode cX1_restCost 21 = .ok (.iload_n 1, 1) := by decide +kernel
theorem dX1_restCost_22 : decode cX1_restCost 22 = .ok (.iconst (-1), 1) := by decide +kernel
theorem dX1_restCost_23 : decode cX1_restCost 23 = .ok (.ixor, 1) := by decide +kernel
theorem dX1_restCost_24 : decode cX1_restCost 24 = .ok (.iand, 1) := by decide +kernel
theorem dX1_restCost_25 : decode cX1_restCost 25 = .ok (.istore_n 3, 1) := by decide +kernel
theorem dX1_restCost_26 : decode cX1_restCost 26 = .ok (.ldc 69, 2) := by decide +kernel
theorem dX1_restCost_28 : decode cX1_restCost 28 = .ok (.istore 4, 2) := by decide +kernel
theorem dX1_restCost_30 : decode cX1_restCost 30 = .ok (.iconst 0, 1) := by decide +kernel
theorem dX1_restCost_31 : decode cX1_restCost 31 = .ok (.istore 5, 2) := by decide +kernel
theorem dX1_restCost_33 : decode cX1_restCost 33 = .ok (.iload 5, 2) := by decide +kernel
theorem dX1_restCost_35 : decode cX1_restCost 35 = .ok (.aload_n 0, 1) := by decide +kernel
theorem dX1_restCost_36 : decode cX1_restCost 36 = .ok (.getfield 45, 3) := by decide +kernel
theorem dX1_restCost_39 : decode cX1_restCost 39 = .ok (.if_icmp .ge 44, 3) := by decide +kernel
theorem dX1_restCost_42 : decode cX1_restCost 42 = .ok (.iload_n 3, 1) := by decide +kernel
theorem dX1_restCost_43 : decode cX1_restCost 43 = .ok (.iconst 1, 1) := by decide +kernel
theorem dX1_restCost_44 : decode cX1_restCost 44 = .ok (.iload 5, 2) := by decide +kernel
theorem dX1_restCost_46 : decode cX1_restCost 46 = .ok (.ishl, 1) := by decide +kernel
theorem dX1_restCost_47 : decode cX1_restCost 47 = .ok (.iand, 1) := by decide +kernel
theorem dX1_restCost_48 : decode cX1_restCost 48 = .ok (.ifCond .eq 29, 3) := by decide +kernel
theorem dX1_restCost_51 : decode cX1_restCost 51 = .ok (.iload 4, 2) := by decide +kernel
theorem dX1_restCost_53 : decode cX1_restCost 53 = .ok (.aload_n 0, 1) := by decide +kernel
theorem dX1_restCost_54 : decode cX1_restCost 54 = .ok (.getfield 15, 3) := by decide +kernel
theorem dX1_restCost_57 : decode cX1_restCost 57 = .ok (.iload 5, 2) := by decide +kernel
theorem dX1_restCost_59 : decode cX1_restCost 59 = .ok (.iaload, 1) := by decide +kernel
theorem dX1_restCost_60 : decode cX1_restCost 60 = .ok (.aload_n 0, 1) := by decide +kernel
theorem dX1_restCost_61 : decode cX1_restCost 61 = .ok (.getfield 39, 3) := by decide +kernel
theorem dX1_restCost_64 : decode cX1_restCost 64 = .ok (.iload_n 1, 1) := by decide +kernel
theorem dX1_restCost_65 : decode cX1_restCost 65 = .ok (.iconst 1, 1) := by decide +kernel
theorem dX1_restCost_66 : decode cX1_restCost 66 = .ok (.iload 5, 2) := by decide +kernel
theorem dX1_restCost_68 : decode cX1_restCost 68 = .ok (.ishl, 1) := by decide +kernel
theorem dX1_restCost_69 : decode cX1_restCost 69 = .ok (.ior, 1) := by decide +kernel
theorem dX1_restCost_70 : decode cX1_restCost 70 = .ok (.iaload, 1) := by decide +kernel
theorem dX1_restCost_71 : decode cX1_restCost 71 = .ok (.iadd, 1) := by decide +kernel
theorem dX1_restCost_72 : decode cX1_restCost 72 = .ok (.invokestatic 75, 3) := by decide +kernel
theorem dX1_restCost_75 : decode cX1_restCost 75 = .ok (.istore 4, 2) := by decide +kernel
theorem dX1_restCost_77 : decode cX1_restCost 77 = .ok (.iinc 5 1, 3) := by decide +kernel
theorem dX1_restCost_80 : decode cX1_restCost 80 = .ok (.goto (-47), 3) := by decide +kernel
theorem dX1_restCost_83 : decode cX1_restCost 83 = .ok (.iload 4, 2) := by decide +kernel
theorem dX1_restCost_85 : decode cX1_restCost 85 = .ok (.ireturn, 1) := by decide +kernel
theorem dX1_giveLots_0 : decode cX1_giveLots 0 = .ok (.aload_n 0, 1) := by decide +kernel
theorem dX1_giveLots_1 : decode cX1_giveLots 1 = .ok (.iload_n 1, 1) := by decide +kernel
theorem dX1_giveLots_2 : decode cX1_giveLots 2 = .ok (.invokevirtual 81, 3) := by decide +kernel
theorem dX1_giveLots_5 : decode cX1_giveLots 5 = .ok (.iconst (-1), 1) := by decide +kernel
theorem dX1_giveLots_6 : decode cX1_giveLots 6 = .ok (.if_icmp .ne 9, 3) := by decide +kernel
theorem dX1_giveLots_9 : decode cX1_giveLots 9 = .ok (.aload_n 0, 1) := by decide +kernel
theorem dX1_giveLots_10 : decode cX1_giveLots 10 = .ok (.iconst 0, 1) := by decide +kernel
theorem dX1_giveLots_11 : decode cX1_giveLots 11 = .ok (.putfield 52, 3) := by decide +kernel
theorem dX1_giveLots_14 : decode cX1_giveLots 14 = .ok (.return_, 1) := by decide +kernel
theorem dX1_giveLots_15 : decode cX1_giveLots 15 = .ok (.iconst 0, 1) := by decide +kernel
theorem dX1_giveLots_16 : decode cX1_giveLots 16 = .ok (.istore_n 2, 1) := by decide +kernel
theorem dX1_giveLots_17 : decode cX1_giveLots 17 = .ok (.iconst 0, 1) := by decide +kernel
theorem dX1_giveLots_18 : decode cX1_giveLots 18 = .ok (.istore_n 3, 1) := by decide +kernel
theorem dX1_giveLots_19 : decode cX1_giveLots 19 = .ok (.iload_n 3, 1) := by decide +kernel
theorem dX1_giveLots_20 : decode cX1_giveLots 20 = .ok (.aload_n 0, 1) := by decide +kernel
theorem dX1_giveLots_21 : decode cX1_giveLots 21 = .ok (.getfield 52, 3) := by decide +kernel
theorem dX1_giveLots_24 : decode cX1_giveLots 24 = .ok (.if_icmp .ge 46, 3) := by decide +kernel
theorem dX1_giveLots_27 : decode cX1_giveLots 27 = .ok (.aload_n 0, 1) := by decide +kernel
theorem dX1_giveLots_28 : decode cX1_giveLots 28 = .ok (.aload_n 0, 1) := by decide +kernel
theorem dX1_giveLots_29 : decode cX1_giveLots 29 = .ok (.getfield 36, 3) := by decide +kernel
theorem dX1_giveLots_32 : decode cX1_giveLots 32 = .ok (.iload_n 3, 1) := by decide +kernel
theorem dX1_giveLots_33 : decode cX1_giveLots 33 = .ok (.iaload, 1) := by decide +kernel
theorem dX1_giveLots_34 : decode cX1_giveLots 34 = .ok (.iload_n 2, 1) := by decide +kernel
theorem dX1_giveLots_35 : decode cX1_giveLots 35 = .ok (.iconst (-1), 1) := by decide +kernel
theorem dX1_giveLots_36 : decode cX1_giveLots 36 = .ok (.ixor, 1) := by decide +kernel
theorem dX1_giveLots_37 : decode cX1_giveLots 37 = .ok (.iand, 1) := by decide +kernel
theorem dX1_giveLots_38 : decode cX1_giveLots 38 = .ok (.iload_n 2, 1) := by decide +kernel
theorem dX1_giveLots_39 : decode cX1_giveLots 39 = .ok (.invokevirtual 84, 3) := by decide +kernel
theorem dX1_giveLots_42 : decode cX1_giveLots 42 = .ok (.istore 4, 2) := by decide +kernel
theorem dX1_giveLots_44 : decode cX1_giveLots 44 = .ok (.aload_n 0, 1) := by decide +kernel
theorem dX1_giveLots_45 : decode cX1_giveLots 45 = .ok (.getfield 42, 3) := by decide +kernel
theorem dX1_giveLots_48 : decode cX1_giveLots 48 = .ok (.iload_n 3, 1) := by decide +kernel
theorem dX1_giveLots_49 : decode cX1_giveLots 49 = .ok (.iload 4, 2) := by decide +kernel
theorem dX1_giveLots_51 : decode cX1_giveLots 51 = .ok (.iastore, 1) := by decide +kernel
theorem dX1_giveLots_52 : decode cX1_giveLots 52 = .ok (.iload 4, 2) := by decide +kernel
theorem dX1_giveLots_54 : decode cX1_giveLots 54 = .ok (.ifCond .lt 10, 3) := by decide +kernel
theorem dX1_giveLots_57 : decode cX1_giveLots 57 = .ok (.iload_n 2, 1) := by decide +kernel
theorem dX1_giveLots_58 : decode cX1_giveLots 58 = .ok (.iconst 1, 1) := by decide +kernel
theorem dX1_giveLots_59 : decode cX1_giveLots 59 = .ok (.iload 4, 2) := by decide +kernel
theorem dX1_giveLots_61 : decode cX1_giveLots 61 = .ok (.ishl, 1) := by decide +kernel
theorem dX1_giveLots_62 : decode cX1_giveLots 62 = .ok (.ior, 1) := by decide +kernel
theorem dX1_giveLots_63 : decode cX1_giveLots 63 = .ok (.istore_n 2, 1) := by decide +kernel
theorem dX1_giveLots_64 : decode cX1_giveLots 64 = .ok (.iinc 3 1, 3) := by decide +kernel
theorem dX1_giveLots_67 : decode cX1_giveLots 67 = .ok (.goto (-48), 3) := by decide +kernel
theorem dX1_giveLots_70 : decode cX1_giveLots 70 = .ok (.return_, 1) := by decide +kernel
theorem dX1_firstCheapest_0 : decode cX1_firstCheapest 0 = .ok (.iconst 0, 1) := by decide +kernel
theorem dX1_firstCheapest_1 : decode cX1_firstCheapest 1 = .ok (.istore_n 3, 1) := by decide +kernel
theorem dX1_firstCheapest_2 : decode cX1_firstCheapest 2 = .ok (.iload_n 3, 1) := by decide +kernel
theorem dX1_firstCheapest_3 : decode cX1_firstCheapest 3 = .ok (.aload_n 0, 1) := by decide +kernel
theorem dX1_firstCheapest_4 : decode cX1_firstCheapest 4 = .ok (.getfield 45, 3) := by decide +kernel
theorem dX1_firstCheapest_7 : decode cX1_firstCheapest 7 = .ok (.if_icmp .ge 45, 3) := by decide +kernel
theorem dX1_firstCheapest_10 : decode cX1_firstCheapest 10 = .ok (.iload_n 1, 1) := by decide +kernel
theorem dX1_firstCheapest_11 : decode cX1_firstCheapest 11 = .ok (.iconst 1, 1) := by decide +kernel
theorem dX1_firstCheapest_12 : decode cX1_firstCheapest 12 = .ok (.iload_n 3, 1) := by decide +kernel
theorem dX1_firstCheapest_13 : decode cX1_firstCheapest 13 = .ok (.ishl, 1) := by decide +kernel
theorem dX1_firstCheapest_14 : decode cX1_firstCheapest 14 = .ok (.iand, 1) := by decide +kernel
theorem dX1_firstCheapest_15 : decode cX1_firstCheapest 15 = .ok (.ifCond .eq 31, 3) := by decide +kernel
theorem dX1_firstCheapest_18 : decode cX1_firstCheapest 18 = .ok (.aload_n 0, 1) := by decide +kernel
theorem dX1_firstCheapest_19 : decode cX1_firstCheapest 19 = .ok (.getfield 15, 3) := by decide +kernel
theorem dX1_firstCheapest_22 : decode cX1_firstCheapest 22 = .ok (.iload_n 3, 1) := by decide +kernel
theorem dX1_firstCheapest_23 : decode cX1_firstCheapest 23 = .ok (.iaload, 1) := by decide +kernel
theorem dX1_firstCheapest_24 : decode cX1_firstCheapest 24 = .ok (.aload_n 0, 1) := by decide +kernel
theorem dX1_firstCheapest_25 : decode cX1_firstCheapest 25 = .ok (.getfield 39, 3) := by decide +kernel
theorem dX1_firstCheapest_28 : decode cX1_firstCheapest 28 = .ok (.iload_n 2, 1) := by decide +kernel
theorem dX1_firstCheapest_29 : decode cX1_firstCheapest 29 = .ok (.iconst 1, 1) := by decide +kernel
theorem dX1_firstCheapest_30 : decode cX1_firstCheapest 30 = .ok (.iload_n 3, 1) := by decide +kernel
theorem dX1_firstCheapest_31 : decode cX1_firstCheapest 31 = .ok (.ishl, 1) := by decide +kernel
theorem dX1_firstCheapest_32 : decode cX1_firstCheapest 32 = .ok (.ior, 1) := by decide +kernel
theorem dX1_firstCheapest_33 : decode cX1_firstCheapest 33 = .ok (.iaload, 1) := by decide +kernel
theorem dX1_firstCheapest_34 : decode cX1_firstCheapest 34 = .ok (.iadd, 1) := by decide +kernel
theorem dX1_firstCheapest_35 : decode cX1_firstCheapest 35 = .ok (.aload_n 0, 1) := by decide +kernel
theorem dX1_firstCheapest_36 : decode cX1_firstCheapest 36 = .ok (.getfield 39, 3) := by decide +kernel
theorem dX1_firstCheapest_39 : decode cX1_firstCheapest 39 = .ok (.iload_n 2, 1) := by decide +kernel
theorem dX1_firstCheapest_40 : decode cX1_firstCheapest 40 = .ok (.iaload, 1) := by decide +kernel
theorem dX1_firstCheapest_41 : decode cX1_firstCheapest 41 = .ok (.if_icmp .ne 5, 3) := by decide +kernel
theorem dX1_firstCheapest_44 : decode cX1_firstCheapest 44 = .ok (.iload_n 3, 1) := by decide +kernel
theorem dX1_firstCheapest_45 : decode cX1_firstCheapest 45 = .ok (.ireturn, 1) := by decide +kernel
theorem dX1_firstCheapest_46 : decode cX1_firstCheapest 46 = .ok (.iinc 3 1, 3) := by decide +kernel
theorem dX1_firstCheapest_49 : decode cX1_firstCheapest 49 = .ok (.goto (-47), 3) := by decide +kernel
theorem dX1_firstCheapest_52 : decode cX1_firstCheapest 52 = .ok (.iconst (-1), 1) := by decide +kernel
theorem dX1_firstCheapest_53 : decode cX1_firstCheapest 53 = .ok (.ireturn, 1) := by decide +kernel
theorem dX1_lotGiven_0 : decode cX1_lotGiven 0 = .ok (.iload_n 3, 1) := by decide +kernel
theorem dX1_lotGiven_1 : decode cX1_lotGiven 1 = .ok (.istore 4, 2) := by decide +kernel
theorem dX1_lotGiven_3 : decode cX1_lotGiven 3 = .ok (.iconst 0, 1) := by decide +kernel
theorem dX1_lotGiven_4 : decode cX1_lotGiven 4 = .ok (.istore 5, 2) := by decide +kernel
theorem dX1_lotGiven_6 : decode cX1_lotGiven 6 = .ok (.iload 5, 2) := by decide +kernel
theorem dX1_lotGiven_8 : decode cX1_lotGiven 8 = .ok (.iload_n 2, 1) := by decide +kernel
theorem dX1_lotGiven_9 : decode cX1_lotGiven 9 = .ok (.if_icmp .ge 39, 3) := by decide +kernel
theorem dX1_lotGiven_12 : decode cX1_lotGiven 12 = .ok (.iload 5, 2) := by decide +kernel
theorem dX1_lotGiven_14 : decode cX1_lotGiven 14 = .ok (.aload_n 0, 1) := by decide +kernel
theorem dX1_lotGiven_15 : decode cX1_lotGiven 15 = .ok (.getfield 49, 3) := by decide +kernel
theorem dX1_lotGiven_18 : decode cX1_lotGiven 18 = .ok (.if_icmp .ge 30, 3) := by decide +kernel
theorem dX1_lotGiven_21 : decode cX1_lotGiven 21 = .ok (.iload_n 1, 1) := by decide +kernel
theorem dX1_lotGiven_22 : decode cX1_lotGiven 22 = .ok (.iconst 1, 1) := by decide +kernel
theorem dX1_lotGiven_23 : decode cX1_lotGiven 23 = .ok (.iload 5, 2) := by decide +kernel
theorem dX1_lotGiven_25 : decode cX1_lotGiven 25 = .ok (.ishl, 1) := by decide +kernel
theorem dX1_lotGiven_26 : decode cX1_lotGiven 26 = .ok (.iand, 1) := by decide +kernel
theorem dX1_lotGiven_27 : decode cX1_lotGiven 27 = .ok (.ifCond .eq 15, 3) := by decide +kernel
theorem dX1_lotGiven_30 : decode cX1_lotGiven 30 = .ok (.iload 4, 2) := by decide +kernel
theorem dX1_lotGiven_32 : decode cX1_lotGiven 32 = .ok (.aload_n 0, 1) := by decide +kernel
theorem dX1_lotGiven_33 : decode cX1_lotGiven 33 = .ok (.getfield 30, 3) := by decide +kernel
theorem dX1_lotGiven_36 : decode cX1_lotGiven 36 = .ok (.iload 5, 2) := by decide +kernel
theorem dX1_lotGiven_38 : decode cX1_lotGiven 38 = .ok (.iaload, 1) := by decide +kernel
theorem dX1_lotGiven_39 : decode cX1_lotGiven 39 = .ok (.iadd, 1) := by decide +kernel
theorem dX1_lotGiven_40 : decode cX1_lotGiven 40 = .ok (.istore 4, 2) := by decide +kernel
theorem dX1_lotGiven_42 : decode cX1_lotGiven 42 = .ok (.iinc 5 1, 3) := by decide +kernel
theorem dX1_lotGiven_45 : decode cX1_lotGiven 45 = .ok (.goto (-39), 3) := by decide +kernel
theorem dX1_lotGiven_48 : decode cX1_lotGiven 48 = .ok (.iload 4, 2) := by decide +kernel
theorem dX1_lotGiven_50 : decode cX1_lotGiven 50 = .ok (.ifCond .lt 22, 3) := by decide +kernel
theorem dX1_lotGiven_53 : decode cX1_lotGiven 53 = .ok (.iload 4, 2) := by decide +kernel
theorem dX1_lotGiven_55 : decode cX1_lotGiven 55 = .ok (.aload_n 0, 1) := by decide +kernel
theorem dX1_lotGiven_56 : decode cX1_lotGiven 56 = .ok (.getfield 52, 3) := by decide +kernel
theorem dX1_lotGiven_59 : decode cX1_lotGiven 59 = .ok (.if_icmp .ge 13, 3) := by decide +kernel
theorem dX1_lotGiven_62 : decode cX1_lotGiven 62 = .ok (.aload_n 0, 1) := by decide +kernel
theorem dX1_lotGiven_63 : decode cX1_lotGiven 63 = .ok (.getfield 42, 3) := by decide +kernel
theorem dX1_lotGiven_66 : decode cX1_lotGiven 66 = .ok (.iload 4, 2) := by decide +kernel
theorem dX1_lotGiven_68 : decode cX1_lotGiven 68 = .ok (.iaload, 1) := by decide +kernel
theorem dX1_lotGiven_69 : decode cX1_lotGiven 69 = .ok (.ifCond .ge 5, 3) := by decide +kernel
theorem dX1_lotGiven_72 : decode cX1_lotGiven 72 = .ok (.iconst (-1), 1) := by decide +kernel
theorem dX1_lotGiven_73 : decode cX1_lotGiven 73 = .ok (.ireturn, 1) := by decide +kernel
theorem dX1_lotGiven_74 : decode cX1_lotGiven 74 = .ok (.aload_n 0, 1) := by decide +kernel
theorem dX1_lotGiven_75 : decode cX1_lotGiven 75 = .ok (.getfield 9, 3) := by decide +kernel
theorem dX1_lotGiven_78 : decode cX1_lotGiven 78 = .ok (.aload_n 0, 1) := by decide +kernel
theorem dX1_lotGiven_79 : decode cX1_lotGiven 79 = .ok (.getfield 42, 3) := by decide +kernel
theorem dX1_lotGiven_82 : decode cX1_lotGiven 82 = .ok (.iload 4, 2) := by decide +kernel
theorem dX1_lotGiven_84 : decode cX1_lotGiven 84 = .ok (.iaload, 1) := by decide +kernel
theorem dX1_lotGiven_85 : decode cX1_lotGiven 85 = .ok (.iaload, 1) := by decide +kernel
theorem dX1_lotGiven_86 : decode cX1_lotGiven 86 = .ok (.ireturn, 1) := by decide +kernel
theorem dX2_init_0 : decode cX2_init 0 = .ok (.aload_n 0, 1) := by decide +kernel
theorem dX2_init_1 : decode cX2_init 1 = .ok (.invokespecial 3, 3) := by decide +kernel
theorem dX2_init_4 : decode cX2_init 4 = .ok (.aload_n 0, 1) := by decide +kernel
theorem dX2_init_5 : decode cX2_init 5 = .ok (.iconst (-1), 1) := by decide +kernel
theorem dX2_init_6 : decode cX2_init 6 = .ok (.putfield 9, 3) := by decide +kernel
theorem dX2_init_9 : decode cX2_init 9 = .ok (.aload_n 0, 1) := by decide +kernel
theorem dX2_init_10 : decode cX2_init 10 = .ok (.iload_n 1, 1) := by decide +kernel
theorem dX2_init_11 : decode cX2_init 11 = .ok (.putfield 15, 3) := by decide +kernel
theorem dX2_init_14 : decode cX2_init 14 = .ok (.aload_n 0, 1) := by decide +kernel
theorem dX2_init_15 : decode cX2_init 15 = .ok (.iload_n 2, 1) := by decide +kernel
theorem dX2_init_16 : decode cX2_init 16 = .ok (.putfield 18, 3) := by decide +kernel
theorem dX2_init_19 : decode cX2_init 19 = .ok (.return_, 1) := by decide +kernel
theorem dX3_init_0 : decode cX3_init 0 = .ok (.aload_n 0, 1) := by decide +kernel
theorem dX3_init_1 : decode cX3_init 1 = .ok (.invokespecial 3, 3) := by decide +kernel
theorem dX3_init_4 : decode cX3_init 4 = .ok (.aload_n 0, 1) := by decide +kernel
theorem dX3_init_5 : decode cX3_init 5 = .ok (.bipush 111, 2) := by decide +kernel
theorem dX3_init_7 : decode cX3_init 7 = .ok (.putfield 9, 3) := by decide +kernel
theorem dX3_init_10 : decode cX3_init 10 = .ok (.aload_n 0, 1) := by decide +kernel
theorem dX3_init_11 : decode cX3_init 11 = .ok (.iconst (-1), 1) := by decide +kernel
theorem dX3_init_12 : decode cX3_init 12 = .ok (.putfield 15, 3) := by decide +kernel
theorem dX3_init_15 : decode cX3_init 15 = .ok (.aload_n 0, 1) := by decide +kernel
theorem dX3_init_16 : decode cX3_init 16 = .ok (.iload_n 1, 1) := by decide +kernel
theorem dX3_init_17 : decode cX3_init 17 = .ok (.putfield 19, 3) := by decide +kernel
theorem dX3_init_20 : decode cX3_init 20 = .ok (.aload_n 0, 1) := by decide +kernel
theorem dX3_init_21 : decode cX3_init 21 = .ok (.iload_n 2, 1) := by decide +kernel
theorem dX3_init_22 : decode cX3_init 22 = .ok (.putfield 22, 3) := by decide +kernel
theorem dX3_init_25 : decode cX3_init 25 = .ok (.aload_n 0, 1) := by decide +kernel
theorem dX3_init_26 : decode cX3_init 26 = .ok (.iload_n 3, 1) := by decide +kernel
theorem dX3_init_27 : decode cX3_init 27 = .ok (.putfield 25, 3) := by decide +kernel
theorem dX3_init_30 : decode cX3_init 30 = .ok (.return_, 1) := by decide +kernel
theorem dX4_init_0 : decode cX4_init 0 = .ok (.aload_n 0, 1) := by decide +kernel
theorem dX4_init_1 : decode cX4_init 1 = .ok (.invokespecial 1, 3) := by decide +kernel
theorem dX4_init_4 : decode cX4_init 4 = .ok (.aload_n 0, 1) := by decide +kernel
theorem dX4_init_5 : decode cX4_init 5 = .ok (.iload_n 1, 1) := by decide +kernel
theorem dX4_init_6 : decode cX4_init 6 = .ok (.putfield 7, 3) := by decide +kernel
theorem dX4_init_9 : decode cX4_init 9 = .ok (.aload_n 0, 1) := by decide +kernel
theorem dX4_init_10 : decode cX4_init 10 = .ok (.iload_n 2, 1) := by decide +kernel
theorem dX4_init_11 : decode cX4_init 11 = .ok (.putfield 13, 3) := by decide +kernel
theorem dX4_init_14 : decode cX4_init 14 = .ok (.aload_n 0, 1) := by decide +kernel
theorem dX4_init_15 : decode cX4_init 15 = .ok (.iload_n 3, 1) := by decide +kernel
theorem dX4_init_16 : decode cX4_init 16 = .ok (.putfield 16, 3) := by decide +kernel
theorem dX4_init_19 : decode cX4_init 19 = .ok (.return_, 1) := by decide +kernel
theorem dX5_init_0 : decode cX5_init 0 = .ok (.aload_n 0, 1) := by decide +kernel
theorem dX5_init_1 : decode cX5_init 1 = .ok (.invokespecial 3, 3) := by decide +kernel
theorem dX5_init_4 : decode cX5_init 4 = .ok (.aload_n 0, 1) := by decide +kernel
theorem dX5_init_5 : decode cX5_init 5 = .ok (.sipush 256, 3) := by decide +kernel
theorem dX5_init_8 : decode cX5_init 8 = .ok (.newarray .boolean, 2) := by decide +kernel
theorem dX5_init_10 : decode cX5_init 10 = .ok (.putfield 9, 3) := by decide +kernel
theorem dX5_init_13 : decode cX5_init 13 = .ok (.aload_n 0, 1) := by decide +kernel
theorem dX5_init_14 : decode cX5_init 14 = .ok (.bipush 8, 2) := by decide +kernel
theorem dX5_init_16 : decode cX5_init 16 = .ok (.newarray .boolean, 2) := by decide +kernel
theorem dX5_init_18 : decode cX5_init 18 = .ok (.putfield 15, 3) := by decide +kernel
theorem dX5_init_21 : decode cX5_init 21 = .ok (.aload_n 0, 1) := by decide +kernel
theorem dX5_init_22 : decode cX5_init 22 = .ok (.bipush 9, 2) := by decide +kernel
theorem dX5_init_24 : decode cX5_init 24 = .ok (.newarray .int, 2) := by decide +kernel
theorem dX5_init_26 : decode cX5_init 26 = .ok (.putfield 18, 3) := by decide +kernel
theorem dX5_init_29 : decode cX5_init 29 = .ok (.return_, 1) := by decide +kernel
theorem dX5_forgetBest_0 : decode cX5_forgetBest 0 = .ok (.aload_n 0, 1) := by decide +kernel
theorem dX5_forgetBest_1 : decode cX5_forgetBest 1 = .ok (.iconst 0, 1) := by decide +kernel
theorem dX5_forgetBest_2 : decode cX5_forgetBest 2 = .ok (.putfield 22, 3) := by decide +kernel
theorem dX5_forgetBest_5 : decode cX5_forgetBest 5 = .ok (.aload_n 0, 1) := by decide +kernel
theorem dX5_forgetBest_6 : decode cX5_forgetBest 6 = .ok (.iconst (-1), 1) := by decide +kernel
theorem dX5_forgetBest_7 : decode cX5_forgetBest 7 = .ok (.putfield 26, 3) := by decide +kernel
theorem dX5_forgetBest_10 : decode cX5_forgetBest 10 = .ok (.return_, 1) := by decide +kernel
theorem dX5_goThroughSets_0 : decode cX5_goThroughSets 0 = .ok (.aload_n 0, 1) := by decide +kernel
theorem dX5_goThroughSets_1 : decode cX5_goThroughSets 1 = .ok (.invokevirtual 29, 3) := by decide +kernel
theorem dX5_goThroughSets_4 : decode cX5_goThroughSets 4 = .ok (.iconst 0, 1) := by decide +kernel
theorem dX5_goThroughSets_5 : decode cX5_goThroughSets 5 = .ok (.istore_n 2, 1) := by decide +kernel
theorem dX5_goThroughSets_6 : decode cX5_goThroughSets 6 = .ok (.iload_n 2, 1) := by decide +kernel
theorem dX5_goThroughSets_7 : decode cX5_goThroughSets 7 = .ok (.iconst 1, 1) := by decide +kernel
theorem dX5_goThroughSets_8 : decode cX5_goThroughSets 8 = .ok (.aload_n 1, 1) := by decide +kernel
theorem dX5_goThroughSets_9 : decode cX5_goThroughSets 9 = .ok (.getfield 32, 3) := by decide +kernel
theorem dX5_goThroughSets_12 : decode cX5_goThroughSets 12 = .ok (.ishl, 1) := by decide +kernel
theorem dX5_goThroughSets_13 : decode cX5_goThroughSets 13 = .ok (.if_icmp .ge 32, 3) := by decide +kernel
theorem dX5_goThroughSets_16 : decode cX5_goThroughSets 16 = .ok (.aload_n 1, 1) := by decide +kernel
theorem dX5_goThroughSets_17 : decode cX5_goThroughSets 17 = .ok (.iload_n 2, 1) := by decide +kernel
theorem dX5_goThroughSets_18 : decode cX5_goThroughSets 18 = .ok (.invokevirtual 37, 3) := by decide +kernel
theorem dX5_goThroughSets_21 : decode cX5_goThroughSets 21 = .ok (.istore_n 3, 1) := by decide +kernel
theorem dX5_goThroughSets_22 : decode cX5_goThroughSets 22 = .ok (.iload_n 3, 1) := by decide +kernel
theorem dX5_goThroughSets_23 : decode cX5_goThroughSets 23 = .ok (.iconst (-1), 1) := by decide +kernel
theorem dX5_goThroughSets_24 : decode cX5_goThroughSets 24 = .ok (.if_icmp .eq 15, 3) := by decide +kernel
theorem dX5_goThroughSets_27 : decode cX5_goThroughSets 27 = .ok (.aload_n 0, 1) := by decide +kernel
theorem dX5_goThroughSets_28 : decode cX5_goThroughSets 28 = .ok (.iload_n 2, 1) := by decide +kernel
theorem dX5_goThroughSets_29 : decode cX5_goThroughSets 29 = .ok (.aload_n 1, 1) := by decide +kernel
theorem dX5_goThroughSets_30 : decode cX5_goThroughSets 30 = .ok (.iload_n 2, 1) := by decide +kernel
theorem dX5_goThroughSets_31 : decode cX5_goThroughSets 31 = .ok (.invokevirtual 41, 3) := by decide +kernel
theorem dX5_goThroughSets_34 : decode cX5_goThroughSets 34 = .ok (.iload_n 3, 1) := by decide +kernel
theorem dX5_goThroughSets_35 : decode cX5_goThroughSets 35 = .ok (.isub, 1) := by decide +kernel
theorem dX5_goThroughSets_36 : decode cX5_goThroughSets 36 = .ok (.invokevirtual 44, 3) := by decide +kernel
theorem dX5_goThroughSets_39 : decode cX5_goThroughSets 39 = .ok (.iinc 2 1, 3) := by decide +kernel
theorem dX5_goThroughSets_42 : decode cX5_goThroughSets 42 = .ok (.goto (-36), 3) := by decide +kernel
theorem dX5_goThroughSets_45 : decode cX5_goThroughSets 45 = .ok (.return_, 1) := by decide +kernel
theorem dX5_compareWithBest_0 : decode cX5_compareWithBest 0 = .ok (.iload_n 2, 1) := by decide +kernel
theorem dX5_compareWithBest_1 : decode cX5_compareWithBest 1 = .ok (.aload_n 0, 1) := by decide +kernel
theorem dX5_compareWithBest_2 : decode cX5_compareWithBest 2 = .ok (.getfield 26, 3) := by decide +kernel
theorem dX5_compareWithBest_5 : decode cX5_compareWithBest 5 = .ok (.if_icmp .gt 22, 3) := by decide +kernel
theorem dX5_compareWithBest_8 : decode cX5_compareWithBest 8 = .ok (.iload_n 2, 1) := by decide +kernel
theorem dX5_compareWithBest_9 : decode cX5_compareWithBest 9 = .ok (.aload_n 0, 1) := by decide +kernel
theorem dX5_compareWithBest_10 : decode cX5_compareWithBest 10 = .ok (.getfield 26, 3) := by decide +kernel
theorem dX5_compareWithBest_13 : decode cX5_compareWithBest 13 = .ok (.if_icmp .ne 24, 3) := by decide +kernel
theorem dX5_compareWithBest_16 : decode cX5_compareWithBest 16 = .ok (.iload_n 1, 1) := by decide +kernel
theorem dX5_compareWithBest_17 : decode cX5_compareWithBest 17 = .ok (.aload_n 0, 1) := by decide +kernel
theorem dX5_compareWithBest_18 : decode cX5_compareWithBest 18 = .ok (.getfield 22, 3) := by decide +kernel
theorem dX5_compareWithBest_21 : decode cX5_compareWithBest 21 = .ok (.invokestatic 48, 3) := by decide +kernel
theorem dX5_compareWithBest_24 : decode cX5_compareWithBest 24 = .ok (.ifCond .eq 13, 3) := by decide +kernel
theorem dX5_compareWithBest_27 : decode cX5_compareWithBest 27 = .ok (.aload_n 0, 1) := by decide +kernel
theorem dX5_compareWithBest_28 : decode cX5_compareWithBest 28 = .ok (.iload_n 1, 1) := by decide +kernel
theorem dX5_compareWithBest_29 : decode cX5_compareWithBest 29 = .ok (.putfield 22, 3) := by decide +kernel
theorem dX5_compareWithBest_32 : decode cX5_compareWithBest 32 = .ok (.aload_n 0, 1) := by decide +kernel
theorem dX5_compareWithBest_33 : decode cX5_compareWithBest 33 = .ok (.iload_n 2, 1) := by decide +kernel
theorem dX5_compareWithBest_34 : decode cX5_compareWithBest 34 = .ok (.putfield 26, 3) := by decide +kernel
theorem dX5_compareWithBest_37 : decode cX5_compareWithBest 37 = .ok (.return_, 1) := by decide +kernel
theorem dX5_hasLowestOfDifferent_0 : decode cX5_hasLowestOfDifferent 0 = .ok (.iload_n 0, 1) := by decide +kernel
theorem dX5_hasLowestOfDifferent_1 : decode cX5_hasLowestOfDifferent 1 = .ok (.iload_n 1, 1) := by decide +kernel
theorem dX5_hasLowestOfDifferent_2 : decode cX5_hasLowestOfDifferent 2 = .ok (.ixor, 1) := by decide +kernel
theorem dX5_hasLowestOfDifferent_3 : decode cX5_hasLowestOfDifferent 3 = .ok (.istore_n 2, 1) := by decide +kernel
theorem dX5_hasLowestOfDifferent_4 : decode cX5_hasLowestOfDifferent 4 = .ok (.iload_n 2, 1) := by decide +kernel
theorem dX5_hasLowestOfDifferent_5 : decode cX5_hasLowestOfDifferent 5 = .ok (.iload_n 2, 1) := by decide +kernel
theorem dX5_hasLowestOfDifferent_6 : decode cX5_hasLowestOfDifferent 6 = .ok (.ineg, 1) := by decide +kernel
theorem dX5_hasLowestOfDifferent_7 : decode cX5_hasLowestOfDifferent 7 = .ok (.iand, 1) := by decide +kernel
theorem dX5_hasLowestOfDifferent_8 : decode cX5_hasLowestOfDifferent 8 = .ok (.iload_n 0, 1) := by decide +kernel
theorem dX5_hasLowestOfDifferent_9 : decode cX5_hasLowestOfDifferent 9 = .ok (.iand, 1) := by decide +kernel
theorem dX5_hasLowestOfDifferent_10 : decode cX5_hasLowestOfDifferent 10 = .ok (.ifCond .eq 7, 3) := by decide +kernel
theorem dX5_hasLowestOfDifferent_13 : decode cX5_hasLowestOfDifferent 13 = .ok (.iconst 1, 1) := by decide +kernel
theorem dX5_hasLowestOfDifferent_14 : decode cX5_hasLowestOfDifferent 14 = .ok (.goto 4, 3) := by decide +kernel
theorem dX5_hasLowestOfDifferent_17 : decode cX5_hasLowestOfDifferent 17 = .ok (.iconst 0, 1) := by decide +kernel
theorem dX5_hasLowestOfDifferent_18 : decode cX5_hasLowestOfDifferent 18 = .ok (.ireturn, 1) := by decide +kernel
theorem dX5_findBest_0 : decode cX5_findBest 0 = .ok (.aload_n 0, 1) := by decide +kernel
theorem dX5_findBest_1 : decode cX5_findBest 1 = .ok (.invokevirtual 29, 3) := by decide +kernel
theorem dX5_findBest_4 : decode cX5_findBest 4 = .ok (.aload_n 0, 1) := by decide +kernel
theorem dX5_findBest_5 : decode cX5_findBest 5 = .ok (.aload_n 1, 1) := by decide +kernel
theorem dX5_findBest_6 : decode cX5_findBest 6 = .ok (.iload_n 2, 1) := by decide +kernel
theorem dX5_findBest_7 : decode cX5_findBest 7 = .ok (.invokevirtual 52, 3) := by decide +kernel
theorem dX5_findBest_10 : decode cX5_findBest 10 = .ok (.aload_n 0, 1) := by decide +kernel
theorem dX5_findBest_11 : decode cX5_findBest 11 = .ok (.getfield 9, 3) := by decide +kernel
theorem dX5_findBest_14 : decode cX5_findBest 14 = .ok (.iconst 0, 1) := by decide +kernel
theorem dX5_findBest_15 : decode cX5_findBest 15 = .ok (.iconst 1, 1) := by decide +kernel
theorem dX5_findBest_16 : decode cX5_findBest 16 = .ok (.bastore, 1) := by decide +kernel
theorem dX5_findBest_17 : decode cX5_findBest 17 = .ok (.aload_n 0, 1) := by decide +kernel
theorem dX5_findBest_18 : decode cX5_findBest 18 = .ok (.aload_n 1, 1) := by decide +kernel
theorem dX5_findBest_19 : decode cX5_findBest 19 = .ok (.iconst 0, 1) := by decide +kernel
theorem dX5_findBest_20 : decode cX5_findBest 20 = .ok (.iconst 0, 1) := by decide +kernel
theorem dX5_findBest_21 : decode cX5_findBest 21 = .ok (.iconst 0, 1) := by decide +kernel
theorem dX5_findBest_22 : decode cX5_findBest 22 = .ok (.iconst 0, 1) := by decide +kernel
theorem dX5_findBest_23 : decode cX5_findBest 23 = .ok (.iconst 0, 1) := by decide +kernel
theorem dX5_findBest_24 : decode cX5_findBest 24 = .ok (.invokestatic 56, 3) := by decide +kernel
theorem dX5_findBest_27 : decode cX5_findBest 27 = .ok (.return_, 1) := by decide +kernel
theorem dX5_estimate_0 : decode cX5_estimate 0 = .ok (.aload_n 0, 1) := by decide +kernel
theorem dX5_estimate_1 : decode cX5_estimate 1 = .ok (.getfield 18, 3) := by decide +kernel
theorem dX5_estimate_4 : decode cX5_estimate 4 = .ok (.aload_n 1, 1) := by decide +kernel
theorem dX5_estimate_5 : decode cX5_estimate 5 = .ok (.getfield 32, 3) := by decide +kernel
theorem dX5_estimate_8 : decode cX5_estimate 8 = .ok (.iconst 0, 1) := by decide +kernel
theorem dX5_estimate_9 : decode cX5_estimate 9 = .ok (.iastore, 1) := by decide +kernel
theorem dX5_estimate_10 : decode cX5_estimate 10 = .ok (.aload_n 1, 1) := by decide +kernel
theorem dX5_estimate_11 : decode cX5_estimate 11 = .ok (.getfield 32, 3) := by decide +kernel
theorem dX5_estimate_14 : decode cX5_estimate 14 = .ok (.iconst 1, 1) := by decide +kernel
theorem dX5_estimate_15 : decode cX5_estimate 15 = .ok (.isub, 1) := by decide +kernel
theorem dX5_estimate_16 : decode cX5_estimate 16 = .ok (.istore_n 3, 1) := by decide +kernel
theorem dX5_estimate_17 : decode cX5_estimate 17 = .ok (.iload_n 3, 1) := by decide +kernel
theorem dX5_estimate_18 : decode cX5_estimate 18 = .ok (.ifCond .lt 95, 3) := by decide +kernel
theorem dX5_estimate_21 : decode cX5_estimate 21 = .ok (.aload_n 1, 1) := by decide +kernel
theorem dX5_estimate_22 : decode cX5_estimate 22 = .ok (.iconst 1, 1) := by decide +kernel
theorem dX5_estimate_23 : decode cX5_estimate 23 = .ok (.iload_n 3, 1) := by decide +kernel
theorem dX5_estimate_24 : decode cX5_estimate 24 = .ok (.ishl, 1) := by decide +kernel
theorem dX5_estimate_25 : decode cX5_estimate 25 = .ok (.invokevirtual 37, 3) := by decide +kernel
theorem dX5_estimate_28 : decode cX5_estimate 28 = .ok (.istore 4, 2) := by decide +kernel
theorem dX5_estimate_30 : decode cX5_estimate 30 = .ok (.iload 4, 2) := by decide +kernel
theorem dX5_estimate_32 : decode cX5_estimate 32 = .ok (.iconst (-1), 1) := by decide +kernel
theorem dX5_estimate_33 : decode cX5_estimate 33 = .ok (.if_icmp .ne 7, 3) := by decide +kernel
theorem dX5_estimate_36 : decode cX5_estimate 36 = .ok (.iconst (-1), 1) := by decide +kernel
theorem dX5_estimate_37 : decode cX5_estimate 37 = .ok (.goto 12, 3) := by decide +kernel
theorem dX5_estimate_40 : decode cX5_estimate 40 = .ok (.aload_n 1, 1) := by decide +kernel
theorem dX5_estimate_41 : decode cX5_estimate 41 = .ok (.getfield 60, 3) := by decide +kernel
theorem dX5_estimate_44 : decode cX5_estimate 44 = .ok (.iload_n 3, 1) := by decide +kernel
theorem dX5_estimate_45 : decode cX5_estimate 45 = .ok (.iaload, 1) := by decide +kernel
theorem dX5_estimate_46 : decode cX5_estimate 46 = .ok (.iload 4, 2) := by decide +kernel
theorem dX5_estimate_48 : decode cX5_estimate 48 = .ok (.isub, 1) := by decide +kernel
theorem dX5_estimate_49 : decode cX5_estimate 49 = .ok (.istore 5, 2) := by decide +kernel
theorem dX5_estimate_51 : decode cX5_estimate 51 = .ok (.aload_n 0, 1) := by decide +kernel
theorem dX5_estimate_52 : decode cX5_estimate 52 = .ok (.getfield 15, 3) := by decide +kernel
theorem dX5_estimate_55 : decode cX5_estimate 55 = .ok (.iload_n 3, 1) := by decide +kernel
theorem dX5_estimate_56 : decode cX5_estimate 56 = .ok (.iload 5, 2) := by decide +kernel
theorem dX5_estimate_58 : decode cX5_estimate 58 = .ok (.ifCond .lt 17, 3) := by decide +kernel
theorem dX5_estimate_61 : decode cX5_estimate 61 = .ok (.aload_n 1, 1) := by decide +kernel
theorem dX5_estimate_62 : decode cX5_estimate 62 = .ok (.getfield 63, 3) := by decide +kernel
theorem dX5_estimate_65 : decode cX5_estimate 65 = .ok (.iload_n 3, 1) := by decide +kernel
theorem dX5_estimate_66 : decode cX5_estimate 66 = .ok (.iaload, 1) := by decide +kernel
theorem dX5_estimate_67 : decode cX5_estimate 67 = .ok (.iload_n 2, 1) := by decide +kernel
theorem dX5_estimate_68 : decode cX5_estimate 68 = .ok (.if_icmp .eq 7, 3) := by decide +kernel
theorem dX5_estimate_71 : decode cX5_estimate 71 = .ok (.iconst 1, 1) := by decide +kernel
theorem dX5_estimate_72 : decode cX5_estimate 72 = .ok (.goto 4, 3) := by decide +kernel
theorem dX5_estimate_75 : decode cX5_estimate 75 = .ok (.iconst 0, 1) := by decide +kernel
theorem dX5_estimate_76 : decode cX5_estimate 76 = .ok (.bastore, 1) := by decide +kernel
theorem dX5_estimate_77 : decode cX5_estimate 77 = .ok (.aload_n 0, 1) := by decide +kernel
theorem dX5_estimate_78 : decode cX5_estimate 78 = .ok (.getfield 18, 3) := by decide +kernel
theorem dX5_estimate_81 : decode cX5_estimate 81 = .ok (.iload_n 3, 1) := by decide +kernel
theorem dX5_estimate_82 : decode cX5_estimate 82 = .ok (.aload_n 0, 1) := by decide +kernel
theorem dX5_estimate_83 : decode cX5_estimate 83 = .ok (.getfield 18, 3) := by decide +kernel
theorem dX5_estimate_86 : decode cX5_estimate 86 = .ok (.iload_n 3, 1) := by decide +kernel
theorem dX5_estimate_87 : decode cX5_estimate 87 = .ok (.iconst 1, 1) := by decide +kernel
theorem dX5_estimate_88 : decode cX5_estimate 88 = .ok (.iadd, 1) := by decide +kernel
theorem dX5_estimate_89 : decode cX5_estimate 89 = .ok (.iaload, 1) := by decide +kernel
theorem dX5_estimate_90 : decode cX5_estimate 90 = .ok (.aload_n 0, 1) := by decide +kernel
theorem dX5_estimate_91 : decode cX5_estimate 91 = .ok (.getfield 15, 3) := by decide +kernel
theorem dX5_estimate_94 : decode cX5_estimate 94 = .ok (.iload_n 3, 1) := by decide +kernel
theorem dX5_estimate_95 : decode cX5_estimate 95 = .ok (.baload, 1) := by decide +kernel
theorem dX5_estimate_96 : decode cX5_estimate 96 = .ok (.ifCond .eq 8, 3) := by decide +kernel
theorem dX5_estimate_99 : decode cX5_estimate 99 = .ok (.iload 5, 2) := by decide +kernel
theorem dX5_estimate_101 : decode cX5_estimate 101 = .ok (.goto 4, 3) := by decide +kernel
theorem dX5_estimate_104 : decode cX5_estimate 104 = .ok (.iconst 0, 1) := by decide +kernel
theorem dX5_estimate_105 : decode cX5_estimate 105 = .ok (.iadd, 1) := by decide +kernel
theorem dX5_estimate_106 : decode cX5_estimate 106 = .ok (.iastore, 1) := by decide +kernel
theorem dX5_estimate_107 : decode cX5_estimate 107 = .ok (.iinc 3 (-1), 3) := by decide +kernel
theorem dX5_estimate_110 : decode cX5_estimate 110 = .ok (.goto (-93), 3) := by decide +kernel
theorem dX5_estimate_113 : decode cX5_estimate 113 = .ok (.return_, 1) := by decide +kernel
theorem dX5_branch_0 : decode cX5_branch 0 = .ok (.iload_n 2, 1) := by decide +kernel
theorem dX5_branch_1 : decode cX5_branch 1 = .ok (.aload_n 1, 1) := by decide +kernel
theorem dX5_branch_2 : decode cX5_branch 2 = .ok (.getfield 32, 3) := by decide +kernel
theorem dX5_branch_5 : decode cX5_branch 5 = .ok (.if_icmp .gt 22, 3) := by decide +kernel
theorem dX5_branch_8 : decode cX5_branch 8 = .ok (.iload 5, 2) := by decide +kernel
theorem dX5_branch_10 : decode cX5_branch 10 = .ok (.iload 6, 2) := by decide +kernel
theorem dX5_branch_12 : decode cX5_branch 12 = .ok (.isub, 1) := by decide +kernel
theorem dX5_branch_13 : decode cX5_branch 13 = .ok (.aload_n 0, 1) := by decide +kernel
theorem dX5_branch_14 : decode cX5_branch 14 = .ok (.getfield 18, 3) := by decide +kernel
theorem dX5_branch_17 : decode cX5_branch 17 = .ok (.iload_n 2, 1) := by decide +kernel
theorem dX5_branch_18 : decode cX5_branch 18 = .ok (.iaload, 1) := by decide +kernel
theorem dX5_branch_19 : decode cX5_branch 19 = .ok (.iadd, 1) := by decide +kernel
theorem dX5_branch_20 : decode cX5_branch 20 = .ok (.aload_n 0, 1) := by decide +kernel
theorem dX5_branch_21 : decode cX5_branch 21 = .ok (.getfield 26, 3) := by decide +kernel
theorem dX5_branch_24 : decode cX5_branch 24 = .ok (.if_icmp .gt 4, 3) := by decide +kernel
theorem dX5_branch_27 : decode cX5_branch 27 = .ok (.return_, 1) := by decide +kernel
theorem dX5_branch_28 : decode cX5_branch 28 = .ok (.iload_n 2, 1) := by decide +kernel
theorem dX5_branch_29 : decode cX5_branch 29 = .ok (.aload_n 1, 1) := by decide +kernel
theorem dX5_branch_30 : decode cX5_branch 30 = .ok (.getfield 32, 3) := by decide +kernel
theorem dX5_branch_33 : decode cX5_branch 33 = .ok (.if_icmp .ne 18, 3) := by decide +kernel
theorem dX5_branch_36 : decode cX5_branch 36 = .ok (.aload_n 0, 1) := by decide +kernel
theorem dX5_branch_37 : decode cX5_branch 37 = .ok (.iload_n 3, 1) := by decide +kernel
theorem dX5_branch_38 : decode cX5_branch 38 = .ok (.putfield 22, 3) := by decide +kernel
theorem dX5_branch_41 : decode cX5_branch 41 = .ok (.aload_n 0, 1) := by decide +kernel
theorem dX5_branch_42 : decode cX5_branch 42 = .ok (.iload 5, 2) := by decide +kernel
theorem dX5_branch_44 : decode cX5_branch 44 = .ok (.iload 6, 2) := by decide +kernel
theorem dX5_branch_46 : decode cX5_branch 46 = .ok (.isub, 1) := by decide +kernel
theorem dX5_branch_47 : decode cX5_branch 47 = .ok (.putfield 26, 3) := by decide +kernel
theorem dX5_branch_50 : decode cX5_branch 50 = .ok (.return_, 1) := by decide +kernel
theorem dX5_branch_51 : decode cX5_branch 51 = .ok (.aload_n 0, 1) := by decide +kernel
theorem dX5_branch_52 : decode cX5_branch 52 = .ok (.getfield 15, 3) := by decide +kernel
theorem dX5_branch_55 : decode cX5_branch 55 = .ok (.iload_n 2, 1) := by decide +kernel
theorem dX5_branch_56 : decode cX5_branch 56 = .ok (.baload, 1) := by decide +kernel
theorem dX5_branch_57 : decode cX5_branch 57 = .ok (.ifCond .eq 67, 3) := by decide +kernel
theorem dX5_branch_60 : decode cX5_branch 60 = .ok (.aload_n 1, 1) := by decide +kernel
theorem dX5_branch_61 : decode cX5_branch 61 = .ok (.iload_n 3, 1) := by decide +kernel
theorem dX5_branch_62 : decode cX5_branch 62 = .ok (.aload_n 1, 1) := by decide +kernel
theorem dX5_branch_63 : decode cX5_branch 63 = .ok (.getfield 63, 3) := by decide +kernel
theorem dX5_branch_66 : decode cX5_branch 66 = .ok (.iload_n 2, 1) := by decide +kernel
theorem dX5_branch_67 : decode cX5_branch 67 = .ok (.iaload, 1) := by decide +kernel
theorem dX5_branch_68 : decode cX5_branch 68 = .ok (.invokevirtual 66, 3) := by decide +kernel
theorem dX5_branch_71 : decode cX5_branch 71 = .ok (.iconst (-1), 1) := by decide +kernel
theorem dX5_branch_72 : decode cX5_branch 72 = .ok (.if_icmp .ne 52, 3) := by decide +kernel
theorem dX5_branch_75 : decode cX5_branch 75 = .ok (.aload_n 0, 1) := by decide +kernel
theorem dX5_branch_76 : decode cX5_branch 76 = .ok (.aload_n 1, 1) := by decide +kernel
theorem dX5_branch_77 : decode cX5_branch 77 = .ok (.iload_n 2, 1) := by decide +kernel
theorem dX5_branch_78 : decode cX5_branch 78 = .ok (.iload 4, 2) := by decide +kernel
theorem dX5_branch_80 : decode cX5_branch 80 = .ok (.invokevirtual 70, 3) := by decide +kernel
theorem dX5_branch_83 : decode cX5_branch 83 = .ok (.istore 7, 2) := by decide +kernel
theorem dX5_branch_85 : decode cX5_branch 85 = .ok (.iload 7, 2) := by decide +kernel
theorem dX5_branch_87 : decode cX5_branch 87 = .ok (.iconst (-1), 1) := by decide +kernel
theorem dX5_branch_88 : decode cX5_branch 88 = .ok (.if_icmp .eq 36, 3) := by decide +kernel
theorem dX5_branch_91 : decode cX5_branch 91 = .ok (.aload_n 0, 1) := by decide +kernel
theorem dX5_branch_92 : decode cX5_branch 92 = .ok (.aload_n 1, 1) := by decide +kernel
theorem dX5_branch_93 : decode cX5_branch 93 = .ok (.iload_n 2, 1) := by decide +kernel
theorem dX5_branch_94 : decode cX5_branch 94 = .ok (.iconst 1, 1) := by decide +kernel
theorem dX5_branch_95 : decode cX5_branch 95 = .ok (.iadd, 1) := by decide +kernel
theorem dX5_branch_96 : decode cX5_branch 96 = .ok (.iload_n 3, 1) := by decide +kernel
theorem dX5_branch_97 : decode cX5_branch 97 = .ok (.iconst 1, 1) := by decide +kernel
theorem dX5_branch_98 : decode cX5_branch 98 = .ok (.iload_n 2, 1) := by decide +kernel
theorem dX5_branch_99 : decode cX5_branch 99 = .ok (.ishl, 1) := by decide +kernel
theorem dX5_branch_100 : decode cX5_branch 100 = .ok (.ior, 1) := by decide +kernel
theorem dX5_branch_101 : decode cX5_branch 101 = .ok (.iload 4, 2) := by decide +kernel
theorem dX5_branch_103 : decode cX5_branch 103 = .ok (.aload_n 1, 1) := by decide +kernel
theorem dX5_branch_104 : decode cX5_branch 104 = .ok (.getfield 74, 3) := by decide +kernel
theorem dX5_branch_107 : decode cX5_branch 107 = .ok (.iload_n 2, 1) := by decide +kernel
theorem dX5_branch_108 : decode cX5_branch 108 = .ok (.iaload, 1) := by decide +kernel
theorem dX5_branch_109 : decode cX5_branch 109 = .ok (.iadd, 1) := by decide +kernel
theorem dX5_branch_110 : decode cX5_branch 110 = .ok (.iload 5, 2) := by decide +kernel
theorem dX5_branch_112 : decode cX5_branch 112 = .ok (.aload_n 1, 1) := by decide +kernel
theorem dX5_branch_113 : decode cX5_branch 113 = .ok (.getfield 60, 3) := by decide +kernel
theorem dX5_branch_116 : decode cX5_branch 116 = .ok (.iload_n 2, 1) := by decide +kernel
theorem dX5_branch_117 : decode cX5_branch 117 = .ok (.iaload, 1) := by decide +kernel
theorem dX5_branch_118 : decode cX5_branch 118 = .ok (.iadd, 1) := by decide +kernel
theorem dX5_branch_119 : decode cX5_branch 119 = .ok (.iload 7, 2) := by decide +kernel
theorem dX5_branch_121 : decode cX5_branch 121 = .ok (.invokestatic 56, 3) := by decide +kernel
theorem dX5_branch_124 : decode cX5_branch 124 = .ok (.aload_n 0, 1) := by decide +kernel
theorem dX5_branch_125 : decode cX5_branch 125 = .ok (.aload_n 1, 1) := by decide +kernel
theorem dX5_branch_126 : decode cX5_branch 126 = .ok (.iload_n 2, 1) := by decide +kernel
theorem dX5_branch_127 : decode cX5_branch 127 = .ok (.iconst 1, 1) := by decide +kernel
theorem dX5_branch_128 : decode cX5_branch 128 = .ok (.iadd, 1) := by decide +kernel
theorem dX5_branch_129 : decode cX5_branch 129 = .ok (.iload_n 3, 1) := by decide +kernel
theorem dX5_branch_130 : decode cX5_branch 130 = .ok (.iload 4, 2) := by decide +kernel
theorem dX5_branch_132 : decode cX5_branch 132 = .ok (.iload 5, 2) := by decide +kernel
theorem dX5_branch_134 : decode cX5_branch 134 = .ok (.iload 6, 2) := by decide +kernel
theorem dX5_branch_136 : decode cX5_branch 136 = .ok (.invokestatic 56, 3) := by decide +kernel
theorem dX5_branch_139 : decode cX5_branch 139 = .ok (.return_, 1) := by decide +kernel
theorem dX5_costWith_0 : decode cX5_costWith 0 = .ok (.iload_n 3, 1) := by decide +kernel
theorem dX5_costWith_1 : decode cX5_costWith 1 = .ok (.aload_n 1, 1) := by decide +kernel
theorem dX5_costWith_2 : decode cX5_costWith 2 = .ok (.getfield 74, 3) := by decide +kernel
theorem dX5_costWith_5 : decode cX5_costWith 5 = .ok (.iload_n 2, 1) := by decide +kernel
theorem dX5_costWith_6 : decode cX5_costWith 6 = .ok (.iaload, 1) := by decide +kernel
theorem dX5_costWith_7 : decode cX5_costWith 7 = .ok (.iadd, 1) := by decide +kernel
theorem dX5_costWith_8 : decode cX5_costWith 8 = .ok (.istore 4, 2) := by decide +kernel
theorem dX5_costWith_10 : decode cX5_costWith 10 = .ok (.iload 4, 2) := by decide +kernel
theorem dX5_costWith_12 : decode cX5_costWith 12 = .ok (.aload_n 1, 1) := by decide +kernel
theorem dX5_costWith_13 : decode cX5_costWith 13 = .ok (.getfield 77, 3) := by decide +kernel
theorem dX5_costWith_16 : decode cX5_costWith 16 = .ok (.if_icmp .le 5, 3) := by decide +kernel
theorem dX5_costWith_19 : decode cX5_costWith 19 = .ok (.iconst (-1), 1) := by decide +kernel
theorem dX5_costWith_20 : decode cX5_costWith 20 = .ok (.ireturn, 1) := by decide +kernel
theorem dX5_costWith_21 : decode cX5_costWith 21 = .ok (.iconst 0, 1) := by decide +kernel
theorem dX5_costWith_22 : decode cX5_costWith 22 = .ok (.istore 5, 2) := by decide +kernel
theorem dX5_costWith_24 : decode cX5_costWith 24 = .ok (.iload_n 3, 1) := by decide +kernel
theorem dX5_costWith_25 : decode cX5_costWith 25 = .ok (.iload 5, 2) := by decide +kernel
theorem dX5_costWith_27 : decode cX5_costWith 27 = .ok (.iadd, 1) := by decide +kernel
theorem dX5_costWith_28 : decode cX5_costWith 28 = .ok (.iload 4, 2) := by decide +kernel
theorem dX5_costWith_30 : decode cX5_costWith 30 = .ok (.if_icmp .ge 31, 3) := by decide +kernel
theorem dX5_costWith_33 : decode cX5_costWith 33 = .ok (.aload_n 0, 1) := by decide +kernel
theorem dX5_costWith_34 : decode cX5_costWith 34 = .ok (.aload_n 1, 1) := by decide +kernel
theorem dX5_costWith_35 : decode cX5_costWith 35 = .ok (.aload_n 1, 1) := by decide +kernel
theorem dX5_costWith_36 : decode cX5_costWith 36 = .ok (.getfield 80, 3) := by decide +kernel
theorem dX5_costWith_39 : decode cX5_costWith 39 = .ok (.iload_n 2, 1) := by decide +kernel
theorem dX5_costWith_40 : decode cX5_costWith 40 = .ok (.iconst 3, 1) := by decide +kernel
theorem dX5_costWith_41 : decode cX5_costWith 41 = .ok (.imul, 1) := by decide +kernel
theorem dX5_costWith_42 : decode cX5_costWith 42 = .ok (.iload 5, 2) := by decide +kernel
theorem dX5_costWith_44 : decode cX5_costWith 44 = .ok (.iadd, 1) := by decide +kernel
theorem dX5_costWith_45 : decode cX5_costWith 45 = .ok (.iaload, 1) := by decide +kernel
theorem dX5_costWith_46 : decode cX5_costWith 46 = .ok (.iload_n 3, 1) := by decide +kernel
theorem dX5_costWith_47 : decode cX5_costWith 47 = .ok (.iload 5, 2) := by decide +kernel
theorem dX5_costWith_49 : decode cX5_costWith 49 = .ok (.iadd, 1) := by decide +kernel
theorem dX5_costWith_50 : decode cX5_costWith 50 = .ok (.iconst 1, 1) := by decide +kernel
theorem dX5_costWith_51 : decode cX5_costWith 51 = .ok (.iadd, 1) := by decide +kernel
theorem dX5_costWith_52 : decode cX5_costWith 52 = .ok (.invokevirtual 83, 3) := by decide +kernel
theorem dX5_costWith_55 : decode cX5_costWith 55 = .ok (.iinc 5 1, 3) := by decide +kernel
theorem dX5_costWith_58 : decode cX5_costWith 58 = .ok (.goto (-34), 3) := by decide +kernel
theorem dX5_costWith_61 : decode cX5_costWith 61 = .ok (.aload_n 0, 1) := by decide +kernel
theorem dX5_costWith_62 : decode cX5_costWith 62 = .ok (.aload_n 1, 1) := by decide +kernel
theorem dX5_costWith_63 : decode cX5_costWith 63 = .ok (.iload 4, 2) := by decide +kernel
theorem dX5_costWith_65 : decode cX5_costWith 65 = .ok (.invokevirtual 87, 3) := by decide +kernel
theorem dX5_costWith_68 : decode cX5_costWith 68 = .ok (.ireturn, 1) := by decide +kernel
theorem dX5_fillWithItem_0 : decode cX5_fillWithItem 0 = .ok (.iconst 0, 1) := by decide +kernel
theorem dX5_fillWithItem_1 : decode cX5_fillWithItem 1 = .ok (.istore 4, 2) := by decide +kernel
theorem dX5_fillWithItem_3 : decode cX5_fillWithItem 3 = .ok (.iload 4, 2) := by decide +kernel
theorem dX5_fillWithItem_5 : decode cX5_fillWithItem 5 = .ok (.iconst 1, 1) := by decide +kernel
theorem dX5_fillWithItem_6 : decode cX5_fillWithItem 6 = .ok (.aload_n 1, 1) := by decide +kernel
theorem dX5_fillWithItem_7 : decode cX5_fillWithItem 7 = .ok (.getfield 77, 3) := by decide +kernel
theorem dX5_fillWithItem_10 : decode cX5_fillWithItem 10 = .ok (.ishl, 1) := by decide +kernel
theorem dX5_fillWithItem_11 : decode cX5_fillWithItem 11 = .ok (.if_icmp .ge 33, 3) := by decide +kernel
theorem dX5_fillWithItem_14 : decode cX5_fillWithItem 14 = .ok (.iload 4, 2) := by decide +kernel
theorem dX5_fillWithItem_16 : decode cX5_fillWithItem 16 = .ok (.invokestatic 91, 3) := by decide +kernel
theorem dX5_fillWithItem_19 : decode cX5_fillWithItem 19 = .ok (.iload_n 3, 1) := by decide +kernel
theorem dX5_fillWithItem_20 : decode cX5_fillWithItem 20 = .ok (.if_icmp .ne 18, 3) := by decide +kernel
theorem dX5_fillWithItem_23 : decode cX5_fillWithItem 23 = .ok (.aload_n 0, 1) := by decide +kernel
theorem dX5_fillWithItem_24 : decode cX5_fillWithItem 24 = .ok (.getfield 9, 3) := by decide +kernel
theorem dX5_fillWithItem_27 : decode cX5_fillWithItem 27 = .ok (.iload 4, 2) := by decide +kernel
theorem dX5_fillWithItem_29 : decode cX5_fillWithItem 29 = .ok (.aload_n 0, 1) := by decide +kernel
theorem dX5_fillWithItem_30 : decode cX5_fillWithItem 30 = .ok (.aload_n 1, 1) := by decide +kernel
theorem dX5_fillWithItem_31 : decode cX5_fillWithItem 31 = .ok (.iload 4, 2) := by decide +kernel
theorem dX5_fillWithItem_33 : decode cX5_fillWithItem 33 = .ok (.iload_n 2, 1) := by decide +kernel
theorem dX5_fillWithItem_34 : decode cX5_fillWithItem 34 = .ok (.invokevirtual 96, 3) := by decide +kernel
theorem dX5_fillWithItem_37 : decode cX5_fillWithItem 37 = .ok (.bastore, 1) := by decide +kernel
theorem dX5_fillWithItem_38 : decode cX5_fillWithItem 38 = .ok (.iinc 4 1, 3) := by decide +kernel
theorem dX5_fillWithItem_41 : decode cX5_fillWithItem 41 = .ok (.goto (-38), 3) := by decide +kernel
theorem dX5_fillWithItem_44 : decode cX5_fillWithItem 44 = .ok (.return_, 1) := by decide +kernel
theorem dX5_canFillWithLast_0 : decode cX5_canFillWithLast 0 = .ok (.iconst 0, 1) := by decide +kernel
theorem dX5_canFillWithLast_1 : decode cX5_canFillWithLast 1 = .ok (.istore 4, 2) := by decide +kernel
theorem dX5_canFillWithLast_3 : decode cX5_canFillWithLast 3 = .ok (.iload 4, 2) := by decide +kernel
theorem dX5_canFillWithLast_5 : decode cX5_canFillWithLast 5 = .ok (.aload_n 1, 1) := by decide +kernel
theorem dX5_canFillWithLast_6 : decode cX5_canFillWithLast 6 = .ok (.getfield 77, 3) := by decide +kernel
theorem dX5_canFillWithLast_9 : decode cX5_canFillWithLast 9 = .ok (.if_icmp .ge 36, 3) := by decide +kernel
theorem dX5_canFillWithLast_12 : decode cX5_canFillWithLast 12 = .ok (.iload_n 2, 1) := by decide +kernel
theorem dX5_canFillWithLast_13 : decode cX5_canFillWithLast 13 = .ok (.iload_n 3, 1) := by decide +kernel
theorem dX5_canFillWithLast_14 : decode cX5_canFillWithLast 14 = .ok (.iand, 1) := by decide +kernel
theorem dX5_canFillWithLast_15 : decode cX5_canFillWithLast 15 = .ok (.iconst 1, 1) := by decide +kernel
theorem dX5_canFillWithLast_16 : decode cX5_canFillWithLast 16 = .ok (.iload 4, 2) := by decide +kernel
theorem dX5_canFillWithLast_18 : decode cX5_canFillWithLast 18 = .ok (.ishl, 1) := by decide +kernel
theorem dX5_canFillWithLast_19 : decode cX5_canFillWithLast 19 = .ok (.iand, 1) := by decide +kernel
theorem dX5_canFillWithLast_20 : decode cX5_canFillWithLast 20 = .ok (.ifCond .eq 19, 3) := by decide +kernel
theorem dX5_canFillWithLast_23 : decode cX5_canFillWithLast 23 = .ok (.aload_n 0, 1) := by decide +kernel
theorem dX5_canFillWithLast_24 : decode cX5_canFillWithLast 24 = .ok (.getfield 9, 3) := by decide +kernel
theorem dX5_canFillWithLast_27 : decode cX5_canFillWithLast 27 = .ok (.iload_n 2, 1) := by decide +kernel
theorem dX5_canFillWithLast_28 : decode cX5_canFillWithLast 28 = .ok (.iconst 1, 1) := by decide +kernel
theorem dX5_canFillWithLast_29 : decode cX5_canFillWithLast 29 = .ok (.iload 4, 2) := by decide +kernel
theorem dX5_canFillWithLast_31 : decode cX5_canFillWithLast 31 = .ok (.ishl, 1) := by decide +kernel
theorem dX5_canFillWithLast_32 : decode cX5_canFillWithLast 32 = .ok (.ixor, 1) := by decide +kernel
theorem dX5_canFillWithLast_33 : decode cX5_canFillWithLast 33 = .ok (.baload, 1) := by decide +kernel
theorem dX5_canFillWithLast_34 : decode cX5_canFillWithLast 34 = .ok (.ifCond .eq 5, 3) := by decide +kernel
theorem dX5_canFillWithLast_37 : decode cX5_canFillWithLast 37 = .ok (.iconst 1, 1) := by decide +kernel
theorem dX5_canFillWithLast_38 : decode cX5_canFillWithLast 38 = .ok (.ireturn, 1) := by decide +kernel
theorem dX5_canFillWithLast_39 : decode cX5_canFillWithLast 39 = .ok (.iinc 4 1, 3) := by decide +kernel
theorem dX5_canFillWithLast_42 : decode cX5_canFillWithLast 42 = .ok (.goto (-39), 3) := by decide +kernel
theorem dX5_canFillWithLast_45 : decode cX5_canFillWithLast 45 = .ok (.iconst 0, 1) := by decide +kernel
theorem dX5_canFillWithLast_46 : decode cX5_canFillWithLast 46 = .ok (.ireturn, 1) := by decide +kernel
theorem dX5_leastFilled_0 : decode cX5_leastFilled 0 = .ok (.ldc 100, 2) := by decide +kernel
theorem dX5_leastFilled_2 : decode cX5_leastFilled 2 = .ok (.istore_n 3, 1) := by decide +kernel
theorem dX5_leastFilled_3 : decode cX5_leastFilled 3 = .ok (.iconst 0, 1) := by decide +kernel
theorem dX5_leastFilled_4 : decode cX5_leastFilled 4 = .ok (.istore 4, 2) := by decide +kernel
theorem dX5_leastFilled_6 : decode cX5_leastFilled 6 = .ok (.iload 4, 2) := by decide +kernel
theorem dX5_leastFilled_8 : decode cX5_leastFilled 8 = .ok (.iconst 1, 1) := by decide +kernel
theorem dX5_leastFilled_9 : decode cX5_leastFilled 9 = .ok (.aload_n 1, 1) := by decide +kernel
theorem dX5_leastFilled_10 : decode cX5_leastFilled 10 = .ok (.getfield 77, 3) := by decide +kernel
theorem dX5_leastFilled_13 : decode cX5_leastFilled 13 = .ok (.ishl, 1) := by decide +kernel
theorem dX5_leastFilled_14 : decode cX5_leastFilled 14 = .ok (.if_icmp .ge 40, 3) := by decide +kernel
theorem dX5_leastFilled_17 : decode cX5_leastFilled 17 = .ok (.aload_n 0, 1) := by decide +kernel
theorem dX5_leastFilled_18 : decode cX5_leastFilled 18 = .ok (.getfield 9, 3) := by decide +kernel
theorem dX5_leastFilled_21 : decode cX5_leastFilled 21 = .ok (.iload 4, 2) := by decide +kernel
theorem dX5_leastFilled_23 : decode cX5_leastFilled 23 = .ok (.baload, 1) := by decide +kernel
theorem dX5_leastFilled_24 : decode cX5_leastFilled 24 = .ok (.ifCond .eq 24, 3) := by decide +kernel
theorem dX5_leastFilled_27 : decode cX5_leastFilled 27 = .ok (.iload 4, 2) := by decide +kernel
theorem dX5_leastFilled_29 : decode cX5_leastFilled 29 = .ok (.invokestatic 91, 3) := by decide +kernel
theorem dX5_leastFilled_32 : decode cX5_leastFilled 32 = .ok (.iload_n 2, 1) := by decide +kernel
theorem dX5_leastFilled_33 : decode cX5_leastFilled 33 = .ok (.if_icmp .ne 15, 3) := by decide +kernel
theorem dX5_leastFilled_36 : decode cX5_leastFilled 36 = .ok (.iload_n 3, 1) := by decide +kernel
theorem dX5_leastFilled_37 : decode cX5_leastFilled 37 = .ok (.aload_n 1, 1) := by decide +kernel
theorem dX5_leastFilled_38 : decode cX5_leastFilled 38 = .ok (.getfield 101, 3) := by decide +kernel
theorem dX5_leastFilled_41 : decode cX5_leastFilled 41 = .ok (.iload 4, 2) := by decide +kernel
theorem dX5_leastFilled_43 : decode cX5_leastFilled 43 = .ok (.iaload, 1) := by decide +kernel
theorem dX5_leastFilled_44 : decode cX5_leastFilled 44 = .ok (.invokestatic 104, 3) := by decide +kernel
theorem dX5_leastFilled_47 : decode cX5_leastFilled 47 = .ok (.istore_n 3, 1) := by decide +kernel
theorem dX5_leastFilled_48 : decode cX5_leastFilled 48 = .ok (.iinc 4 1, 3) := by decide +kernel
theorem dX5_leastFilled_51 : decode cX5_leastFilled 51 = .ok (.goto (-45), 3) := by decide +kernel
theorem dX5_leastFilled_54 : decode cX5_leastFilled 54 = .ok (.iload_n 3, 1) := by decide +kernel
theorem dX5_leastFilled_55 : decode cX5_leastFilled 55 = .ok (.ldc 100, 2) := by decide +kernel
theorem dX5_leastFilled_57 : decode cX5_leastFilled 57 = .ok (.if_icmp .ge 7, 3) := by decide +kernel
theorem dX5_leastFilled_60 : decode cX5_leastFilled 60 = .ok (.iload_n 3, 1) := by decide +kernel
theorem dX5_leastFilled_61 : decode cX5_leastFilled 61 = .ok (.goto 4, 3) := by decide +kernel
theorem dX5_leastFilled_64 : decode cX5_leastFilled 64 = .ok (.iconst (-1), 1) := by decide +kernel
theorem dX5_leastFilled_65 : decode cX5_leastFilled 65 = .ok (.ireturn, 1) := by decide +kernel
theorem dX6_init_0 : decode cX6_init 0 = .ok (.aload_n 0, 1) := by decide +kernel
theorem dX6_init_1 : decode cX6_init 1 = .ok (.invokespecial 3, 3) := by decide +kernel
theorem dX6_init_4 : decode cX6_init 4 = .ok (.aload_n 0, 1) := by decide +kernel
theorem dX6_init_5 : decode cX6_init 5 = .ok (.new 9, 3) := by decide +kernel
theorem dX6_init_8 : decode cX6_init 8 = .ok (.dup, 1) := by decide +kernel
theorem dX6_init_9 : decode cX6_init 9 = .ok (.invokespecial 11, 3) := by decide +kernel
theorem dX6_init_12 : decode cX6_init 12 = .ok (.putfield 12, 3) := by decide +kernel
theorem dX6_init_15 : decode cX6_init 15 = .ok (.aload_n 0, 1) := by decide +kernel
theorem dX6_init_16 : decode cX6_init 16 = .ok (.new 9, 3) := by decide +kernel
theorem dX6_init_19 : decode cX6_init 19 = .ok (.dup, 1) := by decide +kernel
theorem dX6_init_20 : decode cX6_init 20 = .ok (.invokespecial 11, 3) := by decide +kernel
theorem dX6_init_23 : decode cX6_init 23 = .ok (.putfield 16, 3) := by decide +kernel
theorem dX6_init_26 : decode cX6_init 26 = .ok (.aload_n 0, 1) := by decide +kernel
theorem dX6_init_27 : decode cX6_init 27 = .ok (.new 9, 3) := by decide +kernel
theorem dX6_init_30 : decode cX6_init 30 = .ok (.dup, 1) := by decide +kernel
theorem dX6_init_31 : decode cX6_init 31 = .ok (.invokespecial 11, 3) := by decide +kernel
theorem dX6_init_34 : decode cX6_init 34 = .ok (.putfield 19, 3) := by decide +kernel
theorem dX6_init_37 : decode cX6_init 37 = .ok (.aload_n 0, 1) := by decide +kernel
theorem dX6_init_38 : decode cX6_init 38 = .ok (.new 22, 3) := by decide +kernel
theorem dX6_init_41 : decode cX6_init 41 = .ok (.dup, 1) := by decide +kernel
theorem dX6_init_42 : decode cX6_init 42 = .ok (.invokespecial 24, 3) := by decide +kernel
theorem dX6_init_45 : decode cX6_init 45 = .ok (.putfield 25, 3) := by decide +kernel
theorem dX6_init_48 : decode cX6_init 48 = .ok (.aload_n 0, 1) := by decide +kernel
theorem dX6_init_49 : decode cX6_init 49 = .ok (.new 29, 3) := by decide +kernel
theorem dX6_init_52 : decode cX6_init 52 = .ok (.dup, 1) := by decide +kernel
theorem dX6_init_53 : decode cX6_init 53 = .ok (.invokespecial 31, 3) := by decide +kernel
theorem dX6_init_56 : decode cX6_init 56 = .ok (.putfield 32, 3) := by decide +kernel
theorem dX6_init_59 : decode cX6_init 59 = .ok (.return_, 1) := by decide +kernel
theorem dX6_offer_0 : decode cX6_offer 0 = .ok (.iload_n 1, 1) := by decide +kernel
theorem dX6_offer_1 : decode cX6_offer 1 = .ok (.invokestatic 36, 3) := by decide +kernel
theorem dX6_offer_4 : decode cX6_offer 4 = .ok (.ifCond .eq 21, 3) := by decide +kernel
theorem dX6_offer_7 : decode cX6_offer 7 = .ok (.iload_n 2, 1) := by decide +kernel
theorem dX6_offer_8 : decode cX6_offer 8 = .ok (.invokestatic 40, 3) := by decide +kernel
theorem dX6_offer_11 : decode cX6_offer 11 = .ok (.ifCond .eq 14, 3) := by decide +kernel
theorem dX6_offer_14 : decode cX6_offer 14 = .ok (.iload_n 3, 1) := by decide +kernel
theorem dX6_offer_15 : decode cX6_offer 15 = .ok (.ifCond .lt 10, 3) := by decide +kernel
theorem dX6_offer_18 : decode cX6_offer 18 = .ok (.iload_n 3, 1) := by decide +kernel
theorem dX6_offer_19 : decode cX6_offer 19 = .ok (.sipush 999, 3) := by decide +kernel
theorem dX6_offer_22 : decode cX6_offer 22 = .ok (.if_icmp .le 13, 3) := by decide +kernel
theorem dX6_offer_25 : decode cX6_offer 25 = .ok (.new 44, 3) := by decide +kernel
theorem dX6_offer_28 : decode cX6_offer 28 = .ok (.dup, 1) := by decide +kernel
theorem dX6_offer_29 : decode cX6_offer 29 = .ok (.ldc 46, 2) := by decide +kernel
theorem dX6_offer_31 : decode cX6_offer 31 = .ok (.invokespecial 48, 3) := by decide +kernel
theorem dX6_offer_34 : decode cX6_offer 34 = .ok (.athrow, 1) := by decide +kernel
theorem dX6_offer_35 : decode cX6_offer 35 = .ok (.aload_n 0, 1) := by decide +kernel
theorem dX6_offer_36 : decode cX6_offer 36 = .ok (.getfield 51, 3) := by decide +kernel
theorem dX6_offer_39 : decode cX6_offer 39 = .ok (.bipush 8, 2) := by decide +kernel
theorem dX6_offer_41 : decode cX6_offer 41 = .ok (.if_icmp .ge 15, 3) := by decide +kernel
theorem dX6_offer_44 : decode cX6_offer 44 = .ok (.aload_n 0, 1) := by decide +kernel
theorem dX6_offer_45 : decode cX6_offer 45 = .ok (.getfield 12, 3) := by decide +kernel
theorem dX6_offer_48 : decode cX6_offer 48 = .ok (.invokevirtual 55, 3) := by decide +kernel
theorem dX6_offer_51 : decode cX6_offer 51 = .ok (.bipush 40, 2) := by decide +kernel
theorem dX6_offer_53 : decode cX6_offer 53 = .ok (.if_icmp .lt 13, 3) := by decide +kernel
theorem dX6_offer_56 : decode cX6_offer 56 = .ok (.new 59, 3) := by decide +kernel
theorem dX6_offer_59 : decode cX6_offer 59 = .ok (.dup, 1) := by decide +kernel
theorem dX6_offer_60 : decode cX6_offer 60 = .ok (.ldc 61, 2) := by decide +kernel
theorem dX6_offer_62 : decode cX6_offer 62 = .ok (.invokespecial 63, 3) := by decide +kernel
theorem dX6_offer_65 : decode cX6_offer 65 = .ok (.athrow, 1) := by decide +kernel
theorem dX6_offer_66 : decode cX6_offer 66 = .ok (.aload_n 0, 1) := by decide +kernel
theorem dX6_offer_67 : decode cX6_offer 67 = .ok (.getfield 12, 3) := by decide +kernel
theorem dX6_offer_70 : decode cX6_offer 70 = .ok (.new 64, 3) := by decide +kernel
theorem dX6_offer_73 : decode cX6_offer 73 = .ok (.dup, 1) := by decide +kernel
theorem dX6_offer_74 : decode cX6_offer 74 = .ok (.iload_n 1, 1) := by decide +kernel
theorem dX6_offer_75 : decode cX6_offer 75 = .ok (.iload_n 2, 1) := by decide +kernel
theorem dX6_offer_76 : decode cX6_offer 76 = .ok (.iload_n 3, 1) := by decide +kernel
theorem dX6_offer_77 : decode cX6_offer 77 = .ok (.invokespecial 66, 3) := by decide +kernel
theorem dX6_offer_80 : decode cX6_offer 80 = .ok (.invokevirtual 69, 3) := by decide +kernel
theorem dX6_offer_83 : decode cX6_offer 83 = .ok (.pop, 1) := by decide +kernel
theorem dX6_offer_84 : decode cX6_offer 84 = .ok (.aload_n 0, 1) := by decide +kernel
