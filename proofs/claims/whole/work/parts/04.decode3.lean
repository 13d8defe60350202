theorem dX7_all_35 : decode cX7_all 35 = .ok (.aload_n 0, 1) := by decide +kernel
theorem dX7_all_36 : decode cX7_all 36 = .ok (.getfield 71, 3) := by decide +kernel
theorem dX7_all_39 : decode cX7_all 39 = .ok (.iconst 0, 1) := by decide +kernel
theorem dX7_all_40 : decode cX7_all 40 = .ok (.iconst 0, 1) := by decide +kernel
theorem dX7_all_41 : decode cX7_all 41 = .ok (.iastore, 1) := by decide +kernel
theorem dX7_all_42 : decode cX7_all 42 = .ok (.aload_n 0, 1) := by decide +kernel
theorem dX7_all_43 : decode cX7_all 43 = .ok (.getfield 74, 3) := by decide +kernel
theorem dX7_all_46 : decode cX7_all 46 = .ok (.iconst 0, 1) := by decide +kernel
theorem dX7_all_47 : decode cX7_all 47 = .ok (.iconst 0, 1) := by decide +kernel
theorem dX7_all_48 : decode cX7_all 48 = .ok (.iastore, 1) := by decide +kernel
theorem dX7_all_49 : decode cX7_all 49 = .ok (.aload_n 0, 1) := by decide +kernel
theorem dX7_all_50 : decode cX7_all 50 = .ok (.iconst 0, 1) := by decide +kernel
theorem dX7_all_51 : decode cX7_all 51 = .ok (.iconst 0, 1) := by decide +kernel
theorem dX7_all_52 : decode cX7_all 52 = .ok (.iconst 0, 1) := by decide +kernel
theorem dX7_all_53 : decode cX7_all 53 = .ok (.iconst 0, 1) := by decide +kernel
theorem dX7_all_54 : decode cX7_all 54 = .ok (.iconst 0, 1) := by decide +kernel
theorem dX7_all_55 : decode cX7_all 55 = .ok (.invokevirtual 138, 3) := by decide +kernel
theorem dX7_all_58 : decode cX7_all 58 = .ok (.return_, 1) := by decide +kernel
theorem dX7_isAhead_0 : decode cX7_isAhead 0 = .ok (.iload_n 0, 1) := by decide +kernel
theorem dX7_isAhead_1 : decode cX7_isAhead 1 = .ok (.iload_n 1, 1) := by decide +kernel
theorem dX7_isAhead_2 : decode cX7_isAhead 2 = .ok (.ixor, 1) := by decide +kernel
theorem dX7_isAhead_3 : decode cX7_isAhead 3 = .ok (.istore_n 2, 1) := by decide +kernel
theorem dX7_isAhead_4 : decode cX7_isAhead 4 = .ok (.iload_n 0, 1) := by decide +kernel
theorem dX7_isAhead_5 : decode cX7_isAhead 5 = .ok (.iload_n 2, 1) := by decide +kernel
theorem dX7_isAhead_6 : decode cX7_isAhead 6 = .ok (.iload_n 2, 1) := by decide +kernel
theorem dX7_isAhead_7 : decode cX7_isAhead 7 = .ok (.ineg, 1) := by decide +kernel
theorem dX7_isAhead_8 : decode cX7_isAhead 8 = .ok (.iand, 1) := by decide +kernel
theorem dX7_isAhead_9 : decode cX7_isAhead 9 = .ok (.iand, 1) := by decide +kernel
theorem dX7_isAhead_10 : decode cX7_isAhead 10 = .ok (.ifCond .eq 7, 3) := by decide +kernel
theorem dX7_isAhead_13 : decode cX7_isAhead 13 = .ok (.iconst 1, 1) := by decide +kernel
theorem dX7_isAhead_14 : decode cX7_isAhead 14 = .ok (.goto 4, 3) := by decide +kernel
theorem dX7_isAhead_17 : decode cX7_isAhead 17 = .ok (.iconst 0, 1) := by decide +kernel
theorem dX7_isAhead_18 : decode cX7_isAhead 18 = .ok (.ireturn, 1) := by decide +kernel
theorem dX7_best_0 : decode cX7_best 0 = .ok (.iconst 0, 1) := by decide +kernel
theorem dX7_best_1 : decode cX7_best 1 = .ok (.istore_n 2, 1) := by decide +kernel
theorem dX7_best_2 : decode cX7_best 2 = .ok (.iconst 1, 1) := by decide +kernel
theorem dX7_best_3 : decode cX7_best 3 = .ok (.istore_n 3, 1) := by decide +kernel
theorem dX7_best_4 : decode cX7_best 4 = .ok (.iload_n 3, 1) := by decide +kernel
theorem dX7_best_5 : decode cX7_best 5 = .ok (.sipush 256, 3) := by decide +kernel
theorem dX7_best_8 : decode cX7_best 8 = .ok (.if_icmp .ge 107, 3) := by decide +kernel
theorem dX7_best_11 : decode cX7_best 11 = .ok (.aload_n 0, 1) := by decide +kernel
theorem dX7_best_12 : decode cX7_best 12 = .ok (.getfield 71, 3) := by decide +kernel
theorem dX7_best_15 : decode cX7_best 15 = .ok (.iload_n 3, 1) := by decide +kernel
theorem dX7_best_16 : decode cX7_best 16 = .ok (.iaload, 1) := by decide +kernel
theorem dX7_best_17 : decode cX7_best 17 = .ok (.aload_n 0, 1) := by decide +kernel
theorem dX7_best_18 : decode cX7_best 18 = .ok (.getfield 71, 3) := by decide +kernel
theorem dX7_best_21 : decode cX7_best 21 = .ok (.iload_n 2, 1) := by decide +kernel
theorem dX7_best_22 : decode cX7_best 22 = .ok (.iaload, 1) := by decide +kernel
theorem dX7_best_23 : decode cX7_best 23 = .ok (.if_icmp .lt 86, 3) := by decide +kernel
theorem dX7_best_26 : decode cX7_best 26 = .ok (.aload_n 0, 1) := by decide +kernel
theorem dX7_best_27 : decode cX7_best 27 = .ok (.getfield 71, 3) := by decide +kernel
theorem dX7_best_30 : decode cX7_best 30 = .ok (.iload_n 3, 1) := by decide +kernel
theorem dX7_best_31 : decode cX7_best 31 = .ok (.iaload, 1) := by decide +kernel
theorem dX7_best_32 : decode cX7_best 32 = .ok (.aload_n 0, 1) := by decide +kernel
theorem dX7_best_33 : decode cX7_best 33 = .ok (.getfield 71, 3) := by decide +kernel
theorem dX7_best_36 : decode cX7_best 36 = .ok (.iload_n 2, 1) := by decide +kernel
theorem dX7_best_37 : decode cX7_best 37 = .ok (.iaload, 1) := by decide +kernel
theorem dX7_best_38 : decode cX7_best 38 = .ok (.if_icmp .ne 14, 3) := by decide +kernel
theorem dX7_best_41 : decode cX7_best 41 = .ok (.iload_n 3, 1) := by decide +kernel
theorem dX7_best_42 : decode cX7_best 42 = .ok (.iload_n 2, 1) := by decide +kernel
theorem dX7_best_43 : decode cX7_best 43 = .ok (.invokestatic 146, 3) := by decide +kernel
theorem dX7_best_46 : decode cX7_best 46 = .ok (.ifCond .ne 6, 3) := by decide +kernel
theorem dX7_best_49 : decode cX7_best 49 = .ok (.goto 60, 3) := by decide +kernel
theorem dX7_best_52 : decode cX7_best 52 = .ok (.iconst 0, 1) := by decide +kernel
theorem dX7_best_53 : decode cX7_best 53 = .ok (.istore 4, 2) := by decide +kernel
theorem dX7_best_55 : decode cX7_best 55 = .ok (.iconst 0, 1) := by decide +kernel
theorem dX7_best_56 : decode cX7_best 56 = .ok (.istore 5, 2) := by decide +kernel
theorem dX7_best_58 : decode cX7_best 58 = .ok (.iload 5, 2) := by decide +kernel
theorem dX7_best_60 : decode cX7_best 60 = .ok (.aload_n 0, 1) := by decide +kernel
theorem dX7_best_61 : decode cX7_best 61 = .ok (.getfield 121, 3) := by decide +kernel
theorem dX7_best_64 : decode cX7_best 64 = .ok (.if_icmp .ge 38, 3) := by decide +kernel
theorem dX7_best_67 : decode cX7_best 67 = .ok (.iload_n 3, 1) := by decide +kernel
theorem dX7_best_68 : decode cX7_best 68 = .ok (.iload 5, 2) := by decide +kernel
theorem dX7_best_70 : decode cX7_best 70 = .ok (.ishr, 1) := by decide +kernel
theorem dX7_best_71 : decode cX7_best 71 = .ok (.iconst 1, 1) := by decide +kernel
theorem dX7_best_72 : decode cX7_best 72 = .ok (.iand, 1) := by decide +kernel
theorem dX7_best_73 : decode cX7_best 73 = .ok (.iconst 1, 1) := by decide +kernel
theorem dX7_best_74 : decode cX7_best 74 = .ok (.if_icmp .ne 22, 3) := by decide +kernel
theorem dX7_best_77 : decode cX7_best 77 = .ok (.aload_n 0, 1) := by decide +kernel
theorem dX7_best_78 : decode cX7_best 78 = .ok (.getfield 32, 3) := by decide +kernel
theorem dX7_best_81 : decode cX7_best 81 = .ok (.aload_n 0, 1) := by decide +kernel
theorem dX7_best_82 : decode cX7_best 82 = .ok (.getfield 68, 3) := by decide +kernel
theorem dX7_best_85 : decode cX7_best 85 = .ok (.iload 5, 2) := by decide +kernel
theorem dX7_best_87 : decode cX7_best 87 = .ok (.iaload, 1) := by decide +kernel
theorem dX7_best_88 : decode cX7_best 88 = .ok (.iaload, 1) := by decide +kernel
theorem dX7_best_89 : decode cX7_best 89 = .ok (.iload_n 1, 1) := by decide +kernel
theorem dX7_best_90 : decode cX7_best 90 = .ok (.if_icmp .ne 6, 3) := by decide +kernel
theorem dX7_best_93 : decode cX7_best 93 = .ok (.iconst 1, 1) := by decide +kernel
theorem dX7_best_94 : decode cX7_best 94 = .ok (.istore 4, 2) := by decide +kernel
theorem dX7_best_96 : decode cX7_best 96 = .ok (.iinc 5 1, 3) := by decide +kernel
theorem dX7_best_99 : decode cX7_best 99 = .ok (.goto (-41), 3) := by decide +kernel
theorem dX7_best_102 : decode cX7_best 102 = .ok (.iload 4, 2) := by decide +kernel
theorem dX7_best_104 : decode cX7_best 104 = .ok (.ifCond .ne 5, 3) := by decide +kernel
theorem dX7_best_107 : decode cX7_best 107 = .ok (.iload_n 3, 1) := by decide +kernel
theorem dX7_best_108 : decode cX7_best 108 = .ok (.istore_n 2, 1) := by decide +kernel
theorem dX7_best_109 : decode cX7_best 109 = .ok (.iinc 3 1, 3) := by decide +kernel
theorem dX7_best_112 : decode cX7_best 112 = .ok (.goto (-108), 3) := by decide +kernel
theorem dX7_best_115 : decode cX7_best 115 = .ok (.iload_n 2, 1) := by decide +kernel
theorem dX7_best_116 : decode cX7_best 116 = .ok (.ireturn, 1) := by decide +kernel
theorem dX7_pays_0 : decode cX7_pays 0 = .ok (.aload_n 0, 1) := by decide +kernel
theorem dX7_pays_1 : decode cX7_pays 1 = .ok (.getfield 35, 3) := by decide +kernel
theorem dX7_pays_4 : decode cX7_pays 4 = .ok (.iload_n 2, 1) := by decide +kernel
theorem dX7_pays_5 : decode cX7_pays 5 = .ok (.iaload, 1) := by decide +kernel
theorem dX7_pays_6 : decode cX7_pays 6 = .ok (.aload_n 0, 1) := by decide +kernel
theorem dX7_pays_7 : decode cX7_pays 7 = .ok (.getfield 71, 3) := by decide +kernel
theorem dX7_pays_10 : decode cX7_pays 10 = .ok (.iload_n 1, 1) := by decide +kernel
theorem dX7_pays_11 : decode cX7_pays 11 = .ok (.iaload, 1) := by decide +kernel
theorem dX7_pays_12 : decode cX7_pays 12 = .ok (.isub, 1) := by decide +kernel
theorem dX7_pays_13 : decode cX7_pays 13 = .ok (.aload_n 0, 1) := by decide +kernel
theorem dX7_pays_14 : decode cX7_pays 14 = .ok (.getfield 71, 3) := by decide +kernel
theorem dX7_pays_17 : decode cX7_pays 17 = .ok (.aload_n 0, 1) := by decide +kernel
theorem dX7_pays_18 : decode cX7_pays 18 = .ok (.aload_n 0, 1) := by decide +kernel
theorem dX7_pays_19 : decode cX7_pays 19 = .ok (.getfield 32, 3) := by decide +kernel
theorem dX7_pays_22 : decode cX7_pays 22 = .ok (.iload_n 2, 1) := by decide +kernel
theorem dX7_pays_23 : decode cX7_pays 23 = .ok (.iaload, 1) := by decide +kernel
theorem dX7_pays_24 : decode cX7_pays 24 = .ok (.invokevirtual 149, 3) := by decide +kernel
theorem dX7_pays_27 : decode cX7_pays 27 = .ok (.iaload, 1) := by decide +kernel
theorem dX7_pays_28 : decode cX7_pays 28 = .ok (.iadd, 1) := by decide +kernel
theorem dX7_pays_29 : decode cX7_pays 29 = .ok (.ireturn, 1) := by decide +kernel
theorem dX7_isInSet_0 : decode cX7_isInSet 0 = .ok (.iconst 0, 1) := by decide +kernel
theorem dX7_isInSet_1 : decode cX7_isInSet 1 = .ok (.istore_n 3, 1) := by decide +kernel
theorem dX7_isInSet_2 : decode cX7_isInSet 2 = .ok (.iload_n 3, 1) := by decide +kernel
theorem dX7_isInSet_3 : decode cX7_isInSet 3 = .ok (.aload_n 0, 1) := by decide +kernel
theorem dX7_isInSet_4 : decode cX7_isInSet 4 = .ok (.getfield 121, 3) := by decide +kernel
theorem dX7_isInSet_7 : decode cX7_isInSet 7 = .ok (.if_icmp .ge 34, 3) := by decide +kernel
theorem dX7_isInSet_10 : decode cX7_isInSet 10 = .ok (.aload_n 0, 1) := by decide +kernel
theorem dX7_isInSet_11 : decode cX7_isInSet 11 = .ok (.getfield 68, 3) := by decide +kernel
theorem dX7_isInSet_14 : decode cX7_isInSet 14 = .ok (.iload_n 3, 1) := by decide +kernel
theorem dX7_isInSet_15 : decode cX7_isInSet 15 = .ok (.iaload, 1) := by decide +kernel
theorem dX7_isInSet_16 : decode cX7_isInSet 16 = .ok (.iload_n 2, 1) := by decide +kernel
theorem dX7_isInSet_17 : decode cX7_isInSet 17 = .ok (.if_icmp .ne 18, 3) := by decide +kernel
theorem dX7_isInSet_20 : decode cX7_isInSet 20 = .ok (.iload_n 1, 1) := by decide +kernel
theorem dX7_isInSet_21 : decode cX7_isInSet 21 = .ok (.iload_n 3, 1) := by decide +kernel
theorem dX7_isInSet_22 : decode cX7_isInSet 22 = .ok (.ishr, 1) := by decide +kernel
theorem dX7_isInSet_23 : decode cX7_isInSet 23 = .ok (.iconst 1, 1) := by decide +kernel
theorem dX7_isInSet_24 : decode cX7_isInSet 24 = .ok (.iand, 1) := by decide +kernel
theorem dX7_isInSet_25 : decode cX7_isInSet 25 = .ok (.iconst 1, 1) := by decide +kernel
theorem dX7_isInSet_26 : decode cX7_isInSet 26 = .ok (.if_icmp .ne 7, 3) := by decide +kernel
theorem dX7_isInSet_29 : decode cX7_isInSet 29 = .ok (.iconst 1, 1) := by decide +kernel
theorem dX7_isInSet_30 : decode cX7_isInSet 30 = .ok (.goto 4, 3) := by decide +kernel
theorem dX7_isInSet_33 : decode cX7_isInSet 33 = .ok (.iconst 0, 1) := by decide +kernel
theorem dX7_isInSet_34 : decode cX7_isInSet 34 = .ok (.ireturn, 1) := by decide +kernel
theorem dX7_isInSet_35 : decode cX7_isInSet 35 = .ok (.iinc 3 1, 3) := by decide +kernel
theorem dX7_isInSet_38 : decode cX7_isInSet 38 = .ok (.goto (-36), 3) := by decide +kernel
theorem dX7_isInSet_41 : decode cX7_isInSet 41 = .ok (.iconst 0, 1) := by decide +kernel
theorem dX7_isInSet_42 : decode cX7_isInSet 42 = .ok (.ireturn, 1) := by decide +kernel
theorem dX7_gives_0 : decode cX7_gives 0 = .ok (.iconst 0, 1) := by decide +kernel
theorem dX7_gives_1 : decode cX7_gives 1 = .ok (.istore_n 2, 1) := by decide +kernel
theorem dX7_gives_2 : decode cX7_gives 2 = .ok (.iconst 0, 1) := by decide +kernel
theorem dX7_gives_3 : decode cX7_gives 3 = .ok (.istore_n 3, 1) := by decide +kernel
theorem dX7_gives_4 : decode cX7_gives 4 = .ok (.iload_n 3, 1) := by decide +kernel
theorem dX7_gives_5 : decode cX7_gives 5 = .ok (.aload_n 0, 1) := by decide +kernel
theorem dX7_gives_6 : decode cX7_gives 6 = .ok (.getfield 121, 3) := by decide +kernel
theorem dX7_gives_9 : decode cX7_gives 9 = .ok (.if_icmp .ge 63, 3) := by decide +kernel
theorem dX7_gives_12 : decode cX7_gives 12 = .ok (.iload_n 1, 1) := by decide +kernel
theorem dX7_gives_13 : decode cX7_gives 13 = .ok (.iload_n 3, 1) := by decide +kernel
theorem dX7_gives_14 : decode cX7_gives 14 = .ok (.ishr, 1) := by decide +kernel
theorem dX7_gives_15 : decode cX7_gives 15 = .ok (.iconst 1, 1) := by decide +kernel
theorem dX7_gives_16 : decode cX7_gives 16 = .ok (.iand, 1) := by decide +kernel
theorem dX7_gives_17 : decode cX7_gives 17 = .ok (.iconst 1, 1) := by decide +kernel
theorem dX7_gives_18 : decode cX7_gives 18 = .ok (.if_icmp .ne 48, 3) := by decide +kernel
theorem dX7_gives_21 : decode cX7_gives 21 = .ok (.iconst 0, 1) := by decide +kernel
theorem dX7_gives_22 : decode cX7_gives 22 = .ok (.istore 4, 2) := by decide +kernel
theorem dX7_gives_24 : decode cX7_gives 24 = .ok (.iload 4, 2) := by decide +kernel
theorem dX7_gives_26 : decode cX7_gives 26 = .ok (.aload_n 0, 1) := by decide +kernel
theorem dX7_gives_27 : decode cX7_gives 27 = .ok (.getfield 38, 3) := by decide +kernel
theorem dX7_gives_30 : decode cX7_gives 30 = .ok (.aload_n 0, 1) := by decide +kernel
theorem dX7_gives_31 : decode cX7_gives 31 = .ok (.getfield 68, 3) := by decide +kernel
theorem dX7_gives_34 : decode cX7_gives 34 = .ok (.iload_n 3, 1) := by decide +kernel
theorem dX7_gives_35 : decode cX7_gives 35 = .ok (.iaload, 1) := by decide +kernel
theorem dX7_gives_36 : decode cX7_gives 36 = .ok (.iaload, 1) := by decide +kernel
theorem dX7_gives_37 : decode cX7_gives 37 = .ok (.if_icmp .ge 29, 3) := by decide +kernel
theorem dX7_gives_40 : decode cX7_gives 40 = .ok (.aload_n 0, 1) := by decide +kernel
theorem dX7_gives_41 : decode cX7_gives 41 = .ok (.getfield 83, 3) := by decide +kernel
theorem dX7_gives_44 : decode cX7_gives 44 = .ok (.iload_n 2, 1) := by decide +kernel
theorem dX7_gives_45 : decode cX7_gives 45 = .ok (.iinc 2 1, 3) := by decide +kernel
theorem dX7_gives_48 : decode cX7_gives 48 = .ok (.iconst 3, 1) := by decide +kernel
theorem dX7_gives_49 : decode cX7_gives 49 = .ok (.aload_n 0, 1) := by decide +kernel
theorem dX7_gives_50 : decode cX7_gives 50 = .ok (.getfield 68, 3) := by decide +kernel
theorem dX7_gives_53 : decode cX7_gives 53 = .ok (.iload_n 3, 1) := by decide +kernel
theorem dX7_gives_54 : decode cX7_gives 54 = .ok (.iaload, 1) := by decide +kernel
theorem dX7_gives_55 : decode cX7_gives 55 = .ok (.imul, 1) := by decide +kernel
theorem dX7_gives_56 : decode cX7_gives 56 = .ok (.iload 4, 2) := by decide +kernel
theorem dX7_gives_58 : decode cX7_gives 58 = .ok (.iadd, 1) := by decide +kernel
theorem dX7_gives_59 : decode cX7_gives 59 = .ok (.iastore, 1) := by decide +kernel
theorem dX7_gives_60 : decode cX7_gives 60 = .ok (.iinc 4 1, 3) := by decide +kernel
theorem dX7_gives_63 : decode cX7_gives 63 = .ok (.goto (-39), 3) := by decide +kernel
theorem dX7_gives_66 : decode cX7_gives 66 = .ok (.iinc 3 1, 3) := by decide +kernel
theorem dX7_gives_69 : decode cX7_gives 69 = .ok (.goto (-65), 3) := by decide +kernel
theorem dX7_gives_72 : decode cX7_gives 72 = .ok (.iconst 0, 1) := by decide +kernel
theorem dX7_gives_73 : decode cX7_gives 73 = .ok (.istore_n 3, 1) := by decide +kernel
theorem dX7_gives_74 : decode cX7_gives 74 = .ok (.iload_n 3, 1) := by decide +kernel
theorem dX7_gives_75 : decode cX7_gives 75 = .ok (.sipush 256, 3) := by decide +kernel
theorem dX7_gives_78 : decode cX7_gives 78 = .ok (.if_icmp .ge 22, 3) := by decide +kernel
theorem dX7_gives_81 : decode cX7_gives 81 = .ok (.aload_n 0, 1) := by decide +kernel
theorem dX7_gives_82 : decode cX7_gives 82 = .ok (.getfield 80, 3) := by decide +kernel
theorem dX7_gives_85 : decode cX7_gives 85 = .ok (.sipush 256, 3) := by decide +kernel
theorem dX7_gives_88 : decode cX7_gives 88 = .ok (.iload_n 2, 1) := by decide +kernel
theorem dX7_gives_89 : decode cX7_gives 89 = .ok (.imul, 1) := by decide +kernel
theorem dX7_gives_90 : decode cX7_gives 90 = .ok (.iload_n 3, 1) := by decide +kernel
theorem dX7_gives_91 : decode cX7_gives 91 = .ok (.iadd, 1) := by decide +kernel
theorem dX7_gives_92 : decode cX7_gives 92 = .ok (.iconst 0, 1) := by decide +kernel
theorem dX7_gives_93 : decode cX7_gives 93 = .ok (.iastore, 1) := by decide +kernel
theorem dX7_gives_94 : decode cX7_gives 94 = .ok (.iinc 3 1, 3) := by decide +kernel
theorem dX7_gives_97 : decode cX7_gives 97 = .ok (.goto (-23), 3) := by decide +kernel
theorem dX7_gives_100 : decode cX7_gives 100 = .ok (.iload_n 2, 1) := by decide +kernel
theorem dX7_gives_101 : decode cX7_gives 101 = .ok (.iconst 1, 1) := by decide +kernel
theorem dX7_gives_102 : decode cX7_gives 102 = .ok (.isub, 1) := by decide +kernel
theorem dX7_gives_103 : decode cX7_gives 103 = .ok (.istore_n 3, 1) := by decide +kernel
theorem dX7_gives_104 : decode cX7_gives 104 = .ok (.iload_n 3, 1) := by decide +kernel
theorem dX7_gives_105 : decode cX7_gives 105 = .ok (.ifCond .lt 143, 3) := by decide +kernel
theorem dX7_gives_108 : decode cX7_gives 108 = .ok (.iconst 0, 1) := by decide +kernel
theorem dX7_gives_109 : decode cX7_gives 109 = .ok (.istore 4, 2) := by decide +kernel
theorem dX7_gives_111 : decode cX7_gives 111 = .ok (.iload 4, 2) := by decide +kernel
theorem dX7_gives_113 : decode cX7_gives 113 = .ok (.sipush 256, 3) := by decide +kernel
theorem dX7_gives_116 : decode cX7_gives 116 = .ok (.if_icmp .ge 126, 3) := by decide +kernel
theorem dX7_gives_119 : decode cX7_gives 119 = .ok (.ldc 127, 2) := by decide +kernel
theorem dX7_gives_121 : decode cX7_gives 121 = .ok (.istore 5, 2) := by decide +kernel
theorem dX7_gives_123 : decode cX7_gives 123 = .ok (.iconst 0, 1) := by decide +kernel
theorem dX7_gives_124 : decode cX7_gives 124 = .ok (.istore 6, 2) := by decide +kernel
theorem dX7_gives_126 : decode cX7_gives 126 = .ok (.iload 6, 2) := by decide +kernel
theorem dX7_gives_128 : decode cX7_gives 128 = .ok (.aload_n 0, 1) := by decide +kernel
theorem dX7_gives_129 : decode cX7_gives 129 = .ok (.getfield 111, 3) := by decide +kernel
theorem dX7_gives_132 : decode cX7_gives 132 = .ok (.if_icmp .ge 89, 3) := by decide +kernel
theorem dX7_gives_135 : decode cX7_gives 135 = .ok (.iload 4, 2) := by decide +kernel
theorem dX7_gives_137 : decode cX7_gives 137 = .ok (.iload 6, 2) := by decide +kernel
theorem dX7_gives_139 : decode cX7_gives 139 = .ok (.ishr, 1) := by decide +kernel
theorem dX7_gives_140 : decode cX7_gives 140 = .ok (.iconst 1, 1) := by decide +kernel
theorem dX7_gives_141 : decode cX7_gives 141 = .ok (.iand, 1) := by decide +kernel
theorem dX7_gives_142 : decode cX7_gives 142 = .ok (.iconst 1, 1) := by decide +kernel
theorem dX7_gives_143 : decode cX7_gives 143 = .ok (.if_icmp .eq 72, 3) := by decide +kernel
theorem dX7_gives_146 : decode cX7_gives 146 = .ok (.aload_n 0, 1) := by decide +kernel
theorem dX7_gives_147 : decode cX7_gives 147 = .ok (.aload_n 0, 1) := by decide +kernel
theorem dX7_gives_148 : decode cX7_gives 148 = .ok (.getfield 65, 3) := by decide +kernel
theorem dX7_gives_151 : decode cX7_gives 151 = .ok (.iload 6, 2) := by decide +kernel
theorem dX7_gives_153 : decode cX7_gives 153 = .ok (.iaload, 1) := by decide +kernel
theorem dX7_gives_154 : decode cX7_gives 154 = .ok (.aload_n 0, 1) := by decide +kernel
theorem dX7_gives_155 : decode cX7_gives 155 = .ok (.getfield 83, 3) := by decide +kernel
theorem dX7_gives_158 : decode cX7_gives 158 = .ok (.iload_n 3, 1) := by decide +kernel
theorem dX7_gives_159 : decode cX7_gives 159 = .ok (.iaload, 1) := by decide +kernel
theorem dX7_gives_160 : decode cX7_gives 160 = .ok (.invokevirtual 128, 3) := by decide +kernel
theorem dX7_gives_163 : decode cX7_gives 163 = .ok (.ifCond .ne 6, 3) := by decide +kernel
theorem dX7_gives_166 : decode cX7_gives 166 = .ok (.goto 49, 3) := by decide +kernel
theorem dX7_gives_169 : decode cX7_gives 169 = .ok (.aload_n 0, 1) := by decide +kernel
theorem dX7_gives_170 : decode cX7_gives 170 = .ok (.getfield 16, 3) := by decide +kernel
theorem dX7_gives_173 : decode cX7_gives 173 = .ok (.aload_n 0, 1) := by decide +kernel
theorem dX7_gives_174 : decode cX7_gives 174 = .ok (.getfield 65, 3) := by decide +kernel
theorem dX7_gives_177 : decode cX7_gives 177 = .ok (.iload 6, 2) := by decide +kernel
theorem dX7_gives_179 : decode cX7_gives 179 = .ok (.iaload, 1) := by decide +kernel
theorem dX7_gives_180 : decode cX7_gives 180 = .ok (.iaload, 1) := by decide +kernel
theorem dX7_gives_181 : decode cX7_gives 181 = .ok (.aload_n 0, 1) := by decide +kernel
theorem dX7_gives_182 : decode cX7_gives 182 = .ok (.getfield 80, 3) := by decide +kernel
theorem dX7_gives_185 : decode cX7_gives 185 = .ok (.sipush 256, 3) := by decide +kernel
theorem dX7_gives_188 : decode cX7_gives 188 = .ok (.iload_n 3, 1) := by decide +kernel
theorem dX7_gives_189 : decode cX7_gives 189 = .ok (.iconst 1, 1) := by decide +kernel
theorem dX7_gives_190 : decode cX7_gives 190 = .ok (.iadd, 1) := by decide +kernel
theorem dX7_gives_191 : decode cX7_gives 191 = .ok (.imul, 1) := by decide +kernel
theorem dX7_gives_192 : decode cX7_gives 192 = .ok (.iload 4, 2) := by decide +kernel
theorem dX7_gives_194 : decode cX7_gives 194 = .ok (.iconst 1, 1) := by decide +kernel
theorem dX7_gives_195 : decode cX7_gives 195 = .ok (.iload 6, 2) := by decide +kernel
theorem dX7_gives_197 : decode cX7_gives 197 = .ok (.ishl, 1) := by decide +kernel
theorem dX7_gives_198 : decode cX7_gives 198 = .ok (.ior, 1) := by decide +kernel
theorem dX7_gives_199 : decode cX7_gives 199 = .ok (.iadd, 1) := by decide +kernel
theorem dX7_gives_200 : decode cX7_gives 200 = .ok (.iaload, 1) := by decide +kernel
theorem dX7_gives_201 : decode cX7_gives 201 = .ok (.iadd, 1) := by decide +kernel
theorem dX7_gives_202 : decode cX7_gives 202 = .ok (.istore 7, 2) := by decide +kernel
theorem dX7_gives_204 : decode cX7_gives 204 = .ok (.iload 7, 2) := by decide +kernel
theorem dX7_gives_206 : decode cX7_gives 206 = .ok (.iload 5, 2) := by decide +kernel
theorem dX7_gives_208 : decode cX7_gives 208 = .ok (.if_icmp .ge 7, 3) := by decide +kernel
theorem dX7_gives_211 : decode cX7_gives 211 = .ok (.iload 7, 2) := by decide +kernel
theorem dX7_gives_213 : decode cX7_gives 213 = .ok (.istore 5, 2) := by decide +kernel
theorem dX7_gives_215 : decode cX7_gives 215 = .ok (.iinc 6 1, 3) := by decide +kernel
theorem dX7_gives_218 : decode cX7_gives 218 = .ok (.goto (-92), 3) := by decide +kernel
theorem dX7_gives_221 : decode cX7_gives 221 = .ok (.aload_n 0, 1) := by decide +kernel
theorem dX7_gives_222 : decode cX7_gives 222 = .ok (.getfield 80, 3) := by decide +kernel
theorem dX7_gives_225 : decode cX7_gives 225 = .ok (.sipush 256, 3) := by decide +kernel
theorem dX7_gives_228 : decode cX7_gives 228 = .ok (.iload_n 3, 1) := by decide +kernel
theorem dX7_gives_229 : decode cX7_gives 229 = .ok (.imul, 1) := by decide +kernel
theorem dX7_gives_230 : decode cX7_gives 230 = .ok (.iload 4, 2) := by decide +kernel
theorem dX7_gives_232 : decode cX7_gives 232 = .ok (.iadd, 1) := by decide +kernel
theorem dX7_gives_233 : decode cX7_gives 233 = .ok (.iload 5, 2) := by decide +kernel
theorem dX7_gives_235 : decode cX7_gives 235 = .ok (.iastore, 1) := by decide +kernel
theorem dX7_gives_236 : decode cX7_gives 236 = .ok (.iinc 4 1, 3) := by decide +kernel
theorem dX7_gives_239 : decode cX7_gives 239 = .ok (.goto (-128), 3) := by decide +kernel
theorem dX7_gives_242 : decode cX7_gives 242 = .ok (.iinc 3 (-1), 3) := by decide +kernel
theorem dX7_gives_245 : decode cX7_gives 245 = .ok (.goto (-141), 3) := by decide +kernel
theorem dX7_gives_248 : decode cX7_gives 248 = .ok (.iconst 0, 1) := by decide +kernel
theorem dX7_gives_249 : decode cX7_gives 249 = .ok (.istore_n 3, 1) := by decide +kernel
theorem dX7_gives_250 : decode cX7_gives 250 = .ok (.iconst 0, 1) := by decide +kernel
theorem dX7_gives_251 : decode cX7_gives 251 = .ok (.istore 4, 2) := by decide +kernel
theorem dX7_gives_253 : decode cX7_gives 253 = .ok (.iload 4, 2) := by decide +kernel
theorem dX7_gives_255 : decode cX7_gives 255 = .ok (.iload_n 2, 1) := by decide +kernel
theorem dX7_gives_256 : decode cX7_gives 256 = .ok (.if_icmp .ge 119, 3) := by decide +kernel
theorem dX7_gives_259 : decode cX7_gives 259 = .ok (.iconst 0, 1) := by decide +kernel
theorem dX7_gives_260 : decode cX7_gives 260 = .ok (.istore 5, 2) := by decide +kernel
theorem dX7_gives_262 : decode cX7_gives 262 = .ok (.iload_n 3, 1) := by decide +kernel
theorem dX7_gives_263 : decode cX7_gives 263 = .ok (.iload 5, 2) := by decide +kernel
theorem dX7_gives_265 : decode cX7_gives 265 = .ok (.ishr, 1) := by decide +kernel
theorem dX7_gives_266 : decode cX7_gives 266 = .ok (.iconst 1, 1) := by decide +kernel
theorem dX7_gives_267 : decode cX7_gives 267 = .ok (.iand, 1) := by decide +kernel
theorem dX7_gives_268 : decode cX7_gives 268 = .ok (.iconst 1, 1) := by decide +kernel
theorem dX7_gives_269 : decode cX7_gives 269 = .ok (.if_icmp .eq 73, 3) := by decide +kernel
theorem dX7_gives_272 : decode cX7_gives 272 = .ok (.aload_n 0, 1) := by decide +kernel
theorem dX7_gives_273 : decode cX7_gives 273 = .ok (.aload_n 0, 1) := by decide +kernel
theorem dX7_gives_274 : decode cX7_gives 274 = .ok (.getfield 65, 3) := by decide +kernel
theorem dX7_gives_277 : decode cX7_gives 277 = .ok (.iload 5, 2) := by decide +kernel
theorem dX7_gives_279 : decode cX7_gives 279 = .ok (.iaload, 1) := by decide +kernel
theorem dX7_gives_280 : decode cX7_gives 280 = .ok (.aload_n 0, 1) := by decide +kernel
theorem dX7_gives_281 : decode cX7_gives 281 = .ok (.getfield 83, 3) := by decide +kernel
theorem dX7_gives_284 : decode cX7_gives 284 = .ok (.iload 4, 2) := by decide +kernel
theorem dX7_gives_286 : decode cX7_gives 286 = .ok (.iaload, 1) := by decide +kernel
theorem dX7_gives_287 : decode cX7_gives 287 = .ok (.invokevirtual 128, 3) := by decide +kernel
theorem dX7_gives_290 : decode cX7_gives 290 = .ok (.ifCond .eq 52, 3) := by decide +kernel
theorem dX7_gives_293 : decode cX7_gives 293 = .ok (.aload_n 0, 1) := by decide +kernel
theorem dX7_gives_294 : decode cX7_gives 294 = .ok (.getfield 16, 3) := by decide +kernel
theorem dX7_gives_297 : decode cX7_gives 297 = .ok (.aload_n 0, 1) := by decide +kernel
theorem dX7_gives_298 : decode cX7_gives 298 = .ok (.getfield 65, 3) := by decide +kernel
theorem dX7_gives_301 : decode cX7_gives 301 = .ok (.iload 5, 2) := by decide +kernel
theorem dX7_gives_303 : decode cX7_gives 303 = .ok (.iaload, 1) := by decide +kernel
theorem dX7_gives_304 : decode cX7_gives 304 = .ok (.iaload, 1) := by decide +kernel
theorem dX7_gives_305 : decode cX7_gives 305 = .ok (.aload_n 0, 1) := by decide +kernel
theorem dX7_gives_306 : decode cX7_gives 306 = .ok (.getfield 80, 3) := by decide +kernel
theorem dX7_gives_309 : decode cX7_gives 309 = .ok (.sipush 256, 3) := by decide +kernel
theorem dX7_gives_312 : decode cX7_gives 312 = .ok (.iload 4, 2) := by decide +kernel
theorem dX7_gives_314 : decode cX7_gives 314 = .ok (.iconst 1, 1) := by decide +kernel
theorem dX7_gives_315 : decode cX7_gives 315 = .ok (.iadd, 1) := by decide +kernel
theorem dX7_gives_316 : decode cX7_gives 316 = .ok (.imul, 1) := by decide +kernel
theorem dX7_gives_317 : decode cX7_gives 317 = .ok (.iload_n 3, 1) := by decide +kernel
theorem dX7_gives_318 : decode cX7_gives 318 = .ok (.iconst 1, 1) := by decide +kernel
theorem dX7_gives_319 : decode cX7_gives 319 = .ok (.iload 5, 2) := by decide +kernel
theorem dX7_gives_321 : decode cX7_gives 321 = .ok (.ishl, 1) := by decide +kernel
theorem dX7_gives_322 : decode cX7_gives 322 = .ok (.ior, 1) := by decide +kernel
theorem dX7_gives_323 : decode cX7_gives 323 = .ok (.iadd, 1) := by decide +kernel
theorem dX7_gives_324 : decode cX7_gives 324 = .ok (.iaload, 1) := by decide +kernel
theorem dX7_gives_325 : decode cX7_gives 325 = .ok (.iadd, 1) := by decide +kernel
theorem dX7_gives_326 : decode cX7_gives 326 = .ok (.aload_n 0, 1) := by decide +kernel
theorem dX7_gives_327 : decode cX7_gives 327 = .ok (.getfield 80, 3) := by decide +kernel
theorem dX7_gives_330 : decode cX7_gives 330 = .ok (.sipush 256, 3) := by decide +kernel
theorem dX7_gives_333 : decode cX7_gives 333 = .ok (.iload 4, 2) := by decide +kernel
theorem dX7_gives_335 : decode cX7_gives 335 = .ok (.imul, 1) := by decide +kernel
theorem dX7_gives_336 : decode cX7_gives 336 = .ok (.iload_n 3, 1) := by decide +kernel
theorem dX7_gives_337 : decode cX7_gives 337 = .ok (.iadd, 1) := by decide +kernel
theorem dX7_gives_338 : decode cX7_gives 338 = .ok (.iaload, 1) := by decide +kernel
theorem dX7_gives_339 : decode cX7_gives 339 = .ok (.if_icmp .eq 9, 3) := by decide +kernel
theorem dX7_gives_342 : decode cX7_gives 342 = .ok (.iinc 5 1, 3) := by decide +kernel
theorem dX7_gives_345 : decode cX7_gives 345 = .ok (.goto (-83), 3) := by decide +kernel
theorem dX7_gives_348 : decode cX7_gives 348 = .ok (.aload_n 0, 1) := by decide +kernel
theorem dX7_gives_349 : decode cX7_gives 349 = .ok (.getfield 86, 3) := by decide +kernel
theorem dX7_gives_352 : decode cX7_gives 352 = .ok (.iload 4, 2) := by decide +kernel
theorem dX7_gives_354 : decode cX7_gives 354 = .ok (.aload_n 0, 1) := by decide +kernel
theorem dX7_gives_355 : decode cX7_gives 355 = .ok (.getfield 65, 3) := by decide +kernel
theorem dX7_gives_358 : decode cX7_gives 358 = .ok (.iload 5, 2) := by decide +kernel
theorem dX7_gives_360 : decode cX7_gives 360 = .ok (.iaload, 1) := by decide +kernel
theorem dX7_gives_361 : decode cX7_gives 361 = .ok (.iastore, 1) := by decide +kernel
theorem dX7_gives_362 : decode cX7_gives 362 = .ok (.iload_n 3, 1) := by decide +kernel
theorem dX7_gives_363 : decode cX7_gives 363 = .ok (.iconst 1, 1) := by decide +kernel
theorem dX7_gives_364 : decode cX7_gives 364 = .ok (.iload 5, 2) := by decide +kernel
theorem dX7_gives_366 : decode cX7_gives 366 = .ok (.ishl, 1) := by decide +kernel
theorem dX7_gives_367 : decode cX7_gives 367 = .ok (.ior, 1) := by decide +kernel
theorem dX7_gives_368 : decode cX7_gives 368 = .ok (.istore_n 3, 1) := by decide +kernel
theorem dX7_gives_369 : decode cX7_gives 369 = .ok (.iinc 4 1, 3) := by decide +kernel
theorem dX7_gives_372 : decode cX7_gives 372 = .ok (.goto (-119), 3) := by decide +kernel
theorem dX7_gives_375 : decode cX7_gives 375 = .ok (.iload_n 2, 1) := by decide +kernel
theorem dX7_gives_376 : decode cX7_gives 376 = .ok (.ireturn, 1) := by decide +kernel
theorem dX7_close_0 : decode cX7_close 0 = .ok (.aload_n 0, 1) := by decide +kernel
theorem dX7_close_1 : decode cX7_close 1 = .ok (.getfield 121, 3) := by decide +kernel
theorem dX7_close_4 : decode cX7_close 4 = .ok (.ifCond .ne 9, 3) := by decide +kernel
theorem dX7_close_7 : decode cX7_close 7 = .ok (.aload_n 0, 1) := by decide +kernel
theorem dX7_close_8 : decode cX7_close 8 = .ok (.iconst 1, 1) := by decide +kernel
theorem dX7_close_9 : decode cX7_close 9 = .ok (.invokevirtual 107, 3) := by decide +kernel
theorem dX7_close_12 : decode cX7_close 12 = .ok (.ireturn, 1) := by decide +kernel
theorem dX7_close_13 : decode cX7_close 13 = .ok (.aload_n 0, 1) := by decide +kernel
theorem dX7_close_14 : decode cX7_close 14 = .ok (.iconst 0, 1) := by decide +kernel
theorem dX7_close_15 : decode cX7_close 15 = .ok (.putfield 89, 3) := by decide +kernel
theorem dX7_close_18 : decode cX7_close 18 = .ok (.aload_n 0, 1) := by decide +kernel
theorem dX7_close_19 : decode cX7_close 19 = .ok (.invokevirtual 152, 3) := by decide +kernel
theorem dX7_close_22 : decode cX7_close 22 = .ok (.aload_n 0, 1) := by decide +kernel
theorem dX7_close_23 : decode cX7_close 23 = .ok (.iconst (-1), 1) := by decide +kernel
theorem dX7_close_24 : decode cX7_close 24 = .ok (.invokevirtual 149, 3) := by decide +kernel
theorem dX7_close_27 : decode cX7_close 27 = .ok (.istore_n 1, 1) := by decide +kernel
theorem dX7_close_28 : decode cX7_close 28 = .ok (.aload_n 0, 1) := by decide +kernel
theorem dX7_close_29 : decode cX7_close 29 = .ok (.iload_n 1, 1) := by decide +kernel
theorem dX7_close_30 : decode cX7_close 30 = .ok (.invokevirtual 155, 3) := by decide +kernel
theorem dX7_close_33 : decode cX7_close 33 = .ok (.istore_n 2, 1) := by decide +kernel
theorem dX7_close_34 : decode cX7_close 34 = .ok (.iconst 0, 1) := by decide +kernel
theorem dX7_close_35 : decode cX7_close 35 = .ok (.istore_n 3, 1) := by decide +kernel
theorem dX7_close_36 : decode cX7_close 36 = .ok (.iload_n 3, 1) := by decide +kernel
theorem dX7_close_37 : decode cX7_close 37 = .ok (.aload_n 0, 1) := by decide +kernel
theorem dX7_close_38 : decode cX7_close 38 = .ok (.getfield 121, 3) := by decide +kernel
theorem dX7_close_41 : decode cX7_close 41 = .ok (.if_icmp .ge 56, 3) := by decide +kernel
theorem dX7_close_44 : decode cX7_close 44 = .ok (.aload_n 0, 1) := by decide +kernel
theorem dX7_close_45 : decode cX7_close 45 = .ok (.getfield 68, 3) := by decide +kernel
theorem dX7_close_48 : decode cX7_close 48 = .ok (.iload_n 3, 1) := by decide +kernel
theorem dX7_close_49 : decode cX7_close 49 = .ok (.iaload, 1) := by decide +kernel
theorem dX7_close_50 : decode cX7_close 50 = .ok (.istore 4, 2) := by decide +kernel
theorem dX7_close_52 : decode cX7_close 52 = .ok (.iload_n 1, 1) := by decide +kernel
theorem dX7_close_53 : decode cX7_close 53 = .ok (.iload_n 3, 1) := by decide +kernel
theorem dX7_close_54 : decode cX7_close 54 = .ok (.ishr, 1) := by decide +kernel
theorem dX7_close_55 : decode cX7_close 55 = .ok (.iconst 1, 1) := by decide +kernel
theorem dX7_close_56 : decode cX7_close 56 = .ok (.iand, 1) := by decide +kernel
theorem dX7_close_57 : decode cX7_close 57 = .ok (.iconst 1, 1) := by decide +kernel
theorem dX7_close_58 : decode cX7_close 58 = .ok (.if_icmp .ne 20, 3) := by decide +kernel
theorem dX7_close_61 : decode cX7_close 61 = .ok (.aload_n 0, 1) := by decide +kernel
theorem dX7_close_62 : decode cX7_close 62 = .ok (.getfield 50, 3) := by decide +kernel
theorem dX7_close_65 : decode cX7_close 65 = .ok (.iload 4, 2) := by decide +kernel
theorem dX7_close_67 : decode cX7_close 67 = .ok (.aload_n 0, 1) := by decide +kernel
theorem dX7_close_68 : decode cX7_close 68 = .ok (.iload_n 1, 1) := by decide +kernel
theorem dX7_close_69 : decode cX7_close 69 = .ok (.iload 4, 2) := by decide +kernel
theorem dX7_close_71 : decode cX7_close 71 = .ok (.invokevirtual 158, 3) := by decide +kernel
theorem dX7_close_74 : decode cX7_close 74 = .ok (.iastore, 1) := by decide +kernel
theorem dX7_close_75 : decode cX7_close 75 = .ok (.goto 16, 3) := by decide +kernel
theorem dX7_close_78 : decode cX7_close 78 = .ok (.aload_n 0, 1) := by decide +kernel
theorem dX7_close_79 : decode cX7_close 79 = .ok (.getfield 29, 3) := by decide +kernel
theorem dX7_close_82 : decode cX7_close 82 = .ok (.iload 4, 2) := by decide +kernel
theorem dX7_close_84 : decode cX7_close 84 = .ok (.aload_n 0, 1) := by decide +kernel
theorem dX7_close_85 : decode cX7_close 85 = .ok (.iload_n 1, 1) := by decide +kernel
theorem dX7_close_86 : decode cX7_close 86 = .ok (.iload_n 3, 1) := by decide +kernel
theorem dX7_close_87 : decode cX7_close 87 = .ok (.invokevirtual 162, 3) := by decide +kernel
theorem dX7_close_90 : decode cX7_close 90 = .ok (.castore, 1) := by decide +kernel
theorem dX7_close_91 : decode cX7_close 91 = .ok (.iinc 3 1, 3) := by decide +kernel
theorem dX7_close_94 : decode cX7_close 94 = .ok (.goto (-58), 3) := by decide +kernel
theorem dX7_close_97 : decode cX7_close 97 = .ok (.iconst 0, 1) := by decide +kernel
theorem dX7_close_98 : decode cX7_close 98 = .ok (.istore_n 3, 1) := by decide +kernel
theorem dX7_close_99 : decode cX7_close 99 = .ok (.iload_n 3, 1) := by decide +kernel
theorem dX7_close_100 : decode cX7_close 100 = .ok (.aload_n 0, 1) := by decide +kernel
theorem dX7_close_101 : decode cX7_close 101 = .ok (.getfield 121, 3) := by decide +kernel
theorem dX7_close_104 : decode cX7_close 104 = .ok (.if_icmp .ge 69, 3) := by decide +kernel
theorem dX7_close_107 : decode cX7_close 107 = .ok (.aload_n 0, 1) := by decide +kernel
theorem dX7_close_108 : decode cX7_close 108 = .ok (.getfield 68, 3) := by decide +kernel
theorem dX7_close_111 : decode cX7_close 111 = .ok (.iload_n 3, 1) := by decide +kernel
theorem dX7_close_112 : decode cX7_close 112 = .ok (.iaload, 1) := by decide +kernel
theorem dX7_close_113 : decode cX7_close 113 = .ok (.istore 4, 2) := by decide +kernel
theorem dX7_close_115 : decode cX7_close 115 = .ok (.aload_n 0, 1) := by decide +kernel
theorem dX7_close_116 : decode cX7_close 116 = .ok (.getfield 26, 3) := by decide +kernel
theorem dX7_close_119 : decode cX7_close 119 = .ok (.iload 4, 2) := by decide +kernel
theorem dX7_close_121 : decode cX7_close 121 = .ok (.iload_n 1, 1) := by decide +kernel
theorem dX7_close_122 : decode cX7_close 122 = .ok (.iload_n 3, 1) := by decide +kernel
theorem dX7_close_123 : decode cX7_close 123 = .ok (.ishr, 1) := by decide +kernel
theorem dX7_close_124 : decode cX7_close 124 = .ok (.iconst 1, 1) := by decide +kernel
theorem dX7_close_125 : decode cX7_close 125 = .ok (.iand, 1) := by decide +kernel
theorem dX7_close_126 : decode cX7_close 126 = .ok (.iconst 1, 1) := by decide +kernel
theorem dX7_close_127 : decode cX7_close 127 = .ok (.if_icmp .ne 8, 3) := by decide +kernel
theorem dX7_close_130 : decode cX7_close 130 = .ok (.bipush 119, 2) := by decide +kernel
theorem dX7_close_132 : decode cX7_close 132 = .ok (.goto 5, 3) := by decide +kernel
theorem dX7_close_135 : decode cX7_close 135 = .ok (.bipush 108, 2) := by decide +kernel
theorem dX7_close_137 : decode cX7_close 137 = .ok (.castore, 1) := by decide +kernel
theorem dX7_close_138 : decode cX7_close 138 = .ok (.aload_n 0, 1) := by decide +kernel
theorem dX7_close_139 : decode cX7_close 139 = .ok (.getfield 26, 3) := by decide +kernel
theorem dX7_close_142 : decode cX7_close 142 = .ok (.iload 4, 2) := by decide +kernel
theorem dX7_close_144 : decode cX7_close 144 = .ok (.caload, 1) := by decide +kernel
theorem dX7_close_145 : decode cX7_close 145 = .ok (.bipush 119, 2) := by decide +kernel
theorem dX7_close_147 : decode cX7_close 147 = .ok (.if_icmp .ne 20, 3) := by decide +kernel
theorem dX7_close_150 : decode cX7_close 150 = .ok (.aload_n 0, 1) := by decide +kernel
theorem dX7_close_151 : decode cX7_close 151 = .ok (.dup, 1) := by decide +kernel
theorem dX7_close_152 : decode cX7_close 152 = .ok (.getfield 166, 3) := by decide +kernel
theorem dX7_close_155 : decode cX7_close 155 = .ok (.aload_n 0, 1) := by decide +kernel
theorem dX7_close_156 : decode cX7_close 156 = .ok (.getfield 50, 3) := by decide +kernel
theorem dX7_close_159 : decode cX7_close 159 = .ok (.iload 4, 2) := by decide +kernel
theorem dX7_close_161 : decode cX7_close 161 = .ok (.iaload, 1) := by decide +kernel
theorem dX7_close_162 : decode cX7_close 162 = .ok (.i2l, 1) := by decide +kernel
theorem dX7_close_163 : decode cX7_close 163 = .ok (.ladd, 1) := by decide +kernel
theorem dX7_close_164 : decode cX7_close 164 = .ok (.putfield 166, 3) := by decide +kernel
theorem dX7_close_167 : decode cX7_close 167 = .ok (.iinc 3 1, 3) := by decide +kernel
theorem dX7_close_170 : decode cX7_close 170 = .ok (.goto (-71), 3) := by decide +kernel
theorem dX7_close_173 : decode cX7_close 173 = .ok (.iconst 0, 1) := by decide +kernel
theorem dX7_close_174 : decode cX7_close 174 = .ok (.istore_n 3, 1) := by decide +kernel
theorem dX7_close_175 : decode cX7_close 175 = .ok (.iload_n 3, 1) := by decide +kernel
theorem dX7_close_176 : decode cX7_close 176 = .ok (.iload_n 2, 1) := by decide +kernel
theorem dX7_close_177 : decode cX7_close 177 = .ok (.if_icmp .ge 58, 3) := by decide +kernel
theorem dX7_close_180 : decode cX7_close 180 = .ok (.aload_n 0, 1) := by decide +kernel
theorem dX7_close_181 : decode cX7_close 181 = .ok (.getfield 47, 3) := by decide +kernel
theorem dX7_close_184 : decode cX7_close 184 = .ok (.aload_n 0, 1) := by decide +kernel
theorem dX7_close_185 : decode cX7_close 185 = .ok (.getfield 83, 3) := by decide +kernel
theorem dX7_close_188 : decode cX7_close 188 = .ok (.iload_n 3, 1) := by decide +kernel
theorem dX7_close_189 : decode cX7_close 189 = .ok (.iaload, 1) := by decide +kernel
theorem dX7_close_190 : decode cX7_close 190 = .ok (.aload_n 0, 1) := by decide +kernel
theorem dX7_close_191 : decode cX7_close 191 = .ok (.getfield 86, 3) := by decide +kernel
theorem dX7_close_194 : decode cX7_close 194 = .ok (.iload_n 3, 1) := by decide +kernel
theorem dX7_close_195 : decode cX7_close 195 = .ok (.iaload, 1) := by decide +kernel
theorem dX7_close_196 : decode cX7_close 196 = .ok (.iastore, 1) := by decide +kernel
theorem dX7_close_197 : decode cX7_close 197 = .ok (.aload_n 0, 1) := by decide +kernel
theorem dX7_close_198 : decode cX7_close 198 = .ok (.getfield 19, 3) := by decide +kernel
theorem dX7_close_201 : decode cX7_close 201 = .ok (.aload_n 0, 1) := by decide +kernel
theorem dX7_close_202 : decode cX7_close 202 = .ok (.getfield 86, 3) := by decide +kernel
theorem dX7_close_205 : decode cX7_close 205 = .ok (.iload_n 3, 1) := by decide +kernel
theorem dX7_close_206 : decode cX7_close 206 = .ok (.iaload, 1) := by decide +kernel
theorem dX7_close_207 : decode cX7_close 207 = .ok (.aload_n 0, 1) := by decide +kernel
theorem dX7_close_208 : decode cX7_close 208 = .ok (.getfield 83, 3) := by decide +kernel
theorem dX7_close_211 : decode cX7_close 211 = .ok (.iload_n 3, 1) := by decide +kernel
theorem dX7_close_212 : decode cX7_close 212 = .ok (.iaload, 1) := by decide +kernel
theorem dX7_close_213 : decode cX7_close 213 = .ok (.iconst 3, 1) := by decide +kernel
theorem dX7_close_214 : decode cX7_close 214 = .ok (.idiv, 1) := by decide +kernel
theorem dX7_close_215 : decode cX7_close 215 = .ok (.iastore, 1) := by decide +kernel
theorem dX7_close_216 : decode cX7_close 216 = .ok (.aload_n 0, 1) := by decide +kernel
theorem dX7_close_217 : decode cX7_close 217 = .ok (.getfield 22, 3) := by decide +kernel
theorem dX7_close_220 : decode cX7_close 220 = .ok (.aload_n 0, 1) := by decide +kernel
theorem dX7_close_221 : decode cX7_close 221 = .ok (.getfield 86, 3) := by decide +kernel
theorem dX7_close_224 : decode cX7_close 224 = .ok (.iload_n 3, 1) := by decide +kernel
theorem dX7_close_225 : decode cX7_close 225 = .ok (.iaload, 1) := by decide +kernel
theorem dX7_close_226 : decode cX7_close 226 = .ok (.bipush 115, 2) := by decide +kernel
theorem dX7_close_228 : decode cX7_close 228 = .ok (.castore, 1) := by decide +kernel
theorem dX7_close_229 : decode cX7_close 229 = .ok (.iinc 3 1, 3) := by decide +kernel
theorem dX7_close_232 : decode cX7_close 232 = .ok (.goto (-57), 3) := by decide +kernel
theorem dX7_close_235 : decode cX7_close 235 = .ok (.aload_n 0, 1) := by decide +kernel
theorem dX7_close_236 : decode cX7_close 236 = .ok (.iconst 0, 1) := by decide +kernel
theorem dX7_close_237 : decode cX7_close 237 = .ok (.putfield 121, 3) := by decide +kernel
theorem dX7_close_240 : decode cX7_close 240 = .ok (.aload_n 0, 1) := by decide +kernel
theorem dX7_close_241 : decode cX7_close 241 = .ok (.dup, 1) := by decide +kernel
theorem dX7_close_242 : decode cX7_close 242 = .ok (.getfield 111, 3) := by decide +kernel
theorem dX7_close_245 : decode cX7_close 245 = .ok (.iload_n 2, 1) := by decide +kernel
theorem dX7_close_246 : decode cX7_close 246 = .ok (.isub, 1) := by decide +kernel
theorem dX7_close_247 : decode cX7_close 247 = .ok (.putfield 111, 3) := by decide +kernel
theorem dX7_close_250 : decode cX7_close 250 = .ok (.iload_n 2, 1) := by decide +kernel
theorem dX7_close_251 : decode cX7_close 251 = .ok (.ireturn, 1) := by decide +kernel
theorem dX7_why_0 : decode cX7_why 0 = .ok (.aload_n 0, 1) := by decide +kernel
theorem dX7_why_1 : decode cX7_why 1 = .ok (.getfield 68, 3) := by decide +kernel
theorem dX7_why_4 : decode cX7_why 4 = .ok (.iload_n 2, 1) := by decide +kernel
theorem dX7_why_5 : decode cX7_why 5 = .ok (.iaload, 1) := by decide +kernel
theorem dX7_why_6 : decode cX7_why 6 = .ok (.istore_n 3, 1) := by decide +kernel
theorem dX7_why_7 : decode cX7_why 7 = .ok (.aload_n 0, 1) := by decide +kernel
theorem dX7_why_8 : decode cX7_why 8 = .ok (.getfield 38, 3) := by decide +kernel
theorem dX7_why_11 : decode cX7_why 11 = .ok (.iload_n 3, 1) := by decide +kernel
theorem dX7_why_12 : decode cX7_why 12 = .ok (.iaload, 1) := by decide +kernel
theorem dX7_why_13 : decode cX7_why 13 = .ok (.ifCond .ne 6, 3) := by decide +kernel
theorem dX7_why_16 : decode cX7_why 16 = .ok (.bipush 110, 2) := by decide +kernel
theorem dX7_why_18 : decode cX7_why 18 = .ok (.ireturn, 1) := by decide +kernel
theorem dX7_why_19 : decode cX7_why 19 = .ok (.aload_n 0, 1) := by decide +kernel
theorem dX7_why_20 : decode cX7_why 20 = .ok (.getfield 71, 3) := by decide +kernel
theorem dX7_why_23 : decode cX7_why 23 = .ok (.iconst 1, 1) := by decide +kernel
theorem dX7_why_24 : decode cX7_why 24 = .ok (.iload_n 2, 1) := by decide +kernel
theorem dX7_why_25 : decode cX7_why 25 = .ok (.ishl, 1) := by decide +kernel
theorem dX7_why_26 : decode cX7_why 26 = .ok (.iaload, 1) := by decide +kernel
theorem dX7_why_27 : decode cX7_why 27 = .ok (.ldc 145, 2) := by decide +kernel
theorem dX7_why_29 : decode cX7_why 29 = .ok (.if_icmp .ne 6, 3) := by decide +kernel
theorem dX7_why_32 : decode cX7_why 32 = .ok (.bipush 108, 2) := by decide +kernel
theorem dX7_why_34 : decode cX7_why 34 = .ok (.ireturn, 1) := by decide +kernel
theorem dX7_why_35 : decode cX7_why 35 = .ok (.aload_n 0, 1) := by decide +kernel
theorem dX7_why_36 : decode cX7_why 36 = .ok (.getfield 71, 3) := by decide +kernel
theorem dX7_why_39 : decode cX7_why 39 = .ok (.iconst 1, 1) := by decide +kernel
theorem dX7_why_40 : decode cX7_why 40 = .ok (.iload_n 2, 1) := by decide +kernel
theorem dX7_why_41 : decode cX7_why 41 = .ok (.ishl, 1) := by decide +kernel
theorem dX7_why_42 : decode cX7_why 42 = .ok (.iaload, 1) := by decide +kernel
theorem dX7_why_43 : decode cX7_why 43 = .ok (.ifCond .ge 6, 3) := by decide +kernel
theorem dX7_why_46 : decode cX7_why 46 = .ok (.bipush 112, 2) := by decide +kernel
theorem dX7_why_48 : decode cX7_why 48 = .ok (.ireturn, 1) := by decide +kernel
theorem dX7_why_49 : decode cX7_why 49 = .ok (.iconst 0, 1) := by decide +kernel
theorem dX7_why_50 : decode cX7_why 50 = .ok (.istore 4, 2) := by decide +kernel
theorem dX7_why_52 : decode cX7_why 52 = .ok (.iload 4, 2) := by decide +kernel
theorem dX7_why_54 : decode cX7_why 54 = .ok (.aload_n 0, 1) := by decide +kernel
theorem dX7_why_55 : decode cX7_why 55 = .ok (.getfield 121, 3) := by decide +kernel
theorem dX7_why_58 : decode cX7_why 58 = .ok (.if_icmp .ge 56, 3) := by decide +kernel
theorem dX7_why_61 : decode cX7_why 61 = .ok (.iload_n 1, 1) := by decide +kernel
theorem dX7_why_62 : decode cX7_why 62 = .ok (.iload 4, 2) := by decide +kernel
theorem dX7_why_64 : decode cX7_why 64 = .ok (.ishr, 1) := by decide +kernel
theorem dX7_why_65 : decode cX7_why 65 = .ok (.iconst 1, 1) := by decide +kernel
theorem dX7_why_66 : decode cX7_why 66 = .ok (.iand, 1) := by decide +kernel
theorem dX7_why_67 : decode cX7_why 67 = .ok (.iconst 1, 1) := by decide +kernel
theorem dX7_why_68 : decode cX7_why 68 = .ok (.if_icmp .ne 40, 3) := by decide +kernel
theorem dX7_why_71 : decode cX7_why 71 = .ok (.aload_n 0, 1) := by decide +kernel
theorem dX7_why_72 : decode cX7_why 72 = .ok (.getfield 32, 3) := by decide +kernel
theorem dX7_why_75 : decode cX7_why 75 = .ok (.aload_n 0, 1) := by decide +kernel
theorem dX7_why_76 : decode cX7_why 76 = .ok (.getfield 68, 3) := by decide +kernel
theorem dX7_why_79 : decode cX7_why 79 = .ok (.iload 4, 2) := by decide +kernel
theorem dX7_why_81 : decode cX7_why 81 = .ok (.iaload, 1) := by decide +kernel
theorem dX7_why_82 : decode cX7_why 82 = .ok (.iaload, 1) := by decide +kernel
theorem dX7_why_83 : decode cX7_why 83 = .ok (.aload_n 0, 1) := by decide +kernel
theorem dX7_why_84 : decode cX7_why 84 = .ok (.getfield 32, 3) := by decide +kernel
theorem dX7_why_87 : decode cX7_why 87 = .ok (.iload_n 3, 1) := by decide +kernel
theorem dX7_why_88 : decode cX7_why 88 = .ok (.iaload, 1) := by decide +kernel
theorem dX7_why_89 : decode cX7_why 89 = .ok (.if_icmp .ne 19, 3) := by decide +kernel
theorem dX7_why_92 : decode cX7_why 92 = .ok (.aload_n 0, 1) := by decide +kernel
theorem dX7_why_93 : decode cX7_why 93 = .ok (.getfield 53, 3) := by decide +kernel
theorem dX7_why_96 : decode cX7_why 96 = .ok (.iload_n 3, 1) := by decide +kernel
theorem dX7_why_97 : decode cX7_why 97 = .ok (.aload_n 0, 1) := by decide +kernel
theorem dX7_why_98 : decode cX7_why 98 = .ok (.getfield 68, 3) := by decide +kernel
theorem dX7_why_101 : decode cX7_why 101 = .ok (.iload 4, 2) := by decide +kernel
theorem dX7_why_103 : decode cX7_why 103 = .ok (.iaload, 1) := by decide +kernel
theorem dX7_why_104 : decode cX7_why 104 = .ok (.iastore, 1) := by decide +kernel
theorem dX7_why_105 : decode cX7_why 105 = .ok (.bipush 98, 2) := by decide +kernel
theorem dX7_why_107 : decode cX7_why 107 = .ok (.ireturn, 1) := by decide +kernel
theorem dX7_why_108 : decode cX7_why 108 = .ok (.iinc 4 1, 3) := by decide +kernel
theorem dX7_why_111 : decode cX7_why 111 = .ok (.goto (-59), 3) := by decide +kernel
theorem dX7_why_114 : decode cX7_why 114 = .ok (.bipush 109, 2) := by decide +kernel
theorem dX7_why_116 : decode cX7_why 116 = .ok (.ireturn, 1) := by decide +kernel
theorem dX7_lots_0 : decode cX7_lots 0 = .ok (.aload_n 0, 1) := by decide +kernel
theorem dX7_lots_1 : decode cX7_lots 1 = .ok (.getfield 93, 3) := by decide +kernel
theorem dX7_lots_4 : decode cX7_lots 4 = .ok (.ireturn, 1) := by decide +kernel
theorem dX7_bids_0 : decode cX7_bids 0 = .ok (.aload_n 0, 1) := by decide +kernel
theorem dX7_bids_1 : decode cX7_bids 1 = .ok (.getfield 100, 3) := by decide +kernel
theorem dX7_bids_4 : decode cX7_bids 4 = .ok (.ireturn, 1) := by decide +kernel
theorem dX7_openLots_0 : decode cX7_openLots 0 = .ok (.aload_n 0, 1) := by decide +kernel
theorem dX7_openLots_1 : decode cX7_openLots 1 = .ok (.getfield 111, 3) := by decide +kernel
theorem dX7_openLots_4 : decode cX7_openLots 4 = .ok (.ireturn, 1) := by decide +kernel
theorem dX7_openBids_0 : decode cX7_openBids 0 = .ok (.aload_n 0, 1) := by decide +kernel
theorem dX7_openBids_1 : decode cX7_openBids 1 = .ok (.getfield 121, 3) := by decide +kernel
theorem dX7_openBids_4 : decode cX7_openBids 4 = .ok (.ireturn, 1) := by decide +kernel
theorem dX7_noLot_0 : decode cX7_noLot 0 = .ok (.aload_n 0, 1) := by decide +kernel
theorem dX7_noLot_1 : decode cX7_noLot 1 = .ok (.aload_n 0, 1) := by decide +kernel
theorem dX7_noLot_2 : decode cX7_noLot 2 = .ok (.iload_n 1, 1) := by decide +kernel
theorem dX7_noLot_3 : decode cX7_noLot 3 = .ok (.invokevirtual 114, 3) := by decide +kernel
theorem dX7_noLot_6 : decode cX7_noLot 6 = .ok (.ifCond .eq 7, 3) := by decide +kernel
theorem dX7_noLot_9 : decode cX7_noLot 9 = .ok (.iconst 0, 1) := by decide +kernel
theorem dX7_noLot_10 : decode cX7_noLot 10 = .ok (.goto 4, 3) := by decide +kernel
theorem dX7_noLot_13 : decode cX7_noLot 13 = .ok (.iconst 1, 1) := by decide +kernel
theorem dX7_noLot_14 : decode cX7_noLot 14 = .ok (.putfield 89, 3) := by decide +kernel
theorem dX7_noLot_17 : decode cX7_noLot 17 = .ok (.aload_n 0, 1) := by decide +kernel
theorem dX7_noLot_18 : decode cX7_noLot 18 = .ok (.getfield 89, 3) := by decide +kernel
theorem dX7_noLot_21 : decode cX7_noLot 21 = .ok (.ifCond .eq 7, 3) := by decide +kernel
theorem dX7_noLot_24 : decode cX7_noLot 24 = .ok (.iconst 1, 1) := by decide +kernel
theorem dX7_noLot_25 : decode cX7_noLot 25 = .ok (.goto 4, 3) := by decide +kernel
theorem dX7_noLot_28 : decode cX7_noLot 28 = .ok (.iconst 0, 1) := by decide +kernel
theorem dX7_noLot_29 : decode cX7_noLot 29 = .ok (.ireturn, 1) := by decide +kernel
theorem dX7_fibreOf_0 : decode cX7_fibreOf 0 = .ok (.aload_n 0, 1) := by decide +kernel
theorem dX7_fibreOf_1 : decode cX7_fibreOf 1 = .ok (.iload_n 1, 1) := by decide +kernel
theorem dX7_fibreOf_2 : decode cX7_fibreOf 2 = .ok (.invokevirtual 170, 3) := by decide +kernel
theorem dX7_fibreOf_5 : decode cX7_fibreOf 5 = .ok (.ifCond .eq 7, 3) := by decide +kernel
theorem dX7_fibreOf_8 : decode cX7_fibreOf 8 = .ok (.iconst 0, 1) := by decide +kernel
theorem dX7_fibreOf_9 : decode cX7_fibreOf 9 = .ok (.goto 9, 3) := by decide +kernel
theorem dX7_fibreOf_12 : decode cX7_fibreOf 12 = .ok (.aload_n 0, 1) := by decide +kernel
theorem dX7_fibreOf_13 : decode cX7_fibreOf 13 = .ok (.getfield 7, 3) := by decide +kernel
theorem dX7_fibreOf_16 : decode cX7_fibreOf 16 = .ok (.iload_n 1, 1) := by decide +kernel
theorem dX7_fibreOf_17 : decode cX7_fibreOf 17 = .ok (.iaload, 1) := by decide +kernel
theorem dX7_fibreOf_18 : decode cX7_fibreOf 18 = .ok (.ireturn, 1) := by decide +kernel
theorem dX7_gradeOf_0 : decode cX7_gradeOf 0 = .ok (.aload_n 0, 1) := by decide +kernel
theorem dX7_gradeOf_1 : decode cX7_gradeOf 1 = .ok (.iload_n 1, 1) := by decide +kernel
theorem dX7_gradeOf_2 : decode cX7_gradeOf 2 = .ok (.invokevirtual 170, 3) := by decide +kernel
theorem dX7_gradeOf_5 : decode cX7_gradeOf 5 = .ok (.ifCond .eq 8, 3) := by decide +kernel
theorem dX7_gradeOf_8 : decode cX7_gradeOf 8 = .ok (.bipush 97, 2) := by decide +kernel
theorem dX7_gradeOf_10 : decode cX7_gradeOf 10 = .ok (.goto 10, 3) := by decide +kernel
theorem dX7_gradeOf_13 : decode cX7_gradeOf 13 = .ok (.aload_n 0, 1) := by decide +kernel
theorem dX7_gradeOf_14 : decode cX7_gradeOf 14 = .ok (.getfield 13, 3) := by decide +kernel
theorem dX7_gradeOf_17 : decode cX7_gradeOf 17 = .ok (.iload_n 1, 1) := by decide +kernel
theorem dX7_gradeOf_18 : decode cX7_gradeOf 18 = .ok (.iaload, 1) := by decide +kernel
theorem dX7_gradeOf_19 : decode cX7_gradeOf 19 = .ok (.i2c, 1) := by decide +kernel
theorem dX7_gradeOf_20 : decode cX7_gradeOf 20 = .ok (.ireturn, 1) := by decide +kernel
theorem dX7_reserveOf_0 : decode cX7_reserveOf 0 = .ok (.aload_n 0, 1) := by decide +kernel
theorem dX7_reserveOf_1 : decode cX7_reserveOf 1 = .ok (.iload_n 1, 1) := by decide +kernel
theorem dX7_reserveOf_2 : decode cX7_reserveOf 2 = .ok (.invokevirtual 170, 3) := by decide +kernel
theorem dX7_reserveOf_5 : decode cX7_reserveOf 5 = .ok (.ifCond .eq 7, 3) := by decide +kernel
theorem dX7_reserveOf_8 : decode cX7_reserveOf 8 = .ok (.iconst 0, 1) := by decide +kernel
theorem dX7_reserveOf_9 : decode cX7_reserveOf 9 = .ok (.goto 9, 3) := by decide +kernel
theorem dX7_reserveOf_12 : decode cX7_reserveOf 12 = .ok (.aload_n 0, 1) := by decide +kernel
theorem dX7_reserveOf_13 : decode cX7_reserveOf 13 = .ok (.getfield 16, 3) := by decide +kernel
theorem dX7_reserveOf_16 : decode cX7_reserveOf 16 = .ok (.iload_n 1, 1) := by decide +kernel
theorem dX7_reserveOf_17 : decode cX7_reserveOf 17 = .ok (.iaload, 1) := by decide +kernel
theorem dX7_reserveOf_18 : decode cX7_reserveOf 18 = .ok (.ireturn, 1) := by decide +kernel
theorem dX7_lotState_0 : decode cX7_lotState 0 = .ok (.aload_n 0, 1) := by decide +kernel
theorem dX7_lotState_1 : decode cX7_lotState 1 = .ok (.iload_n 1, 1) := by decide +kernel
theorem dX7_lotState_2 : decode cX7_lotState 2 = .ok (.invokevirtual 170, 3) := by decide +kernel
theorem dX7_lotState_5 : decode cX7_lotState 5 = .ok (.ifCond .eq 8, 3) := by decide +kernel
theorem dX7_lotState_8 : decode cX7_lotState 8 = .ok (.bipush 111, 2) := by decide +kernel
theorem dX7_lotState_10 : decode cX7_lotState 10 = .ok (.goto 9, 3) := by decide +kernel
theorem dX7_lotState_13 : decode cX7_lotState 13 = .ok (.aload_n 0, 1) := by decide +kernel
theorem dX7_lotState_14 : decode cX7_lotState 14 = .ok (.getfield 22, 3) := by decide +kernel
theorem dX7_lotState_17 : decode cX7_lotState 17 = .ok (.iload_n 1, 1) := by decide +kernel
theorem dX7_lotState_18 : decode cX7_lotState 18 = .ok (.caload, 1) := by decide +kernel
theorem dX7_lotState_19 : decode cX7_lotState 19 = .ok (.ireturn, 1) := by decide +kernel
theorem dX7_soldTo_0 : decode cX7_soldTo 0 = .ok (.aload_n 0, 1) := by decide +kernel
theorem dX7_soldTo_1 : decode cX7_soldTo 1 = .ok (.iload_n 1, 1) := by decide +kernel
theorem dX7_soldTo_2 : decode cX7_soldTo 2 = .ok (.invokevirtual 170, 3) := by decide +kernel
theorem dX7_soldTo_5 : decode cX7_soldTo 5 = .ok (.ifCond .eq 5, 3) := by decide +kernel
theorem dX7_soldTo_8 : decode cX7_soldTo 8 = .ok (.iconst 0, 1) := by decide +kernel
theorem dX7_soldTo_9 : decode cX7_soldTo 9 = .ok (.ireturn, 1) := by decide +kernel
theorem dX7_soldTo_10 : decode cX7_soldTo 10 = .ok (.aload_n 0, 1) := by decide +kernel
theorem dX7_soldTo_11 : decode cX7_soldTo 11 = .ok (.getfield 22, 3) := by decide +kernel
theorem dX7_soldTo_14 : decode cX7_soldTo 14 = .ok (.iload_n 1, 1) := by decide +kernel
theorem dX7_soldTo_15 : decode cX7_soldTo 15 = .ok (.caload, 1) := by decide +kernel
theorem dX7_soldTo_16 : decode cX7_soldTo 16 = .ok (.bipush 115, 2) := by decide +kernel
theorem dX7_soldTo_18 : decode cX7_soldTo 18 = .ok (.if_icmp .eq 9, 3) := by decide +kernel
theorem dX7_soldTo_21 : decode cX7_soldTo 21 = .ok (.aload_n 0, 1) := by decide +kernel
theorem dX7_soldTo_22 : decode cX7_soldTo 22 = .ok (.iconst 2, 1) := by decide +kernel
theorem dX7_soldTo_23 : decode cX7_soldTo 23 = .ok (.invokevirtual 107, 3) := by decide +kernel
theorem dX7_soldTo_26 : decode cX7_soldTo 26 = .ok (.ireturn, 1) := by decide +kernel
theorem dX7_soldTo_27 : decode cX7_soldTo 27 = .ok (.aload_n 0, 1) := by decide +kernel
theorem dX7_soldTo_28 : decode cX7_soldTo 28 = .ok (.getfield 19, 3) := by decide +kernel
theorem dX7_soldTo_31 : decode cX7_soldTo 31 = .ok (.iload_n 1, 1) := by decide +kernel
theorem dX7_soldTo_32 : decode cX7_soldTo 32 = .ok (.iaload, 1) := by decide +kernel
theorem dX7_soldTo_33 : decode cX7_soldTo 33 = .ok (.ireturn, 1) := by decide +kernel
theorem dX7_countOf_0 : decode cX7_countOf 0 = .ok (.iload_n 1, 1) := by decide +kernel
theorem dX7_countOf_1 : decode cX7_countOf 1 = .ok (.iconst 0, 1) := by decide +kernel
theorem dX7_countOf_2 : decode cX7_countOf 2 = .ok (.iconst 3, 1) := by decide +kernel
theorem dX7_countOf_3 : decode cX7_countOf 3 = .ok (.invokestatic 96, 3) := by decide +kernel
theorem dX7_countOf_6 : decode cX7_countOf 6 = .ok (.ifCond .eq 10, 3) := by decide +kernel
theorem dX7_countOf_9 : decode cX7_countOf 9 = .ok (.iload_n 2, 1) := by decide +kernel
theorem dX7_countOf_10 : decode cX7_countOf 10 = .ok (.invokestatic 103, 3) := by decide +kernel
theorem dX7_countOf_13 : decode cX7_countOf 13 = .ok (.ifCond .ne 9, 3) := by decide +kernel
theorem dX7_countOf_16 : decode cX7_countOf 16 = .ok (.aload_n 0, 1) := by decide +kernel
theorem dX7_countOf_17 : decode cX7_countOf 17 = .ok (.iconst 1, 1) := by decide +kernel
theorem dX7_countOf_18 : decode cX7_countOf 18 = .ok (.invokevirtual 107, 3) := by decide +kernel
theorem dX7_countOf_21 : decode cX7_countOf 21 = .ok (.ireturn, 1) := by decide +kernel
theorem dX7_countOf_22 : decode cX7_countOf 22 = .ok (.aload_n 0, 1) := by decide +kernel
theorem dX7_countOf_23 : decode cX7_countOf 23 = .ok (.iconst 0, 1) := by decide +kernel
theorem dX7_countOf_24 : decode cX7_countOf 24 = .ok (.putfield 89, 3) := by decide +kernel
theorem dX7_countOf_27 : decode cX7_countOf 27 = .ok (.iconst 0, 1) := by decide +kernel
theorem dX7_countOf_28 : decode cX7_countOf 28 = .ok (.istore_n 3, 1) := by decide +kernel
theorem dX7_countOf_29 : decode cX7_countOf 29 = .ok (.iconst 0, 1) := by decide +kernel
theorem dX7_countOf_30 : decode cX7_countOf 30 = .ok (.istore 4, 2) := by decide +kernel
theorem dX7_countOf_32 : decode cX7_countOf 32 = .ok (.iload 4, 2) := by decide +kernel
theorem dX7_countOf_34 : decode cX7_countOf 34 = .ok (.aload_n 0, 1) := by decide +kernel
theorem dX7_countOf_35 : decode cX7_countOf 35 = .ok (.getfield 93, 3) := by decide +kernel
theorem dX7_countOf_38 : decode cX7_countOf 38 = .ok (.if_icmp .ge 46, 3) := by decide +kernel
theorem dX7_countOf_41 : decode cX7_countOf 41 = .ok (.aload_n 0, 1) := by decide +kernel
theorem dX7_countOf_42 : decode cX7_countOf 42 = .ok (.getfield 22, 3) := by decide +kernel
theorem dX7_countOf_45 : decode cX7_countOf 45 = .ok (.iload 4, 2) := by decide +kernel
theorem dX7_countOf_47 : decode cX7_countOf 47 = .ok (.caload, 1) := by decide +kernel
theorem dX7_countOf_48 : decode cX7_countOf 48 = .ok (.bipush 111, 2) := by decide +kernel
theorem dX7_countOf_50 : decode cX7_countOf 50 = .ok (.if_icmp .ne 28, 3) := by decide +kernel
theorem dX7_countOf_53 : decode cX7_countOf 53 = .ok (.aload_n 0, 1) := by decide +kernel
theorem dX7_countOf_54 : decode cX7_countOf 54 = .ok (.getfield 7, 3) := by decide +kernel
theorem dX7_countOf_57 : decode cX7_countOf 57 = .ok (.iload 4, 2) := by decide +kernel
theorem dX7_countOf_59 : decode cX7_countOf 59 = .ok (.iaload, 1) := by decide +kernel
theorem dX7_countOf_60 : decode cX7_countOf 60 = .ok (.iload_n 1, 1) := by decide +kernel
theorem dX7_countOf_61 : decode cX7_countOf 61 = .ok (.if_icmp .ne 17, 3) := by decide +kernel
theorem dX7_countOf_64 : decode cX7_countOf 64 = .ok (.aload_n 0, 1) := by decide +kernel
theorem dX7_countOf_65 : decode cX7_countOf 65 = .ok (.getfield 13, 3) := by decide +kernel
theorem dX7_countOf_68 : decode cX7_countOf 68 = .ok (.iload 4, 2) := by decide +kernel
theorem dX7_countOf_70 : decode cX7_countOf 70 = .ok (.iaload, 1) := by decide +kernel
theorem dX7_countOf_71 : decode cX7_countOf 71 = .ok (.iload_n 2, 1) := by decide +kernel
theorem dX7_countOf_72 : decode cX7_countOf 72 = .ok (.if_icmp .ne 6, 3) := by decide +kernel
theorem dX7_countOf_75 : decode cX7_countOf 75 = .ok (.iinc 3 1, 3) := by decide +kernel
theorem dX7_countOf_78 : decode cX7_countOf 78 = .ok (.iinc 4 1, 3) := by decide +kernel
theorem dX7_countOf_81 : decode cX7_countOf 81 = .ok (.goto (-49), 3) := by decide +kernel
theorem dX7_countOf_84 : decode cX7_countOf 84 = .ok (.iload_n 3, 1) := by decide +kernel
theorem dX7_countOf_85 : decode cX7_countOf 85 = .ok (.ireturn, 1) := by decide +kernel
theorem dX7_noBid_0 : decode cX7_noBid 0 = .ok (.aload_n 0, 1) := by decide +kernel
theorem dX7_noBid_1 : decode cX7_noBid 1 = .ok (.aload_n 0, 1) := by decide +kernel
theorem dX7_noBid_2 : decode cX7_noBid 2 = .ok (.iload_n 1, 1) := by decide +kernel
theorem dX7_noBid_3 : decode cX7_noBid 3 = .ok (.invokevirtual 124, 3) := by decide +kernel
theorem dX7_noBid_6 : decode cX7_noBid 6 = .ok (.ifCond .eq 7, 3) := by decide +kernel
theorem dX7_noBid_9 : decode cX7_noBid 9 = .ok (.iconst 0, 1) := by decide +kernel
theorem dX7_noBid_10 : decode cX7_noBid 10 = .ok (.goto 4, 3) := by decide +kernel
theorem dX7_noBid_13 : decode cX7_noBid 13 = .ok (.iconst 1, 1) := by decide +kernel
theorem dX7_noBid_14 : decode cX7_noBid 14 = .ok (.putfield 89, 3) := by decide +kernel
theorem dX7_noBid_17 : decode cX7_noBid 17 = .ok (.aload_n 0, 1) := by decide +kernel
theorem dX7_noBid_18 : decode cX7_noBid 18 = .ok (.getfield 89, 3) := by decide +kernel
theorem dX7_noBid_21 : decode cX7_noBid 21 = .ok (.ifCond .eq 7, 3) := by decide +kernel
theorem dX7_noBid_24 : decode cX7_noBid 24 = .ok (.iconst 1, 1) := by decide +kernel
theorem dX7_noBid_25 : decode cX7_noBid 25 = .ok (.goto 4, 3) := by decide +kernel
theorem dX7_noBid_28 : decode cX7_noBid 28 = .ok (.iconst 0, 1) := by decide +kernel
theorem dX7_noBid_29 : decode cX7_noBid 29 = .ok (.ireturn, 1) := by decide +kernel
theorem dX7_items_0 : decode cX7_items 0 = .ok (.aload_n 0, 1) := by decide +kernel
theorem dX7_items_1 : decode cX7_items 1 = .ok (.iload_n 1, 1) := by decide +kernel
theorem dX7_items_2 : decode cX7_items 2 = .ok (.invokevirtual 173, 3) := by decide +kernel
theorem dX7_items_5 : decode cX7_items 5 = .ok (.ifCond .eq 7, 3) := by decide +kernel
theorem dX7_items_8 : decode cX7_items 8 = .ok (.iconst 0, 1) := by decide +kernel
theorem dX7_items_9 : decode cX7_items 9 = .ok (.goto 9, 3) := by decide +kernel
theorem dX7_items_12 : decode cX7_items 12 = .ok (.aload_n 0, 1) := by decide +kernel
theorem dX7_items_13 : decode cX7_items 13 = .ok (.getfield 38, 3) := by decide +kernel
theorem dX7_items_16 : decode cX7_items 16 = .ok (.iload_n 1, 1) := by decide +kernel
theorem dX7_items_17 : decode cX7_items 17 = .ok (.iaload, 1) := by decide +kernel
theorem dX7_items_18 : decode cX7_items 18 = .ok (.ireturn, 1) := by decide +kernel
theorem dX7_fits_0 : decode cX7_fits 0 = .ok (.aload_n 0, 1) := by decide +kernel
theorem dX7_fits_1 : decode cX7_fits 1 = .ok (.aload_n 0, 1) := by decide +kernel
theorem dX7_fits_2 : decode cX7_fits 2 = .ok (.iload_n 1, 1) := by decide +kernel
theorem dX7_fits_3 : decode cX7_fits 3 = .ok (.invokevirtual 114, 3) := by decide +kernel
theorem dX7_fits_6 : decode cX7_fits 6 = .ok (.ifCond .eq 11, 3) := by decide +kernel
theorem dX7_fits_9 : decode cX7_fits 9 = .ok (.aload_n 0, 1) := by decide +kernel
theorem dX7_fits_10 : decode cX7_fits 10 = .ok (.iload_n 2, 1) := by decide +kernel
theorem dX7_fits_11 : decode cX7_fits 11 = .ok (.invokevirtual 124, 3) := by decide +kernel
theorem dX7_fits_14 : decode cX7_fits 14 = .ok (.ifCond .ne 7, 3) := by decide +kernel
theorem dX7_fits_17 : decode cX7_fits 17 = .ok (.iconst 1, 1) := by decide +kernel
theorem dX7_fits_18 : decode cX7_fits 18 = .ok (.goto 24, 3) := by decide +kernel
theorem dX7_fits_21 : decode cX7_fits 21 = .ok (.iload_n 3, 1) := by decide +kernel
theorem dX7_fits_22 : decode cX7_fits 22 = .ok (.iconst 0, 1) := by decide +kernel
theorem dX7_fits_23 : decode cX7_fits 23 = .ok (.aload_n 0, 1) := by decide +kernel
theorem dX7_fits_24 : decode cX7_fits 24 = .ok (.getfield 38, 3) := by decide +kernel
theorem dX7_fits_27 : decode cX7_fits 27 = .ok (.iload_n 2, 1) := by decide +kernel
theorem dX7_fits_28 : decode cX7_fits 28 = .ok (.iaload, 1) := by decide +kernel
theorem dX7_fits_29 : decode cX7_fits 29 = .ok (.iconst 1, 1) := by decide +kernel
theorem dX7_fits_30 : decode cX7_fits 30 = .ok (.isub, 1) := by decide +kernel
theorem dX7_fits_31 : decode cX7_fits 31 = .ok (.invokestatic 96, 3) := by decide +kernel
theorem dX7_fits_34 : decode cX7_fits 34 = .ok (.ifCond .ne 7, 3) := by decide +kernel
theorem dX7_fits_37 : decode cX7_fits 37 = .ok (.iconst 2, 1) := by decide +kernel
theorem dX7_fits_38 : decode cX7_fits 38 = .ok (.goto 4, 3) := by decide +kernel
theorem dX7_fits_41 : decode cX7_fits 41 = .ok (.iconst 0, 1) := by decide +kernel
theorem dX7_fits_42 : decode cX7_fits 42 = .ok (.putfield 89, 3) := by decide +kernel
theorem dX7_fits_45 : decode cX7_fits 45 = .ok (.aload_n 0, 1) := by decide +kernel
theorem dX7_fits_46 : decode cX7_fits 46 = .ok (.getfield 89, 3) := by decide +kernel
theorem dX7_fits_49 : decode cX7_fits 49 = .ok (.ifCond .ne 20, 3) := by decide +kernel
theorem dX7_fits_52 : decode cX7_fits 52 = .ok (.aload_n 0, 1) := by decide +kernel
theorem dX7_fits_53 : decode cX7_fits 53 = .ok (.iload_n 1, 1) := by decide +kernel
theorem dX7_fits_54 : decode cX7_fits 54 = .ok (.iconst 3, 1) := by decide +kernel
theorem dX7_fits_55 : decode cX7_fits 55 = .ok (.iload_n 2, 1) := by decide +kernel
theorem dX7_fits_56 : decode cX7_fits 56 = .ok (.imul, 1) := by decide +kernel
theorem dX7_fits_57 : decode cX7_fits 57 = .ok (.iload_n 3, 1) := by decide +kernel
theorem dX7_fits_58 : decode cX7_fits 58 = .ok (.iadd, 1) := by decide +kernel
theorem dX7_fits_59 : decode cX7_fits 59 = .ok (.invokevirtual 128, 3) := by decide +kernel
theorem dX7_fits_62 : decode cX7_fits 62 = .ok (.ifCond .eq 7, 3) := by decide +kernel
theorem dX7_fits_65 : decode cX7_fits 65 = .ok (.iconst 1, 1) := by decide +kernel
theorem dX7_fits_66 : decode cX7_fits 66 = .ok (.goto 4, 3) := by decide +kernel
theorem dX7_fits_69 : decode cX7_fits 69 = .ok (.iconst 0, 1) := by decide +kernel
theorem dX7_fits_70 : decode cX7_fits 70 = .ok (.ireturn, 1) := by decide +kernel
theorem dX7_fitting_0 : decode cX7_fitting 0 = .ok (.aload_n 0, 1) := by decide +kernel
theorem dX7_fitting_1 : decode cX7_fitting 1 = .ok (.iload_n 1, 1) := by decide +kernel
theorem dX7_fitting_2 : decode cX7_fitting 2 = .ok (.invokevirtual 173, 3) := by decide +kernel
theorem dX7_fitting_5 : decode cX7_fitting 5 = .ok (.ifCond .eq 5, 3) := by decide +kernel
theorem dX7_fitting_8 : decode cX7_fitting 8 = .ok (.iconst 0, 1) := by decide +kernel
theorem dX7_fitting_9 : decode cX7_fitting 9 = .ok (.ireturn, 1) := by decide +kernel
theorem dX7_fitting_10 : decode cX7_fitting 10 = .ok (.iload_n 2, 1) := by decide +kernel
theorem dX7_fitting_11 : decode cX7_fitting 11 = .ok (.iconst 0, 1) := by decide +kernel
theorem dX7_fitting_12 : decode cX7_fitting 12 = .ok (.aload_n 0, 1) := by decide +kernel
theorem dX7_fitting_13 : decode cX7_fitting 13 = .ok (.getfield 38, 3) := by decide +kernel
theorem dX7_fitting_16 : decode cX7_fitting 16 = .ok (.iload_n 1, 1) := by decide +kernel
theorem dX7_fitting_17 : decode cX7_fitting 17 = .ok (.iaload, 1) := by decide +kernel
theorem dX7_fitting_18 : decode cX7_fitting 18 = .ok (.iconst 1, 1) := by decide +kernel
theorem dX7_fitting_19 : decode cX7_fitting 19 = .ok (.isub, 1) := by decide +kernel
theorem dX7_fitting_20 : decode cX7_fitting 20 = .ok (.invokestatic 96, 3) := by decide +kernel
theorem dX7_fitting_23 : decode cX7_fitting 23 = .ok (.ifCond .ne 9, 3) := by decide +kernel
theorem dX7_fitting_26 : decode cX7_fitting 26 = .ok (.aload_n 0, 1) := by decide +kernel
theorem dX7_fitting_27 : decode cX7_fitting 27 = .ok (.iconst 2, 1) := by decide +kernel
theorem dX7_fitting_28 : decode cX7_fitting 28 = .ok (.invokevirtual 107, 3) := by decide +kernel
theorem dX7_fitting_31 : decode cX7_fitting 31 = .ok (.ireturn, 1) := by decide +kernel
theorem dX7_fitting_32 : decode cX7_fitting 32 = .ok (.iconst 0, 1) := by decide +kernel
theorem dX7_fitting_33 : decode cX7_fitting 33 = .ok (.istore_n 3, 1) := by decide +kernel
theorem dX7_fitting_34 : decode cX7_fitting 34 = .ok (.iconst 0, 1) := by decide +kernel
theorem dX7_fitting_35 : decode cX7_fitting 35 = .ok (.istore 4, 2) := by decide +kernel
theorem dX7_fitting_37 : decode cX7_fitting 37 = .ok (.iload 4, 2) := by decide +kernel
theorem dX7_fitting_39 : decode cX7_fitting 39 = .ok (.aload_n 0, 1) := by decide +kernel
theorem dX7_fitting_40 : decode cX7_fitting 40 = .ok (.getfield 93, 3) := by decide +kernel
theorem dX7_fitting_43 : decode cX7_fitting 43 = .ok (.if_icmp .ge 38, 3) := by decide +kernel
theorem dX7_fitting_46 : decode cX7_fitting 46 = .ok (.aload_n 0, 1) := by decide +kernel
theorem dX7_fitting_47 : decode cX7_fitting 47 = .ok (.getfield 22, 3) := by decide +kernel
theorem dX7_fitting_50 : decode cX7_fitting 50 = .ok (.iload 4, 2) := by decide +kernel
theorem dX7_fitting_52 : decode cX7_fitting 52 = .ok (.caload, 1) := by decide +kernel
theorem dX7_fitting_53 : decode cX7_fitting 53 = .ok (.bipush 111, 2) := by decide +kernel
theorem dX7_fitting_55 : decode cX7_fitting 55 = .ok (.if_icmp .ne 20, 3) := by decide +kernel
theorem dX7_fitting_58 : decode cX7_fitting 58 = .ok (.aload_n 0, 1) := by decide +kernel
theorem dX7_fitting_59 : decode cX7_fitting 59 = .ok (.iload 4, 2) := by decide +kernel
theorem dX7_fitting_61 : decode cX7_fitting 61 = .ok (.iconst 3, 1) := by decide +kernel
theorem dX7_fitting_62 : decode cX7_fitting 62 = .ok (.iload_n 1, 1) := by decide +kernel
theorem dX7_fitting_63 : decode cX7_fitting 63 = .ok (.imul, 1) := by decide +kernel
theorem dX7_fitting_64 : decode cX7_fitting 64 = .ok (.iload_n 2, 1) := by decide +kernel
theorem dX7_fitting_65 : decode cX7_fitting 65 = .ok (.iadd, 1) := by decide +kernel
theorem dX7_fitting_66 : decode cX7_fitting 66 = .ok (.invokevirtual 128, 3) := by decide +kernel
theorem dX7_fitting_69 : decode cX7_fitting 69 = .ok (.ifCond .eq 6, 3) := by decide +kernel
theorem dX7_fitting_72 : decode cX7_fitting 72 = .ok (.iinc 3 1, 3) := by decide +kernel
theorem dX7_fitting_75 : decode cX7_fitting 75 = .ok (.iinc 4 1, 3) := by decide +kernel
theorem dX7_fitting_78 : decode cX7_fitting 78 = .ok (.goto (-41), 3) := by decide +kernel
theorem dX7_fitting_81 : decode cX7_fitting 81 = .ok (.iload_n 3, 1) := by decide +kernel
theorem dX7_fitting_82 : decode cX7_fitting 82 = .ok (.ireturn, 1) := by decide +kernel
theorem dX7_priceOf_0 : decode cX7_priceOf 0 = .ok (.aload_n 0, 1) := by decide +kernel
theorem dX7_priceOf_1 : decode cX7_priceOf 1 = .ok (.iload_n 1, 1) := by decide +kernel
theorem dX7_priceOf_2 : decode cX7_priceOf 2 = .ok (.invokevirtual 173, 3) := by decide +kernel
theorem dX7_priceOf_5 : decode cX7_priceOf 5 = .ok (.ifCond .eq 7, 3) := by decide +kernel
theorem dX7_priceOf_8 : decode cX7_priceOf 8 = .ok (.iconst 0, 1) := by decide +kernel
theorem dX7_priceOf_9 : decode cX7_priceOf 9 = .ok (.goto 9, 3) := by decide +kernel
theorem dX7_priceOf_12 : decode cX7_priceOf 12 = .ok (.aload_n 0, 1) := by decide +kernel
theorem dX7_priceOf_13 : decode cX7_priceOf 13 = .ok (.getfield 35, 3) := by decide +kernel
theorem dX7_priceOf_16 : decode cX7_priceOf 16 = .ok (.iload_n 1, 1) := by decide +kernel
theorem dX7_priceOf_17 : decode cX7_priceOf 17 = .ok (.iaload, 1) := by decide +kernel
theorem dX7_priceOf_18 : decode cX7_priceOf 18 = .ok (.ireturn, 1) := by decide +kernel
theorem dX7_stateOf_0 : decode cX7_stateOf 0 = .ok (.aload_n 0, 1) := by decide +kernel
theorem dX7_stateOf_1 : decode cX7_stateOf 1 = .ok (.iload_n 1, 1) := by decide +kernel
theorem dX7_stateOf_2 : decode cX7_stateOf 2 = .ok (.invokevirtual 173, 3) := by decide +kernel
theorem dX7_stateOf_5 : decode cX7_stateOf 5 = .ok (.ifCond .eq 8, 3) := by decide +kernel
theorem dX7_stateOf_8 : decode cX7_stateOf 8 = .ok (.bipush 111, 2) := by decide +kernel
theorem dX7_stateOf_10 : decode cX7_stateOf 10 = .ok (.goto 9, 3) := by decide +kernel
theorem dX7_stateOf_13 : decode cX7_stateOf 13 = .ok (.aload_n 0, 1) := by decide +kernel
theorem dX7_stateOf_14 : decode cX7_stateOf 14 = .ok (.getfield 26, 3) := by decide +kernel
theorem dX7_stateOf_17 : decode cX7_stateOf 17 = .ok (.iload_n 1, 1) := by decide +kernel
theorem dX7_stateOf_18 : decode cX7_stateOf 18 = .ok (.caload, 1) := by decide +kernel
theorem dX7_stateOf_19 : decode cX7_stateOf 19 = .ok (.ireturn, 1) := by decide +kernel
theorem dX7_reason_0 : decode cX7_reason 0 = .ok (.aload_n 0, 1) := by decide +kernel
theorem dX7_reason_1 : decode cX7_reason 1 = .ok (.iload_n 1, 1) := by decide +kernel
theorem dX7_reason_2 : decode cX7_reason 2 = .ok (.invokevirtual 173, 3) := by decide +kernel
theorem dX7_reason_5 : decode cX7_reason 5 = .ok (.ifCond .ne 23, 3) := by decide +kernel
theorem dX7_reason_8 : decode cX7_reason 8 = .ok (.aload_n 0, 1) := by decide +kernel
theorem dX7_reason_9 : decode cX7_reason 9 = .ok (.aload_n 0, 1) := by decide +kernel
theorem dX7_reason_10 : decode cX7_reason 10 = .ok (.getfield 26, 3) := by decide +kernel
theorem dX7_reason_13 : decode cX7_reason 13 = .ok (.iload_n 1, 1) := by decide +kernel
theorem dX7_reason_14 : decode cX7_reason 14 = .ok (.caload, 1) := by decide +kernel
theorem dX7_reason_15 : decode cX7_reason 15 = .ok (.bipush 108, 2) := by decide +kernel
theorem dX7_reason_17 : decode cX7_reason 17 = .ok (.if_icmp .ne 7, 3) := by decide +kernel
theorem dX7_reason_20 : decode cX7_reason 20 = .ok (.iconst 0, 1) := by decide +kernel
theorem dX7_reason_21 : decode cX7_reason 21 = .ok (.goto 4, 3) := by decide +kernel
theorem dX7_reason_24 : decode cX7_reason 24 = .ok (.iconst 2, 1) := by decide +kernel
theorem dX7_reason_25 : decode cX7_reason 25 = .ok (.putfield 89, 3) := by decide +kernel
theorem dX7_reason_28 : decode cX7_reason 28 = .ok (.aload_n 0, 1) := by decide +kernel
theorem dX7_reason_29 : decode cX7_reason 29 = .ok (.getfield 89, 3) := by decide +kernel
theorem dX7_reason_32 : decode cX7_reason 32 = .ok (.ifCond .ne 12, 3) := by decide +kernel
theorem dX7_reason_35 : decode cX7_reason 35 = .ok (.aload_n 0, 1) := by decide +kernel
theorem dX7_reason_36 : decode cX7_reason 36 = .ok (.getfield 29, 3) := by decide +kernel
theorem dX7_reason_39 : decode cX7_reason 39 = .ok (.iload_n 1, 1) := by decide +kernel
theorem dX7_reason_40 : decode cX7_reason 40 = .ok (.caload, 1) := by decide +kernel
theorem dX7_reason_41 : decode cX7_reason 41 = .ok (.goto 5, 3) := by decide +kernel
theorem dX7_reason_44 : decode cX7_reason 44 = .ok (.bipush 109, 2) := by decide +kernel
theorem dX7_reason_46 : decode cX7_reason 46 = .ok (.ireturn, 1) := by decide +kernel
theorem dX7_rival_0 : decode cX7_rival 0 = .ok (.aload_n 0, 1) := by decide +kernel
theorem dX7_rival_1 : decode cX7_rival 1 = .ok (.iload_n 1, 1) := by decide +kernel
theorem dX7_rival_2 : decode cX7_rival 2 = .ok (.invokevirtual 173, 3) := by decide +kernel
theorem dX7_rival_5 : decode cX7_rival 5 = .ok (.ifCond .eq 5, 3) := by decide +kernel
theorem dX7_rival_8 : decode cX7_rival 8 = .ok (.iconst 0, 1) := by decide +kernel
theorem dX7_rival_9 : decode cX7_rival 9 = .ok (.ireturn, 1) := by decide +kernel
theorem dX7_rival_10 : decode cX7_rival 10 = .ok (.aload_n 0, 1) := by decide +kernel
theorem dX7_rival_11 : decode cX7_rival 11 = .ok (.getfield 26, 3) := by decide +kernel
theorem dX7_rival_14 : decode cX7_rival 14 = .ok (.iload_n 1, 1) := by decide +kernel
theorem dX7_rival_15 : decode cX7_rival 15 = .ok (.caload, 1) := by decide +kernel
theorem dX7_rival_16 : decode cX7_rival 16 = .ok (.bipush 108, 2) := by decide +kernel
theorem dX7_rival_18 : decode cX7_rival 18 = .ok (.if_icmp .ne 14, 3) := by decide +kernel
theorem dX7_rival_21 : decode cX7_rival 21 = .ok (.aload_n 0, 1) := by decide +kernel
theorem dX7_rival_22 : decode cX7_rival 22 = .ok (.getfield 29, 3) := by decide +kernel
theorem dX7_rival_25 : decode cX7_rival 25 = .ok (.iload_n 1, 1) := by decide +kernel
theorem dX7_rival_26 : decode cX7_rival 26 = .ok (.caload, 1) := by decide +kernel
theorem dX7_rival_27 : decode cX7_rival 27 = .ok (.bipush 98, 2) := by decide +kernel
theorem dX7_rival_29 : decode cX7_rival 29 = .ok (.if_icmp .eq 9, 3) := by decide +kernel
theorem dX7_rival_32 : decode cX7_rival 32 = .ok (.aload_n 0, 1) := by decide +kernel
theorem dX7_rival_33 : decode cX7_rival 33 = .ok (.iconst 2, 1) := by decide +kernel
theorem dX7_rival_34 : decode cX7_rival 34 = .ok (.invokevirtual 107, 3) := by decide +kernel
theorem dX7_rival_37 : decode cX7_rival 37 = .ok (.ireturn, 1) := by decide +kernel
theorem dX7_rival_38 : decode cX7_rival 38 = .ok (.aload_n 0, 1) := by decide +kernel
theorem dX7_rival_39 : decode cX7_rival 39 = .ok (.getfield 53, 3) := by decide +kernel
theorem dX7_rival_42 : decode cX7_rival 42 = .ok (.iload_n 1, 1) := by decide +kernel
theorem dX7_rival_43 : decode cX7_rival 43 = .ok (.iaload, 1) := by decide +kernel
theorem dX7_rival_44 : decode cX7_rival 44 = .ok (.ireturn, 1) := by decide +kernel
theorem dX7_lotOf_0 : decode cX7_lotOf 0 = .ok (.aload_n 0, 1) := by decide +kernel
theorem dX7_lotOf_1 : decode cX7_lotOf 1 = .ok (.iload_n 1, 1) := by decide +kernel
theorem dX7_lotOf_2 : decode cX7_lotOf 2 = .ok (.invokevirtual 173, 3) := by decide +kernel
theorem dX7_lotOf_5 : decode cX7_lotOf 5 = .ok (.ifCond .eq 5, 3) := by decide +kernel
theorem dX7_lotOf_8 : decode cX7_lotOf 8 = .ok (.iconst 0, 1) := by decide +kernel
theorem dX7_lotOf_9 : decode cX7_lotOf 9 = .ok (.ireturn, 1) := by decide +kernel
theorem dX7_lotOf_10 : decode cX7_lotOf 10 = .ok (.iload_n 2, 1) := by decide +kernel
theorem dX7_lotOf_11 : decode cX7_lotOf 11 = .ok (.iconst 0, 1) := by decide +kernel
theorem dX7_lotOf_12 : decode cX7_lotOf 12 = .ok (.aload_n 0, 1) := by decide +kernel
theorem dX7_lotOf_13 : decode cX7_lotOf 13 = .ok (.getfield 38, 3) := by decide +kernel
theorem dX7_lotOf_16 : decode cX7_lotOf 16 = .ok (.iload_n 1, 1) := by decide +kernel
theorem dX7_lotOf_17 : decode cX7_lotOf 17 = .ok (.iaload, 1) := by decide +kernel
theorem dX7_lotOf_18 : decode cX7_lotOf 18 = .ok (.iconst 1, 1) := by decide +kernel
theorem dX7_lotOf_19 : decode cX7_lotOf 19 = .ok (.isub, 1) := by decide +kernel
theorem dX7_lotOf_20 : decode cX7_lotOf 20 = .ok (.invokestatic 96, 3) := by decide +kernel
theorem dX7_lotOf_23 : decode cX7_lotOf 23 = .ok (.ifCond .ne 9, 3) := by decide +kernel
theorem dX7_lotOf_26 : decode cX7_lotOf 26 = .ok (.aload_n 0, 1) := by decide +kernel
theorem dX7_lotOf_27 : decode cX7_lotOf 27 = .ok (.iconst 2, 1) := by decide +kernel
theorem dX7_lotOf_28 : decode cX7_lotOf 28 = .ok (.invokevirtual 107, 3) := by decide +kernel
theorem dX7_lotOf_31 : decode cX7_lotOf 31 = .ok (.ireturn, 1) := by decide +kernel
theorem dX7_lotOf_32 : decode cX7_lotOf 32 = .ok (.aload_n 0, 1) := by decide +kernel
theorem dX7_lotOf_33 : decode cX7_lotOf 33 = .ok (.getfield 26, 3) := by decide +kernel
theorem dX7_lotOf_36 : decode cX7_lotOf 36 = .ok (.iload_n 1, 1) := by decide +kernel
theorem dX7_lotOf_37 : decode cX7_lotOf 37 = .ok (.caload, 1) := by decide +kernel
theorem dX7_lotOf_38 : decode cX7_lotOf 38 = .ok (.bipush 119, 2) := by decide +kernel
theorem dX7_lotOf_40 : decode cX7_lotOf 40 = .ok (.if_icmp .eq 9, 3) := by decide +kernel
theorem dX7_lotOf_43 : decode cX7_lotOf 43 = .ok (.aload_n 0, 1) := by decide +kernel
theorem dX7_lotOf_44 : decode cX7_lotOf 44 = .ok (.iconst 3, 1) := by decide +kernel
theorem dX7_lotOf_45 : decode cX7_lotOf 45 = .ok (.invokevirtual 107, 3) := by decide +kernel
theorem dX7_lotOf_48 : decode cX7_lotOf 48 = .ok (.ireturn, 1) := by decide +kernel
theorem dX7_lotOf_49 : decode cX7_lotOf 49 = .ok (.aload_n 0, 1) := by decide +kernel
theorem dX7_lotOf_50 : decode cX7_lotOf 50 = .ok (.getfield 47, 3) := by decide +kernel
theorem dX7_lotOf_53 : decode cX7_lotOf 53 = .ok (.iconst 3, 1) := by decide +kernel
theorem dX7_lotOf_54 : decode cX7_lotOf 54 = .ok (.iload_n 1, 1) := by decide +kernel
theorem dX7_lotOf_55 : decode cX7_lotOf 55 = .ok (.imul, 1) := by decide +kernel
theorem dX7_lotOf_56 : decode cX7_lotOf 56 = .ok (.iload_n 2, 1) := by decide +kernel
theorem dX7_lotOf_57 : decode cX7_lotOf 57 = .ok (.iadd, 1) := by decide +kernel
theorem dX7_lotOf_58 : decode cX7_lotOf 58 = .ok (.iaload, 1) := by decide +kernel
theorem dX7_lotOf_59 : decode cX7_lotOf 59 = .ok (.ireturn, 1) := by decide +kernel
theorem dX7_paid_0 : decode cX7_paid 0 = .ok (.aload_n 0, 1) := by decide +kernel
theorem dX7_paid_1 : decode cX7_paid 1 = .ok (.iload_n 1, 1) := by decide +kernel
theorem dX7_paid_2 : decode cX7_paid 2 = .ok (.invokevirtual 173, 3) := by decide +kernel
theorem dX7_paid_5 : decode cX7_paid 5 = .ok (.ifCond .eq 5, 3) := by decide +kernel
theorem dX7_paid_8 : decode cX7_paid 8 = .ok (.iconst 0, 1) := by decide +kernel
theorem dX7_paid_9 : decode cX7_paid 9 = .ok (.ireturn, 1) := by decide +kernel
theorem dX7_paid_10 : decode cX7_paid 10 = .ok (.aload_n 0, 1) := by decide +kernel
theorem dX7_paid_11 : decode cX7_paid 11 = .ok (.getfield 26, 3) := by decide +kernel
theorem dX7_paid_14 : decode cX7_paid 14 = .ok (.iload_n 1, 1) := by decide +kernel
theorem dX7_paid_15 : decode cX7_paid 15 = .ok (.caload, 1) := by decide +kernel
theorem dX7_paid_16 : decode cX7_paid 16 = .ok (.bipush 119, 2) := by decide +kernel
theorem dX7_paid_18 : decode cX7_paid 18 = .ok (.if_icmp .eq 9, 3) := by decide +kernel
theorem dX7_paid_21 : decode cX7_paid 21 = .ok (.aload_n 0, 1) := by decide +kernel
theorem dX7_paid_22 : decode cX7_paid 22 = .ok (.iconst 2, 1) := by decide +kernel
theorem dX7_paid_23 : decode cX7_paid 23 = .ok (.invokevirtual 107, 3) := by decide +kernel
theorem dX7_paid_26 : decode cX7_paid 26 = .ok (.ireturn, 1) := by decide +kernel
theorem dX7_paid_27 : decode cX7_paid 27 = .ok (.aload_n 0, 1) := by decide +kernel
theorem dX7_paid_28 : decode cX7_paid 28 = .ok (.getfield 50, 3) := by decide +kernel
theorem dX7_paid_31 : decode cX7_paid 31 = .ok (.iload_n 1, 1) := by decide +kernel
theorem dX7_paid_32 : decode cX7_paid 32 = .ok (.iaload, 1) := by decide +kernel
theorem dX7_paid_33 : decode cX7_paid 33 = .ok (.ireturn, 1) := by decide +kernel
theorem dX7_costOf_0 : decode cX7_costOf 0 = .ok (.aload_n 0, 1) := by decide +kernel
theorem dX7_costOf_1 : decode cX7_costOf 1 = .ok (.iload_n 1, 1) := by decide +kernel
theorem dX7_costOf_2 : decode cX7_costOf 2 = .ok (.invokevirtual 173, 3) := by decide +kernel
theorem dX7_costOf_5 : decode cX7_costOf 5 = .ok (.ifCond .eq 5, 3) := by decide +kernel
theorem dX7_costOf_8 : decode cX7_costOf 8 = .ok (.iconst 0, 1) := by decide +kernel
theorem dX7_costOf_9 : decode cX7_costOf 9 = .ok (.ireturn, 1) := by decide +kernel
theorem dX7_costOf_10 : decode cX7_costOf 10 = .ok (.aload_n 0, 1) := by decide +kernel
theorem dX7_costOf_11 : decode cX7_costOf 11 = .ok (.getfield 26, 3) := by decide +kernel
theorem dX7_costOf_14 : decode cX7_costOf 14 = .ok (.iload_n 1, 1) := by decide +kernel
theorem dX7_costOf_15 : decode cX7_costOf 15 = .ok (.caload, 1) := by decide +kernel
theorem dX7_costOf_16 : decode cX7_costOf 16 = .ok (.bipush 111, 2) := by decide +kernel
theorem dX7_costOf_18 : decode cX7_costOf 18 = .ok (.if_icmp .eq 9, 3) := by decide +kernel
theorem dX7_costOf_21 : decode cX7_costOf 21 = .ok (.aload_n 0, 1) := by decide +kernel
theorem dX7_costOf_22 : decode cX7_costOf 22 = .ok (.iconst 2, 1) := by decide +kernel
theorem dX7_costOf_23 : decode cX7_costOf 23 = .ok (.invokevirtual 107, 3) := by decide +kernel
theorem dX7_costOf_26 : decode cX7_costOf 26 = .ok (.ireturn, 1) := by decide +kernel
theorem dX7_costOf_27 : decode cX7_costOf 27 = .ok (.aload_n 0, 1) := by decide +kernel
theorem dX7_costOf_28 : decode cX7_costOf 28 = .ok (.invokevirtual 152, 3) := by decide +kernel
theorem dX7_costOf_31 : decode cX7_costOf 31 = .ok (.iconst 0, 1) := by decide +kernel
theorem dX7_costOf_32 : decode cX7_costOf 32 = .ok (.istore_n 2, 1) := by decide +kernel
theorem dX7_costOf_33 : decode cX7_costOf 33 = .ok (.iload_n 2, 1) := by decide +kernel
theorem dX7_costOf_34 : decode cX7_costOf 34 = .ok (.aload_n 0, 1) := by decide +kernel
theorem dX7_costOf_35 : decode cX7_costOf 35 = .ok (.getfield 121, 3) := by decide +kernel
theorem dX7_costOf_38 : decode cX7_costOf 38 = .ok (.if_icmp .ge 48, 3) := by decide +kernel
theorem dX7_costOf_41 : decode cX7_costOf 41 = .ok (.aload_n 0, 1) := by decide +kernel
theorem dX7_costOf_42 : decode cX7_costOf 42 = .ok (.getfield 68, 3) := by decide +kernel
theorem dX7_costOf_45 : decode cX7_costOf 45 = .ok (.iload_n 2, 1) := by decide +kernel
theorem dX7_costOf_46 : decode cX7_costOf 46 = .ok (.iaload, 1) := by decide +kernel
theorem dX7_costOf_47 : decode cX7_costOf 47 = .ok (.iload_n 1, 1) := by decide +kernel
theorem dX7_costOf_48 : decode cX7_costOf 48 = .ok (.if_icmp .ne 32, 3) := by decide +kernel
theorem dX7_costOf_51 : decode cX7_costOf 51 = .ok (.aload_n 0, 1) := by decide +kernel
theorem dX7_costOf_52 : decode cX7_costOf 52 = .ok (.getfield 71, 3) := by decide +kernel
theorem dX7_costOf_55 : decode cX7_costOf 55 = .ok (.iconst 1, 1) := by decide +kernel
theorem dX7_costOf_56 : decode cX7_costOf 56 = .ok (.iload_n 2, 1) := by decide +kernel
theorem dX7_costOf_57 : decode cX7_costOf 57 = .ok (.ishl, 1) := by decide +kernel
theorem dX7_costOf_58 : decode cX7_costOf 58 = .ok (.iaload, 1) := by decide +kernel
theorem dX7_costOf_59 : decode cX7_costOf 59 = .ok (.ldc 145, 2) := by decide +kernel
theorem dX7_costOf_61 : decode cX7_costOf 61 = .ok (.if_icmp .eq 19, 3) := by decide +kernel
theorem dX7_costOf_64 : decode cX7_costOf 64 = .ok (.aload_n 0, 1) := by decide +kernel
theorem dX7_costOf_65 : decode cX7_costOf 65 = .ok (.getfield 35, 3) := by decide +kernel
theorem dX7_costOf_68 : decode cX7_costOf 68 = .ok (.iload_n 1, 1) := by decide +kernel
theorem dX7_costOf_69 : decode cX7_costOf 69 = .ok (.iaload, 1) := by decide +kernel
theorem dX7_costOf_70 : decode cX7_costOf 70 = .ok (.aload_n 0, 1) := by decide +kernel
theorem dX7_costOf_71 : decode cX7_costOf 71 = .ok (.getfield 71, 3) := by decide +kernel
theorem dX7_costOf_74 : decode cX7_costOf 74 = .ok (.iconst 1, 1) := by decide +kernel
theorem dX7_costOf_75 : decode cX7_costOf 75 = .ok (.iload_n 2, 1) := by decide +kernel
theorem dX7_costOf_76 : decode cX7_costOf 76 = .ok (.ishl, 1) := by decide +kernel
theorem dX7_costOf_77 : decode cX7_costOf 77 = .ok (.iaload, 1) := by decide +kernel
theorem dX7_costOf_78 : decode cX7_costOf 78 = .ok (.isub, 1) := by decide +kernel
theorem dX7_costOf_79 : decode cX7_costOf 79 = .ok (.ireturn, 1) := by decide +kernel
theorem dX7_costOf_80 : decode cX7_costOf 80 = .ok (.iinc 2 1, 3) := by decide +kernel
theorem dX7_costOf_83 : decode cX7_costOf 83 = .ok (.goto (-50), 3) := by decide +kernel
theorem dX7_costOf_86 : decode cX7_costOf 86 = .ok (.aload_n 0, 1) := by decide +kernel
theorem dX7_costOf_87 : decode cX7_costOf 87 = .ok (.iconst 3, 1) := by decide +kernel
theorem dX7_costOf_88 : decode cX7_costOf 88 = .ok (.invokevirtual 107, 3) := by decide +kernel
theorem dX7_costOf_91 : decode cX7_costOf 91 = .ok (.ireturn, 1) := by decide +kernel
theorem dX7_surplus_0 : decode cX7_surplus 0 = .ok (.aload_n 0, 1) := by decide +kernel
theorem dX7_surplus_1 : decode cX7_surplus 1 = .ok (.invokevirtual 152, 3) := by decide +kernel
theorem dX7_surplus_4 : decode cX7_surplus 4 = .ok (.aload_n 0, 1) := by decide +kernel
theorem dX7_surplus_5 : decode cX7_surplus 5 = .ok (.getfield 71, 3) := by decide +kernel
theorem dX7_surplus_8 : decode cX7_surplus 8 = .ok (.aload_n 0, 1) := by decide +kernel
theorem dX7_surplus_9 : decode cX7_surplus 9 = .ok (.iconst (-1), 1) := by decide +kernel
theorem dX7_surplus_10 : decode cX7_surplus 10 = .ok (.invokevirtual 149, 3) := by decide +kernel
theorem dX7_surplus_13 : decode cX7_surplus 13 = .ok (.iaload, 1) := by decide +kernel
theorem dX7_surplus_14 : decode cX7_surplus 14 = .ok (.ireturn, 1) := by decide +kernel
theorem dX7_surplusBySets_0 : decode cX7_surplusBySets 0 = .ok (.aload_n 0, 1) := by decide +kernel
theorem dX7_surplusBySets_1 : decode cX7_surplusBySets 1 = .ok (.invokevirtual 176, 3) := by decide +kernel
theorem dX7_surplusBySets_4 : decode cX7_surplusBySets 4 = .ok (.ireturn, 1) := by decide +kernel
theorem dX7_surplusWithout_0 : decode cX7_surplusWithout 0 = .ok (.iload_n 1, 1) := by decide +kernel
theorem dX7_surplusWithout_1 : decode cX7_surplusWithout 1 = .ok (.iconst 0, 1) := by decide +kernel
theorem dX7_surplusWithout_2 : decode cX7_surplusWithout 2 = .ok (.bipush 7, 2) := by decide +kernel
theorem dX7_surplusWithout_4 : decode cX7_surplusWithout 4 = .ok (.invokestatic 96, 3) := by decide +kernel
theorem dX7_surplusWithout_7 : decode cX7_surplusWithout 7 = .ok (.ifCond .ne 9, 3) := by decide +kernel
theorem dX7_surplusWithout_10 : decode cX7_surplusWithout 10 = .ok (.aload_n 0, 1) := by decide +kernel
theorem dX7_surplusWithout_11 : decode cX7_surplusWithout 11 = .ok (.iconst 1, 1) := by decide +kernel
theorem dX7_surplusWithout_12 : decode cX7_surplusWithout 12 = .ok (.invokevirtual 107, 3) := by decide +kernel
theorem dX7_surplusWithout_15 : decode cX7_surplusWithout 15 = .ok (.ireturn, 1) := by decide +kernel
theorem dX7_surplusWithout_16 : decode cX7_surplusWithout 16 = .ok (.aload_n 0, 1) := by decide +kernel
theorem dX7_surplusWithout_17 : decode cX7_surplusWithout 17 = .ok (.iconst 0, 1) := by decide +kernel
theorem dX7_surplusWithout_18 : decode cX7_surplusWithout 18 = .ok (.putfield 89, 3) := by decide +kernel
theorem dX7_surplusWithout_21 : decode cX7_surplusWithout 21 = .ok (.aload_n 0, 1) := by decide +kernel
theorem dX7_surplusWithout_22 : decode cX7_surplusWithout 22 = .ok (.invokevirtual 152, 3) := by decide +kernel
theorem dX7_surplusWithout_25 : decode cX7_surplusWithout 25 = .ok (.aload_n 0, 1) := by decide +kernel
theorem dX7_surplusWithout_26 : decode cX7_surplusWithout 26 = .ok (.getfield 71, 3) := by decide +kernel
theorem dX7_surplusWithout_29 : decode cX7_surplusWithout 29 = .ok (.aload_n 0, 1) := by decide +kernel
theorem dX7_surplusWithout_30 : decode cX7_surplusWithout 30 = .ok (.iload_n 1, 1) := by decide +kernel
theorem dX7_surplusWithout_31 : decode cX7_surplusWithout 31 = .ok (.invokevirtual 149, 3) := by decide +kernel
theorem dX7_surplusWithout_34 : decode cX7_surplusWithout 34 = .ok (.iaload, 1) := by decide +kernel
theorem dX7_surplusWithout_35 : decode cX7_surplusWithout 35 = .ok (.ireturn, 1) := by decide +kernel
theorem dX7_wouldWin_0 : decode cX7_wouldWin 0 = .ok (.aload_n 0, 1) := by decide +kernel
theorem dX7_wouldWin_1 : decode cX7_wouldWin 1 = .ok (.iload_n 1, 1) := by decide +kernel
theorem dX7_wouldWin_2 : decode cX7_wouldWin 2 = .ok (.invokevirtual 173, 3) := by decide +kernel
theorem dX7_wouldWin_5 : decode cX7_wouldWin 5 = .ok (.ifCond .eq 5, 3) := by decide +kernel
theorem dX7_wouldWin_8 : decode cX7_wouldWin 8 = .ok (.iconst 0, 1) := by decide +kernel
theorem dX7_wouldWin_9 : decode cX7_wouldWin 9 = .ok (.ireturn, 1) := by decide +kernel
theorem dX7_wouldWin_10 : decode cX7_wouldWin 10 = .ok (.aload_n 0, 1) := by decide +kernel
theorem dX7_wouldWin_11 : decode cX7_wouldWin 11 = .ok (.aload_n 0, 1) := by decide +kernel
theorem dX7_wouldWin_12 : decode cX7_wouldWin 12 = .ok (.getfield 26, 3) := by decide +kernel
theorem dX7_wouldWin_15 : decode cX7_wouldWin 15 = .ok (.iload_n 1, 1) := by decide +kernel
theorem dX7_wouldWin_16 : decode cX7_wouldWin 16 = .ok (.caload, 1) := by decide +kernel
theorem dX7_wouldWin_17 : decode cX7_wouldWin 17 = .ok (.bipush 111, 2) := by decide +kernel
theorem dX7_wouldWin_19 : decode cX7_wouldWin 19 = .ok (.if_icmp .ne 7, 3) := by decide +kernel
theorem dX7_wouldWin_22 : decode cX7_wouldWin 22 = .ok (.iconst 0, 1) := by decide +kernel
theorem dX7_wouldWin_23 : decode cX7_wouldWin 23 = .ok (.goto 4, 3) := by decide +kernel
theorem dX7_wouldWin_26 : decode cX7_wouldWin 26 = .ok (.iconst 2, 1) := by decide +kernel
theorem dX7_wouldWin_27 : decode cX7_wouldWin 27 = .ok (.putfield 89, 3) := by decide +kernel
theorem dX7_wouldWin_30 : decode cX7_wouldWin 30 = .ok (.aload_n 0, 1) := by decide +kernel
theorem dX7_wouldWin_31 : decode cX7_wouldWin 31 = .ok (.getfield 89, 3) := by decide +kernel
theorem dX7_wouldWin_34 : decode cX7_wouldWin 34 = .ok (.ifCond .eq 5, 3) := by decide +kernel
theorem dX7_wouldWin_37 : decode cX7_wouldWin 37 = .ok (.iconst 0, 1) := by decide +kernel
theorem dX7_wouldWin_38 : decode cX7_wouldWin 38 = .ok (.ireturn, 1) := by decide +kernel
theorem dX7_wouldWin_39 : decode cX7_wouldWin 39 = .ok (.aload_n 0, 1) := by decide +kernel
theorem dX7_wouldWin_40 : decode cX7_wouldWin 40 = .ok (.invokevirtual 152, 3) := by decide +kernel
theorem dX7_wouldWin_43 : decode cX7_wouldWin 43 = .ok (.aload_n 0, 1) := by decide +kernel
theorem dX7_wouldWin_44 : decode cX7_wouldWin 44 = .ok (.aload_n 0, 1) := by decide +kernel
theorem dX7_wouldWin_45 : decode cX7_wouldWin 45 = .ok (.iconst (-1), 1) := by decide +kernel
theorem dX7_wouldWin_46 : decode cX7_wouldWin 46 = .ok (.invokevirtual 149, 3) := by decide +kernel
theorem dX7_wouldWin_49 : decode cX7_wouldWin 49 = .ok (.iload_n 1, 1) := by decide +kernel
theorem dX7_wouldWin_50 : decode cX7_wouldWin 50 = .ok (.invokevirtual 180, 3) := by decide +kernel
theorem dX7_wouldWin_53 : decode cX7_wouldWin 53 = .ok (.ireturn, 1) := by decide +kernel
theorem dX7_wouldWinBySets_0 : decode cX7_wouldWinBySets 0 = .ok (.aload_n 0, 1) := by decide +kernel
theorem dX7_wouldWinBySets_1 : decode cX7_wouldWinBySets 1 = .ok (.iload_n 1, 1) := by decide +kernel
theorem dX7_wouldWinBySets_2 : decode cX7_wouldWinBySets 2 = .ok (.invokevirtual 183, 3) := by decide +kernel
theorem dX7_wouldWinBySets_5 : decode cX7_wouldWinBySets 5 = .ok (.ireturn, 1) := by decide +kernel
theorem dX7_lotFor_0 : decode cX7_lotFor 0 = .ok (.aload_n 0, 1) := by decide +kernel
theorem dX7_lotFor_1 : decode cX7_lotFor 1 = .ok (.iload_n 1, 1) := by decide +kernel
