theorem dX6_handOutLots_33 : decode cX6_handOutLots 33 = .ok (.iload_n 1, 1) := by decide +kernel
theorem dX6_handOutLots_34 : decode cX6_handOutLots 34 = .ok (.iload_n 3, 1) := by decide +kernel
theorem dX6_handOutLots_35 : decode cX6_handOutLots 35 = .ok (.invokevirtual 325, 3) := by decide +kernel
theorem dX6_handOutLots_38 : decode cX6_handOutLots 38 = .ok (.iadd, 1) := by decide +kernel
theorem dX6_handOutLots_39 : decode cX6_handOutLots 39 = .ok (.istore_n 2, 1) := by decide +kernel
theorem dX6_handOutLots_40 : decode cX6_handOutLots 40 = .ok (.iinc 3 1, 3) := by decide +kernel
theorem dX6_handOutLots_43 : decode cX6_handOutLots 43 = .ok (.goto (-31), 3) := by decide +kernel
theorem dX6_handOutLots_46 : decode cX6_handOutLots 46 = .ok (.iload_n 2, 1) := by decide +kernel
theorem dX6_handOutLots_47 : decode cX6_handOutLots 47 = .ok (.ireturn, 1) := by decide +kernel
theorem dX6_handOutLotsTo_0 : decode cX6_handOutLotsTo 0 = .ok (.aload_n 0, 1) := by decide +kernel
theorem dX6_handOutLotsTo_1 : decode cX6_handOutLotsTo 1 = .ok (.getfield 25, 3) := by decide +kernel
theorem dX6_handOutLotsTo_4 : decode cX6_handOutLotsTo 4 = .ok (.getfield 322, 3) := by decide +kernel
theorem dX6_handOutLotsTo_7 : decode cX6_handOutLotsTo 7 = .ok (.iload_n 2, 1) := by decide +kernel
theorem dX6_handOutLotsTo_8 : decode cX6_handOutLotsTo 8 = .ok (.iaload, 1) := by decide +kernel
theorem dX6_handOutLotsTo_9 : decode cX6_handOutLotsTo 9 = .ok (.istore_n 3, 1) := by decide +kernel
theorem dX6_handOutLotsTo_10 : decode cX6_handOutLotsTo 10 = .ok (.aload_n 0, 1) := by decide +kernel
theorem dX6_handOutLotsTo_11 : decode cX6_handOutLotsTo 11 = .ok (.iload_n 3, 1) := by decide +kernel
theorem dX6_handOutLotsTo_12 : decode cX6_handOutLotsTo 12 = .ok (.invokevirtual 271, 3) := by decide +kernel
theorem dX6_handOutLotsTo_15 : decode cX6_handOutLotsTo 15 = .ok (.ifCond .ne 5, 3) := by decide +kernel
theorem dX6_handOutLotsTo_18 : decode cX6_handOutLotsTo 18 = .ok (.iconst 0, 1) := by decide +kernel
theorem dX6_handOutLotsTo_19 : decode cX6_handOutLotsTo 19 = .ok (.ireturn, 1) := by decide +kernel
theorem dX6_handOutLotsTo_20 : decode cX6_handOutLotsTo 20 = .ok (.aload_n 0, 1) := by decide +kernel
theorem dX6_handOutLotsTo_21 : decode cX6_handOutLotsTo 21 = .ok (.getfield 16, 3) := by decide +kernel
theorem dX6_handOutLotsTo_24 : decode cX6_handOutLotsTo 24 = .ok (.iload_n 3, 1) := by decide +kernel
theorem dX6_handOutLotsTo_25 : decode cX6_handOutLotsTo 25 = .ok (.invokevirtual 185, 3) := by decide +kernel
theorem dX6_handOutLotsTo_28 : decode cX6_handOutLotsTo 28 = .ok (.checkcast 112, 3) := by decide +kernel
theorem dX6_handOutLotsTo_31 : decode cX6_handOutLotsTo 31 = .ok (.getfield 124, 3) := by decide +kernel
theorem dX6_handOutLotsTo_34 : decode cX6_handOutLotsTo 34 = .ok (.astore 4, 2) := by decide +kernel
theorem dX6_handOutLotsTo_36 : decode cX6_handOutLotsTo 36 = .ok (.iconst 0, 1) := by decide +kernel
theorem dX6_handOutLotsTo_37 : decode cX6_handOutLotsTo 37 = .ok (.istore 5, 2) := by decide +kernel
theorem dX6_handOutLotsTo_39 : decode cX6_handOutLotsTo 39 = .ok (.iconst 0, 1) := by decide +kernel
theorem dX6_handOutLotsTo_40 : decode cX6_handOutLotsTo 40 = .ok (.istore 6, 2) := by decide +kernel
theorem dX6_handOutLotsTo_42 : decode cX6_handOutLotsTo 42 = .ok (.iload 6, 2) := by decide +kernel
theorem dX6_handOutLotsTo_44 : decode cX6_handOutLotsTo 44 = .ok (.aload 4, 2) := by decide +kernel
theorem dX6_handOutLotsTo_46 : decode cX6_handOutLotsTo 46 = .ok (.invokevirtual 55, 3) := by decide +kernel
theorem dX6_handOutLotsTo_49 : decode cX6_handOutLotsTo 49 = .ok (.if_icmp .ge 82, 3) := by decide +kernel
theorem dX6_handOutLotsTo_52 : decode cX6_handOutLotsTo 52 = .ok (.aload_n 0, 1) := by decide +kernel
theorem dX6_handOutLotsTo_53 : decode cX6_handOutLotsTo 53 = .ok (.getfield 25, 3) := by decide +kernel
theorem dX6_handOutLotsTo_56 : decode cX6_handOutLotsTo 56 = .ok (.iload_n 1, 1) := by decide +kernel
theorem dX6_handOutLotsTo_57 : decode cX6_handOutLotsTo 57 = .ok (.iload_n 2, 1) := by decide +kernel
theorem dX6_handOutLotsTo_58 : decode cX6_handOutLotsTo 58 = .ok (.iload 6, 2) := by decide +kernel
theorem dX6_handOutLotsTo_60 : decode cX6_handOutLotsTo 60 = .ok (.invokevirtual 242, 3) := by decide +kernel
theorem dX6_handOutLotsTo_63 : decode cX6_handOutLotsTo 63 = .ok (.istore 7, 2) := by decide +kernel
theorem dX6_handOutLotsTo_65 : decode cX6_handOutLotsTo 65 = .ok (.aload_n 0, 1) := by decide +kernel
theorem dX6_handOutLotsTo_66 : decode cX6_handOutLotsTo 66 = .ok (.iload 7, 2) := by decide +kernel
theorem dX6_handOutLotsTo_68 : decode cX6_handOutLotsTo 68 = .ok (.invokevirtual 263, 3) := by decide +kernel
theorem dX6_handOutLotsTo_71 : decode cX6_handOutLotsTo 71 = .ok (.ifCond .eq 54, 3) := by decide +kernel
theorem dX6_handOutLotsTo_74 : decode cX6_handOutLotsTo 74 = .ok (.aload 4, 2) := by decide +kernel
theorem dX6_handOutLotsTo_76 : decode cX6_handOutLotsTo 76 = .ok (.iload 6, 2) := by decide +kernel
theorem dX6_handOutLotsTo_78 : decode cX6_handOutLotsTo 78 = .ok (.invokevirtual 185, 3) := by decide +kernel
theorem dX6_handOutLotsTo_81 : decode cX6_handOutLotsTo 81 = .ok (.checkcast 129, 3) := by decide +kernel
theorem dX6_handOutLotsTo_84 : decode cX6_handOutLotsTo 84 = .ok (.iload 7, 2) := by decide +kernel
theorem dX6_handOutLotsTo_86 : decode cX6_handOutLotsTo 86 = .ok (.putfield 208, 3) := by decide +kernel
theorem dX6_handOutLotsTo_89 : decode cX6_handOutLotsTo 89 = .ok (.aload_n 0, 1) := by decide +kernel
theorem dX6_handOutLotsTo_90 : decode cX6_handOutLotsTo 90 = .ok (.getfield 12, 3) := by decide +kernel
theorem dX6_handOutLotsTo_93 : decode cX6_handOutLotsTo 93 = .ok (.iload 7, 2) := by decide +kernel
theorem dX6_handOutLotsTo_95 : decode cX6_handOutLotsTo 95 = .ok (.invokevirtual 185, 3) := by decide +kernel
theorem dX6_handOutLotsTo_98 : decode cX6_handOutLotsTo 98 = .ok (.checkcast 64, 3) := by decide +kernel
theorem dX6_handOutLotsTo_101 : decode cX6_handOutLotsTo 101 = .ok (.bipush 115, 2) := by decide +kernel
theorem dX6_handOutLotsTo_103 : decode cX6_handOutLotsTo 103 = .ok (.putfield 77, 3) := by decide +kernel
theorem dX6_handOutLotsTo_106 : decode cX6_handOutLotsTo 106 = .ok (.aload_n 0, 1) := by decide +kernel
theorem dX6_handOutLotsTo_107 : decode cX6_handOutLotsTo 107 = .ok (.getfield 12, 3) := by decide +kernel
theorem dX6_handOutLotsTo_110 : decode cX6_handOutLotsTo 110 = .ok (.iload 7, 2) := by decide +kernel
theorem dX6_handOutLotsTo_112 : decode cX6_handOutLotsTo 112 = .ok (.invokevirtual 185, 3) := by decide +kernel
theorem dX6_handOutLotsTo_115 : decode cX6_handOutLotsTo 115 = .ok (.checkcast 64, 3) := by decide +kernel
theorem dX6_handOutLotsTo_118 : decode cX6_handOutLotsTo 118 = .ok (.iload_n 3, 1) := by decide +kernel
theorem dX6_handOutLotsTo_119 : decode cX6_handOutLotsTo 119 = .ok (.putfield 182, 3) := by decide +kernel
theorem dX6_handOutLotsTo_122 : decode cX6_handOutLotsTo 122 = .ok (.iinc 5 1, 3) := by decide +kernel
theorem dX6_handOutLotsTo_125 : decode cX6_handOutLotsTo 125 = .ok (.iinc 6 1, 3) := by decide +kernel
theorem dX6_handOutLotsTo_128 : decode cX6_handOutLotsTo 128 = .ok (.goto (-86), 3) := by decide +kernel
theorem dX6_handOutLotsTo_131 : decode cX6_handOutLotsTo 131 = .ok (.iload 5, 2) := by decide +kernel
theorem dX6_handOutLotsTo_133 : decode cX6_handOutLotsTo 133 = .ok (.ireturn, 1) := by decide +kernel
theorem dX6_settleLosers_0 : decode cX6_settleLosers 0 = .ok (.iconst 0, 1) := by decide +kernel
theorem dX6_settleLosers_1 : decode cX6_settleLosers 1 = .ok (.istore_n 2, 1) := by decide +kernel
theorem dX6_settleLosers_2 : decode cX6_settleLosers 2 = .ok (.iload_n 2, 1) := by decide +kernel
theorem dX6_settleLosers_3 : decode cX6_settleLosers 3 = .ok (.aload_n 0, 1) := by decide +kernel
theorem dX6_settleLosers_4 : decode cX6_settleLosers 4 = .ok (.getfield 25, 3) := by decide +kernel
theorem dX6_settleLosers_7 : decode cX6_settleLosers 7 = .ok (.getfield 319, 3) := by decide +kernel
theorem dX6_settleLosers_10 : decode cX6_settleLosers 10 = .ok (.if_icmp .ge 85, 3) := by decide +kernel
theorem dX6_settleLosers_13 : decode cX6_settleLosers 13 = .ok (.aload_n 0, 1) := by decide +kernel
theorem dX6_settleLosers_14 : decode cX6_settleLosers 14 = .ok (.getfield 25, 3) := by decide +kernel
theorem dX6_settleLosers_17 : decode cX6_settleLosers 17 = .ok (.getfield 322, 3) := by decide +kernel
theorem dX6_settleLosers_20 : decode cX6_settleLosers 20 = .ok (.iload_n 2, 1) := by decide +kernel
theorem dX6_settleLosers_21 : decode cX6_settleLosers 21 = .ok (.iaload, 1) := by decide +kernel
theorem dX6_settleLosers_22 : decode cX6_settleLosers 22 = .ok (.istore_n 3, 1) := by decide +kernel
theorem dX6_settleLosers_23 : decode cX6_settleLosers 23 = .ok (.iload_n 1, 1) := by decide +kernel
theorem dX6_settleLosers_24 : decode cX6_settleLosers 24 = .ok (.iconst 1, 1) := by decide +kernel
theorem dX6_settleLosers_25 : decode cX6_settleLosers 25 = .ok (.iload_n 2, 1) := by decide +kernel
theorem dX6_settleLosers_26 : decode cX6_settleLosers 26 = .ok (.ishl, 1) := by decide +kernel
theorem dX6_settleLosers_27 : decode cX6_settleLosers 27 = .ok (.iand, 1) := by decide +kernel
theorem dX6_settleLosers_28 : decode cX6_settleLosers 28 = .ok (.ifCond .ne 61, 3) := by decide +kernel
theorem dX6_settleLosers_31 : decode cX6_settleLosers 31 = .ok (.aload_n 0, 1) := by decide +kernel
theorem dX6_settleLosers_32 : decode cX6_settleLosers 32 = .ok (.iload_n 3, 1) := by decide +kernel
theorem dX6_settleLosers_33 : decode cX6_settleLosers 33 = .ok (.invokevirtual 271, 3) := by decide +kernel
theorem dX6_settleLosers_36 : decode cX6_settleLosers 36 = .ok (.ifCond .eq 53, 3) := by decide +kernel
theorem dX6_settleLosers_39 : decode cX6_settleLosers 39 = .ok (.aload_n 0, 1) := by decide +kernel
theorem dX6_settleLosers_40 : decode cX6_settleLosers 40 = .ok (.getfield 16, 3) := by decide +kernel
theorem dX6_settleLosers_43 : decode cX6_settleLosers 43 = .ok (.iload_n 3, 1) := by decide +kernel
theorem dX6_settleLosers_44 : decode cX6_settleLosers 44 = .ok (.invokevirtual 185, 3) := by decide +kernel
theorem dX6_settleLosers_47 : decode cX6_settleLosers 47 = .ok (.checkcast 112, 3) := by decide +kernel
theorem dX6_settleLosers_50 : decode cX6_settleLosers 50 = .ok (.astore 4, 2) := by decide +kernel
theorem dX6_settleLosers_52 : decode cX6_settleLosers 52 = .ok (.aload 4, 2) := by decide +kernel
theorem dX6_settleLosers_54 : decode cX6_settleLosers 54 = .ok (.bipush 108, 2) := by decide +kernel
theorem dX6_settleLosers_56 : decode cX6_settleLosers 56 = .ok (.putfield 123, 3) := by decide +kernel
theorem dX6_settleLosers_59 : decode cX6_settleLosers 59 = .ok (.aload 4, 2) := by decide +kernel
theorem dX6_settleLosers_61 : decode cX6_settleLosers 61 = .ok (.aload_n 0, 1) := by decide +kernel
theorem dX6_settleLosers_62 : decode cX6_settleLosers 62 = .ok (.getfield 25, 3) := by decide +kernel
theorem dX6_settleLosers_65 : decode cX6_settleLosers 65 = .ok (.iload_n 1, 1) := by decide +kernel
theorem dX6_settleLosers_66 : decode cX6_settleLosers 66 = .ok (.aload 4, 2) := by decide +kernel
theorem dX6_settleLosers_68 : decode cX6_settleLosers 68 = .ok (.getfield 246, 3) := by decide +kernel
theorem dX6_settleLosers_71 : decode cX6_settleLosers 71 = .ok (.invokevirtual 329, 3) := by decide +kernel
theorem dX6_settleLosers_74 : decode cX6_settleLosers 74 = .ok (.putfield 203, 3) := by decide +kernel
theorem dX6_settleLosers_77 : decode cX6_settleLosers 77 = .ok (.aload 4, 2) := by decide +kernel
theorem dX6_settleLosers_79 : decode cX6_settleLosers 79 = .ok (.aload_n 0, 1) := by decide +kernel
theorem dX6_settleLosers_80 : decode cX6_settleLosers 80 = .ok (.aload 4, 2) := by decide +kernel
theorem dX6_settleLosers_82 : decode cX6_settleLosers 82 = .ok (.iload_n 2, 1) := by decide +kernel
theorem dX6_settleLosers_83 : decode cX6_settleLosers 83 = .ok (.invokevirtual 332, 3) := by decide +kernel
theorem dX6_settleLosers_86 : decode cX6_settleLosers 86 = .ok (.putfield 198, 3) := by decide +kernel
theorem dX6_settleLosers_89 : decode cX6_settleLosers 89 = .ok (.iinc 2 1, 3) := by decide +kernel
theorem dX6_settleLosers_92 : decode cX6_settleLosers 92 = .ok (.goto (-90), 3) := by decide +kernel
theorem dX6_settleLosers_95 : decode cX6_settleLosers 95 = .ok (.return_, 1) := by decide +kernel
theorem dX6_reasonToLose_0 : decode cX6_reasonToLose 0 = .ok (.aload_n 1, 1) := by decide +kernel
theorem dX6_reasonToLose_1 : decode cX6_reasonToLose 1 = .ok (.getfield 124, 3) := by decide +kernel
theorem dX6_reasonToLose_4 : decode cX6_reasonToLose 4 = .ok (.invokevirtual 92, 3) := by decide +kernel
theorem dX6_reasonToLose_7 : decode cX6_reasonToLose 7 = .ok (.ifCond .eq 6, 3) := by decide +kernel
theorem dX6_reasonToLose_10 : decode cX6_reasonToLose 10 = .ok (.bipush 110, 2) := by decide +kernel
theorem dX6_reasonToLose_12 : decode cX6_reasonToLose 12 = .ok (.ireturn, 1) := by decide +kernel
theorem dX6_reasonToLose_13 : decode cX6_reasonToLose 13 = .ok (.aload_n 0, 1) := by decide +kernel
theorem dX6_reasonToLose_14 : decode cX6_reasonToLose 14 = .ok (.getfield 25, 3) := by decide +kernel
theorem dX6_reasonToLose_17 : decode cX6_reasonToLose 17 = .ok (.iconst 1, 1) := by decide +kernel
theorem dX6_reasonToLose_18 : decode cX6_reasonToLose 18 = .ok (.iload_n 2, 1) := by decide +kernel
theorem dX6_reasonToLose_19 : decode cX6_reasonToLose 19 = .ok (.ishl, 1) := by decide +kernel
theorem dX6_reasonToLose_20 : decode cX6_reasonToLose 20 = .ok (.invokevirtual 217, 3) := by decide +kernel
theorem dX6_reasonToLose_23 : decode cX6_reasonToLose 23 = .ok (.istore_n 3, 1) := by decide +kernel
theorem dX6_reasonToLose_24 : decode cX6_reasonToLose 24 = .ok (.iload_n 3, 1) := by decide +kernel
theorem dX6_reasonToLose_25 : decode cX6_reasonToLose 25 = .ok (.iconst (-1), 1) := by decide +kernel
theorem dX6_reasonToLose_26 : decode cX6_reasonToLose 26 = .ok (.if_icmp .ne 6, 3) := by decide +kernel
theorem dX6_reasonToLose_29 : decode cX6_reasonToLose 29 = .ok (.bipush 108, 2) := by decide +kernel
theorem dX6_reasonToLose_31 : decode cX6_reasonToLose 31 = .ok (.ireturn, 1) := by decide +kernel
theorem dX6_reasonToLose_32 : decode cX6_reasonToLose 32 = .ok (.aload_n 1, 1) := by decide +kernel
theorem dX6_reasonToLose_33 : decode cX6_reasonToLose 33 = .ok (.getfield 137, 3) := by decide +kernel
theorem dX6_reasonToLose_36 : decode cX6_reasonToLose 36 = .ok (.iload_n 3, 1) := by decide +kernel
theorem dX6_reasonToLose_37 : decode cX6_reasonToLose 37 = .ok (.if_icmp .ge 6, 3) := by decide +kernel
theorem dX6_reasonToLose_40 : decode cX6_reasonToLose 40 = .ok (.bipush 112, 2) := by decide +kernel
theorem dX6_reasonToLose_42 : decode cX6_reasonToLose 42 = .ok (.ireturn, 1) := by decide +kernel
theorem dX6_reasonToLose_43 : decode cX6_reasonToLose 43 = .ok (.aload_n 1, 1) := by decide +kernel
theorem dX6_reasonToLose_44 : decode cX6_reasonToLose 44 = .ok (.getfield 203, 3) := by decide +kernel
theorem dX6_reasonToLose_47 : decode cX6_reasonToLose 47 = .ok (.iconst (-1), 1) := by decide +kernel
theorem dX6_reasonToLose_48 : decode cX6_reasonToLose 48 = .ok (.if_icmp .ne 8, 3) := by decide +kernel
theorem dX6_reasonToLose_51 : decode cX6_reasonToLose 51 = .ok (.bipush 109, 2) := by decide +kernel
theorem dX6_reasonToLose_53 : decode cX6_reasonToLose 53 = .ok (.goto 5, 3) := by decide +kernel
theorem dX6_reasonToLose_56 : decode cX6_reasonToLose 56 = .ok (.bipush 98, 2) := by decide +kernel
theorem dX6_reasonToLose_58 : decode cX6_reasonToLose 58 = .ok (.ireturn, 1) := by decide +kernel
theorem dX7_init_0 : decode cX7_init 0 = .ok (.aload_n 0, 1) := by decide +kernel
theorem dX7_init_1 : decode cX7_init 1 = .ok (.invokespecial 1, 3) := by decide +kernel
theorem dX7_init_4 : decode cX7_init 4 = .ok (.aload_n 0, 1) := by decide +kernel
theorem dX7_init_5 : decode cX7_init 5 = .ok (.bipush 40, 2) := by decide +kernel
theorem dX7_init_7 : decode cX7_init 7 = .ok (.newarray .int, 2) := by decide +kernel
theorem dX7_init_9 : decode cX7_init 9 = .ok (.putfield 7, 3) := by decide +kernel
theorem dX7_init_12 : decode cX7_init 12 = .ok (.aload_n 0, 1) := by decide +kernel
theorem dX7_init_13 : decode cX7_init 13 = .ok (.bipush 40, 2) := by decide +kernel
theorem dX7_init_15 : decode cX7_init 15 = .ok (.newarray .int, 2) := by decide +kernel
theorem dX7_init_17 : decode cX7_init 17 = .ok (.putfield 13, 3) := by decide +kernel
theorem dX7_init_20 : decode cX7_init 20 = .ok (.aload_n 0, 1) := by decide +kernel
theorem dX7_init_21 : decode cX7_init 21 = .ok (.bipush 40, 2) := by decide +kernel
theorem dX7_init_23 : decode cX7_init 23 = .ok (.newarray .int, 2) := by decide +kernel
theorem dX7_init_25 : decode cX7_init 25 = .ok (.putfield 16, 3) := by decide +kernel
theorem dX7_init_28 : decode cX7_init 28 = .ok (.aload_n 0, 1) := by decide +kernel
theorem dX7_init_29 : decode cX7_init 29 = .ok (.bipush 40, 2) := by decide +kernel
theorem dX7_init_31 : decode cX7_init 31 = .ok (.newarray .int, 2) := by decide +kernel
theorem dX7_init_33 : decode cX7_init 33 = .ok (.putfield 19, 3) := by decide +kernel
theorem dX7_init_36 : decode cX7_init 36 = .ok (.aload_n 0, 1) := by decide +kernel
theorem dX7_init_37 : decode cX7_init 37 = .ok (.bipush 40, 2) := by decide +kernel
theorem dX7_init_39 : decode cX7_init 39 = .ok (.newarray .char, 2) := by decide +kernel
theorem dX7_init_41 : decode cX7_init 41 = .ok (.putfield 22, 3) := by decide +kernel
theorem dX7_init_44 : decode cX7_init 44 = .ok (.aload_n 0, 1) := by decide +kernel
theorem dX7_init_45 : decode cX7_init 45 = .ok (.bipush 40, 2) := by decide +kernel
theorem dX7_init_47 : decode cX7_init 47 = .ok (.newarray .char, 2) := by decide +kernel
theorem dX7_init_49 : decode cX7_init 49 = .ok (.putfield 26, 3) := by decide +kernel
theorem dX7_init_52 : decode cX7_init 52 = .ok (.aload_n 0, 1) := by decide +kernel
theorem dX7_init_53 : decode cX7_init 53 = .ok (.bipush 40, 2) := by decide +kernel
theorem dX7_init_55 : decode cX7_init 55 = .ok (.newarray .char, 2) := by decide +kernel
theorem dX7_init_57 : decode cX7_init 57 = .ok (.putfield 29, 3) := by decide +kernel
theorem dX7_init_60 : decode cX7_init 60 = .ok (.aload_n 0, 1) := by decide +kernel
theorem dX7_init_61 : decode cX7_init 61 = .ok (.bipush 40, 2) := by decide +kernel
theorem dX7_init_63 : decode cX7_init 63 = .ok (.newarray .int, 2) := by decide +kernel
theorem dX7_init_65 : decode cX7_init 65 = .ok (.putfield 32, 3) := by decide +kernel
theorem dX7_init_68 : decode cX7_init 68 = .ok (.aload_n 0, 1) := by decide +kernel
theorem dX7_init_69 : decode cX7_init 69 = .ok (.bipush 40, 2) := by decide +kernel
theorem dX7_init_71 : decode cX7_init 71 = .ok (.newarray .int, 2) := by decide +kernel
theorem dX7_init_73 : decode cX7_init 73 = .ok (.putfield 35, 3) := by decide +kernel
theorem dX7_init_76 : decode cX7_init 76 = .ok (.aload_n 0, 1) := by decide +kernel
theorem dX7_init_77 : decode cX7_init 77 = .ok (.bipush 40, 2) := by decide +kernel
theorem dX7_init_79 : decode cX7_init 79 = .ok (.newarray .int, 2) := by decide +kernel
theorem dX7_init_81 : decode cX7_init 81 = .ok (.putfield 38, 3) := by decide +kernel
theorem dX7_init_84 : decode cX7_init 84 = .ok (.aload_n 0, 1) := by decide +kernel
theorem dX7_init_85 : decode cX7_init 85 = .ok (.bipush 120, 2) := by decide +kernel
theorem dX7_init_87 : decode cX7_init 87 = .ok (.newarray .int, 2) := by decide +kernel
theorem dX7_init_89 : decode cX7_init 89 = .ok (.putfield 41, 3) := by decide +kernel
theorem dX7_init_92 : decode cX7_init 92 = .ok (.aload_n 0, 1) := by decide +kernel
theorem dX7_init_93 : decode cX7_init 93 = .ok (.bipush 120, 2) := by decide +kernel
theorem dX7_init_95 : decode cX7_init 95 = .ok (.newarray .int, 2) := by decide +kernel
theorem dX7_init_97 : decode cX7_init 97 = .ok (.putfield 44, 3) := by decide +kernel
theorem dX7_init_100 : decode cX7_init 100 = .ok (.aload_n 0, 1) := by decide +kernel
theorem dX7_init_101 : decode cX7_init 101 = .ok (.bipush 120, 2) := by decide +kernel
theorem dX7_init_103 : decode cX7_init 103 = .ok (.newarray .int, 2) := by decide +kernel
theorem dX7_init_105 : decode cX7_init 105 = .ok (.putfield 47, 3) := by decide +kernel
theorem dX7_init_108 : decode cX7_init 108 = .ok (.aload_n 0, 1) := by decide +kernel
theorem dX7_init_109 : decode cX7_init 109 = .ok (.bipush 40, 2) := by decide +kernel
theorem dX7_init_111 : decode cX7_init 111 = .ok (.newarray .int, 2) := by decide +kernel
theorem dX7_init_113 : decode cX7_init 113 = .ok (.putfield 50, 3) := by decide +kernel
theorem dX7_init_116 : decode cX7_init 116 = .ok (.aload_n 0, 1) := by decide +kernel
theorem dX7_init_117 : decode cX7_init 117 = .ok (.bipush 40, 2) := by decide +kernel
theorem dX7_init_119 : decode cX7_init 119 = .ok (.newarray .int, 2) := by decide +kernel
theorem dX7_init_121 : decode cX7_init 121 = .ok (.putfield 53, 3) := by decide +kernel
theorem dX7_init_124 : decode cX7_init 124 = .ok (.aload_n 0, 1) := by decide +kernel
theorem dX7_init_125 : decode cX7_init 125 = .ok (.bipush 6, 2) := by decide +kernel
theorem dX7_init_127 : decode cX7_init 127 = .ok (.newarray .int, 2) := by decide +kernel
theorem dX7_init_129 : decode cX7_init 129 = .ok (.putfield 56, 3) := by decide +kernel
theorem dX7_init_132 : decode cX7_init 132 = .ok (.aload_n 0, 1) := by decide +kernel
theorem dX7_init_133 : decode cX7_init 133 = .ok (.bipush 6, 2) := by decide +kernel
theorem dX7_init_135 : decode cX7_init 135 = .ok (.newarray .int, 2) := by decide +kernel
theorem dX7_init_137 : decode cX7_init 137 = .ok (.putfield 59, 3) := by decide +kernel
theorem dX7_init_140 : decode cX7_init 140 = .ok (.aload_n 0, 1) := by decide +kernel
theorem dX7_init_141 : decode cX7_init 141 = .ok (.bipush 6, 2) := by decide +kernel
theorem dX7_init_143 : decode cX7_init 143 = .ok (.newarray .int, 2) := by decide +kernel
theorem dX7_init_145 : decode cX7_init 145 = .ok (.putfield 62, 3) := by decide +kernel
theorem dX7_init_148 : decode cX7_init 148 = .ok (.aload_n 0, 1) := by decide +kernel
theorem dX7_init_149 : decode cX7_init 149 = .ok (.bipush 8, 2) := by decide +kernel
theorem dX7_init_151 : decode cX7_init 151 = .ok (.newarray .int, 2) := by decide +kernel
theorem dX7_init_153 : decode cX7_init 153 = .ok (.putfield 65, 3) := by decide +kernel
theorem dX7_init_156 : decode cX7_init 156 = .ok (.aload_n 0, 1) := by decide +kernel
theorem dX7_init_157 : decode cX7_init 157 = .ok (.bipush 8, 2) := by decide +kernel
theorem dX7_init_159 : decode cX7_init 159 = .ok (.newarray .int, 2) := by decide +kernel
theorem dX7_init_161 : decode cX7_init 161 = .ok (.putfield 68, 3) := by decide +kernel
theorem dX7_init_164 : decode cX7_init 164 = .ok (.aload_n 0, 1) := by decide +kernel
theorem dX7_init_165 : decode cX7_init 165 = .ok (.sipush 256, 3) := by decide +kernel
theorem dX7_init_168 : decode cX7_init 168 = .ok (.newarray .int, 2) := by decide +kernel
theorem dX7_init_170 : decode cX7_init 170 = .ok (.putfield 71, 3) := by decide +kernel
theorem dX7_init_173 : decode cX7_init 173 = .ok (.aload_n 0, 1) := by decide +kernel
theorem dX7_init_174 : decode cX7_init 174 = .ok (.sipush 2304, 3) := by decide +kernel
theorem dX7_init_177 : decode cX7_init 177 = .ok (.newarray .int, 2) := by decide +kernel
theorem dX7_init_179 : decode cX7_init 179 = .ok (.putfield 74, 3) := by decide +kernel
theorem dX7_init_182 : decode cX7_init 182 = .ok (.aload_n 0, 1) := by decide +kernel
theorem dX7_init_183 : decode cX7_init 183 = .ok (.sipush 256, 3) := by decide +kernel
theorem dX7_init_186 : decode cX7_init 186 = .ok (.newarray .int, 2) := by decide +kernel
theorem dX7_init_188 : decode cX7_init 188 = .ok (.putfield 77, 3) := by decide +kernel
theorem dX7_init_191 : decode cX7_init 191 = .ok (.aload_n 0, 1) := by decide +kernel
theorem dX7_init_192 : decode cX7_init 192 = .ok (.sipush 2304, 3) := by decide +kernel
theorem dX7_init_195 : decode cX7_init 195 = .ok (.newarray .int, 2) := by decide +kernel
theorem dX7_init_197 : decode cX7_init 197 = .ok (.putfield 80, 3) := by decide +kernel
theorem dX7_init_200 : decode cX7_init 200 = .ok (.aload_n 0, 1) := by decide +kernel
theorem dX7_init_201 : decode cX7_init 201 = .ok (.bipush 8, 2) := by decide +kernel
theorem dX7_init_203 : decode cX7_init 203 = .ok (.newarray .int, 2) := by decide +kernel
theorem dX7_init_205 : decode cX7_init 205 = .ok (.putfield 83, 3) := by decide +kernel
theorem dX7_init_208 : decode cX7_init 208 = .ok (.aload_n 0, 1) := by decide +kernel
theorem dX7_init_209 : decode cX7_init 209 = .ok (.bipush 8, 2) := by decide +kernel
theorem dX7_init_211 : decode cX7_init 211 = .ok (.newarray .int, 2) := by decide +kernel
theorem dX7_init_213 : decode cX7_init 213 = .ok (.putfield 86, 3) := by decide +kernel
theorem dX7_init_216 : decode cX7_init 216 = .ok (.return_, 1) := by decide +kernel
theorem dX7_thrown_0 : decode cX7_thrown 0 = .ok (.aload_n 0, 1) := by decide +kernel
theorem dX7_thrown_1 : decode cX7_thrown 1 = .ok (.getfield 89, 3) := by decide +kernel
theorem dX7_thrown_4 : decode cX7_thrown 4 = .ok (.ireturn, 1) := by decide +kernel
theorem dX7_fail_0 : decode cX7_fail 0 = .ok (.aload_n 0, 1) := by decide +kernel
theorem dX7_fail_1 : decode cX7_fail 1 = .ok (.iload_n 1, 1) := by decide +kernel
theorem dX7_fail_2 : decode cX7_fail 2 = .ok (.putfield 89, 3) := by decide +kernel
theorem dX7_fail_5 : decode cX7_fail 5 = .ok (.iconst 0, 1) := by decide +kernel
theorem dX7_fail_6 : decode cX7_fail 6 = .ok (.ireturn, 1) := by decide +kernel
theorem dX7_isIn_0 : decode cX7_isIn 0 = .ok (.iload_n 0, 1) := by decide +kernel
theorem dX7_isIn_1 : decode cX7_isIn 1 = .ok (.iload_n 1, 1) := by decide +kernel
theorem dX7_isIn_2 : decode cX7_isIn 2 = .ok (.if_icmp .lt 12, 3) := by decide +kernel
theorem dX7_isIn_5 : decode cX7_isIn 5 = .ok (.iload_n 0, 1) := by decide +kernel
theorem dX7_isIn_6 : decode cX7_isIn 6 = .ok (.iload_n 2, 1) := by decide +kernel
theorem dX7_isIn_7 : decode cX7_isIn 7 = .ok (.if_icmp .gt 7, 3) := by decide +kernel
theorem dX7_isIn_10 : decode cX7_isIn 10 = .ok (.iconst 1, 1) := by decide +kernel
theorem dX7_isIn_11 : decode cX7_isIn 11 = .ok (.goto 4, 3) := by decide +kernel
theorem dX7_isIn_14 : decode cX7_isIn 14 = .ok (.iconst 0, 1) := by decide +kernel
theorem dX7_isIn_15 : decode cX7_isIn 15 = .ok (.ireturn, 1) := by decide +kernel
theorem dX7_isGrade_0 : decode cX7_isGrade 0 = .ok (.iload_n 0, 1) := by decide +kernel
theorem dX7_isGrade_1 : decode cX7_isGrade 1 = .ok (.bipush 97, 2) := by decide +kernel
theorem dX7_isGrade_3 : decode cX7_isGrade 3 = .ok (.if_icmp .lt 13, 3) := by decide +kernel
theorem dX7_isGrade_6 : decode cX7_isGrade 6 = .ok (.iload_n 0, 1) := by decide +kernel
theorem dX7_isGrade_7 : decode cX7_isGrade 7 = .ok (.bipush 101, 2) := by decide +kernel
theorem dX7_isGrade_9 : decode cX7_isGrade 9 = .ok (.if_icmp .gt 7, 3) := by decide +kernel
theorem dX7_isGrade_12 : decode cX7_isGrade 12 = .ok (.iconst 1, 1) := by decide +kernel
theorem dX7_isGrade_13 : decode cX7_isGrade 13 = .ok (.goto 4, 3) := by decide +kernel
theorem dX7_isGrade_16 : decode cX7_isGrade 16 = .ok (.iconst 0, 1) := by decide +kernel
theorem dX7_isGrade_17 : decode cX7_isGrade 17 = .ok (.ireturn, 1) := by decide +kernel
theorem dX7_isLot_0 : decode cX7_isLot 0 = .ok (.iload_n 1, 1) := by decide +kernel
theorem dX7_isLot_1 : decode cX7_isLot 1 = .ok (.iconst 0, 1) := by decide +kernel
theorem dX7_isLot_2 : decode cX7_isLot 2 = .ok (.aload_n 0, 1) := by decide +kernel
theorem dX7_isLot_3 : decode cX7_isLot 3 = .ok (.getfield 93, 3) := by decide +kernel
theorem dX7_isLot_6 : decode cX7_isLot 6 = .ok (.iconst 1, 1) := by decide +kernel
theorem dX7_isLot_7 : decode cX7_isLot 7 = .ok (.isub, 1) := by decide +kernel
theorem dX7_isLot_8 : decode cX7_isLot 8 = .ok (.invokestatic 96, 3) := by decide +kernel
theorem dX7_isLot_11 : decode cX7_isLot 11 = .ok (.ireturn, 1) := by decide +kernel
theorem dX7_isBid_0 : decode cX7_isBid 0 = .ok (.iload_n 1, 1) := by decide +kernel
theorem dX7_isBid_1 : decode cX7_isBid 1 = .ok (.iconst 0, 1) := by decide +kernel
theorem dX7_isBid_2 : decode cX7_isBid 2 = .ok (.aload_n 0, 1) := by decide +kernel
theorem dX7_isBid_3 : decode cX7_isBid 3 = .ok (.getfield 100, 3) := by decide +kernel
theorem dX7_isBid_6 : decode cX7_isBid 6 = .ok (.iconst 1, 1) := by decide +kernel
theorem dX7_isBid_7 : decode cX7_isBid 7 = .ok (.isub, 1) := by decide +kernel
theorem dX7_isBid_8 : decode cX7_isBid 8 = .ok (.invokestatic 96, 3) := by decide +kernel
theorem dX7_isBid_11 : decode cX7_isBid 11 = .ok (.ireturn, 1) := by decide +kernel
theorem dX7_offer_0 : decode cX7_offer 0 = .ok (.iload_n 1, 1) := by decide +kernel
theorem dX7_offer_1 : decode cX7_offer 1 = .ok (.iconst 0, 1) := by decide +kernel
theorem dX7_offer_2 : decode cX7_offer 2 = .ok (.iconst 3, 1) := by decide +kernel
theorem dX7_offer_3 : decode cX7_offer 3 = .ok (.invokestatic 96, 3) := by decide +kernel
theorem dX7_offer_6 : decode cX7_offer 6 = .ok (.ifCond .eq 21, 3) := by decide +kernel
theorem dX7_offer_9 : decode cX7_offer 9 = .ok (.iload_n 2, 1) := by decide +kernel
theorem dX7_offer_10 : decode cX7_offer 10 = .ok (.invokestatic 103, 3) := by decide +kernel
theorem dX7_offer_13 : decode cX7_offer 13 = .ok (.ifCond .eq 14, 3) := by decide +kernel
theorem dX7_offer_16 : decode cX7_offer 16 = .ok (.iload_n 3, 1) := by decide +kernel
theorem dX7_offer_17 : decode cX7_offer 17 = .ok (.iconst 0, 1) := by decide +kernel
theorem dX7_offer_18 : decode cX7_offer 18 = .ok (.sipush 999, 3) := by decide +kernel
theorem dX7_offer_21 : decode cX7_offer 21 = .ok (.invokestatic 96, 3) := by decide +kernel
theorem dX7_offer_24 : decode cX7_offer 24 = .ok (.ifCond .ne 9, 3) := by decide +kernel
theorem dX7_offer_27 : decode cX7_offer 27 = .ok (.aload_n 0, 1) := by decide +kernel
theorem dX7_offer_28 : decode cX7_offer 28 = .ok (.iconst 1, 1) := by decide +kernel
theorem dX7_offer_29 : decode cX7_offer 29 = .ok (.invokevirtual 107, 3) := by decide +kernel
theorem dX7_offer_32 : decode cX7_offer 32 = .ok (.ireturn, 1) := by decide +kernel
theorem dX7_offer_33 : decode cX7_offer 33 = .ok (.aload_n 0, 1) := by decide +kernel
theorem dX7_offer_34 : decode cX7_offer 34 = .ok (.getfield 111, 3) := by decide +kernel
theorem dX7_offer_37 : decode cX7_offer 37 = .ok (.bipush 8, 2) := by decide +kernel
theorem dX7_offer_39 : decode cX7_offer 39 = .ok (.if_icmp .eq 12, 3) := by decide +kernel
theorem dX7_offer_42 : decode cX7_offer 42 = .ok (.aload_n 0, 1) := by decide +kernel
theorem dX7_offer_43 : decode cX7_offer 43 = .ok (.getfield 93, 3) := by decide +kernel
theorem dX7_offer_46 : decode cX7_offer 46 = .ok (.bipush 40, 2) := by decide +kernel
theorem dX7_offer_48 : decode cX7_offer 48 = .ok (.if_icmp .ne 9, 3) := by decide +kernel
theorem dX7_offer_51 : decode cX7_offer 51 = .ok (.aload_n 0, 1) := by decide +kernel
theorem dX7_offer_52 : decode cX7_offer 52 = .ok (.iconst 2, 1) := by decide +kernel
theorem dX7_offer_53 : decode cX7_offer 53 = .ok (.invokevirtual 107, 3) := by decide +kernel
theorem dX7_offer_56 : decode cX7_offer 56 = .ok (.ireturn, 1) := by decide +kernel
theorem dX7_offer_57 : decode cX7_offer 57 = .ok (.aload_n 0, 1) := by decide +kernel
theorem dX7_offer_58 : decode cX7_offer 58 = .ok (.iconst 0, 1) := by decide +kernel
theorem dX7_offer_59 : decode cX7_offer 59 = .ok (.putfield 89, 3) := by decide +kernel
theorem dX7_offer_62 : decode cX7_offer 62 = .ok (.aload_n 0, 1) := by decide +kernel
theorem dX7_offer_63 : decode cX7_offer 63 = .ok (.getfield 7, 3) := by decide +kernel
theorem dX7_offer_66 : decode cX7_offer 66 = .ok (.aload_n 0, 1) := by decide +kernel
theorem dX7_offer_67 : decode cX7_offer 67 = .ok (.getfield 93, 3) := by decide +kernel
theorem dX7_offer_70 : decode cX7_offer 70 = .ok (.iload_n 1, 1) := by decide +kernel
theorem dX7_offer_71 : decode cX7_offer 71 = .ok (.iastore, 1) := by decide +kernel
theorem dX7_offer_72 : decode cX7_offer 72 = .ok (.aload_n 0, 1) := by decide +kernel
theorem dX7_offer_73 : decode cX7_offer 73 = .ok (.getfield 13, 3) := by decide +kernel
theorem dX7_offer_76 : decode cX7_offer 76 = .ok (.aload_n 0, 1) := by decide +kernel
theorem dX7_offer_77 : decode cX7_offer 77 = .ok (.getfield 93, 3) := by decide +kernel
theorem dX7_offer_80 : decode cX7_offer 80 = .ok (.iload_n 2, 1) := by decide +kernel
theorem dX7_offer_81 : decode cX7_offer 81 = .ok (.iastore, 1) := by decide +kernel
theorem dX7_offer_82 : decode cX7_offer 82 = .ok (.aload_n 0, 1) := by decide +kernel
theorem dX7_offer_83 : decode cX7_offer 83 = .ok (.getfield 16, 3) := by decide +kernel
theorem dX7_offer_86 : decode cX7_offer 86 = .ok (.aload_n 0, 1) := by decide +kernel
theorem dX7_offer_87 : decode cX7_offer 87 = .ok (.getfield 93, 3) := by decide +kernel
theorem dX7_offer_90 : decode cX7_offer 90 = .ok (.iload_n 3, 1) := by decide +kernel
theorem dX7_offer_91 : decode cX7_offer 91 = .ok (.iastore, 1) := by decide +kernel
theorem dX7_offer_92 : decode cX7_offer 92 = .ok (.aload_n 0, 1) := by decide +kernel
theorem dX7_offer_93 : decode cX7_offer 93 = .ok (.getfield 22, 3) := by decide +kernel
theorem dX7_offer_96 : decode cX7_offer 96 = .ok (.aload_n 0, 1) := by decide +kernel
theorem dX7_offer_97 : decode cX7_offer 97 = .ok (.getfield 93, 3) := by decide +kernel
theorem dX7_offer_100 : decode cX7_offer 100 = .ok (.bipush 111, 2) := by decide +kernel
theorem dX7_offer_102 : decode cX7_offer 102 = .ok (.castore, 1) := by decide +kernel
theorem dX7_offer_103 : decode cX7_offer 103 = .ok (.aload_n 0, 1) := by decide +kernel
theorem dX7_offer_104 : decode cX7_offer 104 = .ok (.dup, 1) := by decide +kernel
theorem dX7_offer_105 : decode cX7_offer 105 = .ok (.getfield 111, 3) := by decide +kernel
theorem dX7_offer_108 : decode cX7_offer 108 = .ok (.iconst 1, 1) := by decide +kernel
theorem dX7_offer_109 : decode cX7_offer 109 = .ok (.iadd, 1) := by decide +kernel
theorem dX7_offer_110 : decode cX7_offer 110 = .ok (.putfield 111, 3) := by decide +kernel
theorem dX7_offer_113 : decode cX7_offer 113 = .ok (.aload_n 0, 1) := by decide +kernel
theorem dX7_offer_114 : decode cX7_offer 114 = .ok (.dup, 1) := by decide +kernel
theorem dX7_offer_115 : decode cX7_offer 115 = .ok (.getfield 93, 3) := by decide +kernel
theorem dX7_offer_118 : decode cX7_offer 118 = .ok (.dup_x1, 1) := by decide +kernel
theorem dX7_offer_119 : decode cX7_offer 119 = .ok (.iconst 1, 1) := by decide +kernel
theorem dX7_offer_120 : decode cX7_offer 120 = .ok (.iadd, 1) := by decide +kernel
theorem dX7_offer_121 : decode cX7_offer 121 = .ok (.putfield 93, 3) := by decide +kernel
theorem dX7_offer_124 : decode cX7_offer 124 = .ok (.ireturn, 1) := by decide +kernel
theorem dX7_withdraw_0 : decode cX7_withdraw 0 = .ok (.aload_n 0, 1) := by decide +kernel
theorem dX7_withdraw_1 : decode cX7_withdraw 1 = .ok (.iload_n 1, 1) := by decide +kernel
theorem dX7_withdraw_2 : decode cX7_withdraw 2 = .ok (.invokevirtual 114, 3) := by decide +kernel
theorem dX7_withdraw_5 : decode cX7_withdraw 5 = .ok (.ifCond .ne 9, 3) := by decide +kernel
theorem dX7_withdraw_8 : decode cX7_withdraw 8 = .ok (.aload_n 0, 1) := by decide +kernel
theorem dX7_withdraw_9 : decode cX7_withdraw 9 = .ok (.iconst 1, 1) := by decide +kernel
theorem dX7_withdraw_10 : decode cX7_withdraw 10 = .ok (.invokevirtual 107, 3) := by decide +kernel
theorem dX7_withdraw_13 : decode cX7_withdraw 13 = .ok (.ireturn, 1) := by decide +kernel
theorem dX7_withdraw_14 : decode cX7_withdraw 14 = .ok (.aload_n 0, 1) := by decide +kernel
theorem dX7_withdraw_15 : decode cX7_withdraw 15 = .ok (.getfield 22, 3) := by decide +kernel
theorem dX7_withdraw_18 : decode cX7_withdraw 18 = .ok (.iload_n 1, 1) := by decide +kernel
theorem dX7_withdraw_19 : decode cX7_withdraw 19 = .ok (.caload, 1) := by decide +kernel
theorem dX7_withdraw_20 : decode cX7_withdraw 20 = .ok (.bipush 111, 2) := by decide +kernel
theorem dX7_withdraw_22 : decode cX7_withdraw 22 = .ok (.if_icmp .eq 9, 3) := by decide +kernel
theorem dX7_withdraw_25 : decode cX7_withdraw 25 = .ok (.aload_n 0, 1) := by decide +kernel
theorem dX7_withdraw_26 : decode cX7_withdraw 26 = .ok (.iconst 2, 1) := by decide +kernel
theorem dX7_withdraw_27 : decode cX7_withdraw 27 = .ok (.invokevirtual 107, 3) := by decide +kernel
theorem dX7_withdraw_30 : decode cX7_withdraw 30 = .ok (.ireturn, 1) := by decide +kernel
theorem dX7_withdraw_31 : decode cX7_withdraw 31 = .ok (.aload_n 0, 1) := by decide +kernel
theorem dX7_withdraw_32 : decode cX7_withdraw 32 = .ok (.iconst 0, 1) := by decide +kernel
theorem dX7_withdraw_33 : decode cX7_withdraw 33 = .ok (.putfield 89, 3) := by decide +kernel
theorem dX7_withdraw_36 : decode cX7_withdraw 36 = .ok (.aload_n 0, 1) := by decide +kernel
theorem dX7_withdraw_37 : decode cX7_withdraw 37 = .ok (.getfield 22, 3) := by decide +kernel
theorem dX7_withdraw_40 : decode cX7_withdraw 40 = .ok (.iload_n 1, 1) := by decide +kernel
theorem dX7_withdraw_41 : decode cX7_withdraw 41 = .ok (.bipush 119, 2) := by decide +kernel
theorem dX7_withdraw_43 : decode cX7_withdraw 43 = .ok (.castore, 1) := by decide +kernel
theorem dX7_withdraw_44 : decode cX7_withdraw 44 = .ok (.aload_n 0, 1) := by decide +kernel
theorem dX7_withdraw_45 : decode cX7_withdraw 45 = .ok (.dup, 1) := by decide +kernel
theorem dX7_withdraw_46 : decode cX7_withdraw 46 = .ok (.getfield 111, 3) := by decide +kernel
theorem dX7_withdraw_49 : decode cX7_withdraw 49 = .ok (.iconst 1, 1) := by decide +kernel
theorem dX7_withdraw_50 : decode cX7_withdraw 50 = .ok (.isub, 1) := by decide +kernel
theorem dX7_withdraw_51 : decode cX7_withdraw 51 = .ok (.dup_x1, 1) := by decide +kernel
theorem dX7_withdraw_52 : decode cX7_withdraw 52 = .ok (.putfield 111, 3) := by decide +kernel
theorem dX7_withdraw_55 : decode cX7_withdraw 55 = .ok (.ireturn, 1) := by decide +kernel
theorem dX7_allow_0 : decode cX7_allow 0 = .ok (.iload_n 1, 1) := by decide +kernel
theorem dX7_allow_1 : decode cX7_allow 1 = .ok (.iconst 0, 1) := by decide +kernel
theorem dX7_allow_2 : decode cX7_allow 2 = .ok (.iconst 3, 1) := by decide +kernel
theorem dX7_allow_3 : decode cX7_allow 3 = .ok (.invokestatic 96, 3) := by decide +kernel
theorem dX7_allow_6 : decode cX7_allow 6 = .ok (.ifCond .eq 21, 3) := by decide +kernel
theorem dX7_allow_9 : decode cX7_allow 9 = .ok (.iload_n 2, 1) := by decide +kernel
theorem dX7_allow_10 : decode cX7_allow 10 = .ok (.iconst 0, 1) := by decide +kernel
theorem dX7_allow_11 : decode cX7_allow 11 = .ok (.iconst 3, 1) := by decide +kernel
theorem dX7_allow_12 : decode cX7_allow 12 = .ok (.invokestatic 96, 3) := by decide +kernel
theorem dX7_allow_15 : decode cX7_allow 15 = .ok (.ifCond .eq 12, 3) := by decide +kernel
theorem dX7_allow_18 : decode cX7_allow 18 = .ok (.iload_n 3, 1) := by decide +kernel
theorem dX7_allow_19 : decode cX7_allow 19 = .ok (.iconst 0, 1) := by decide +kernel
theorem dX7_allow_20 : decode cX7_allow 20 = .ok (.iconst 4, 1) := by decide +kernel
theorem dX7_allow_21 : decode cX7_allow 21 = .ok (.invokestatic 96, 3) := by decide +kernel
theorem dX7_allow_24 : decode cX7_allow 24 = .ok (.ifCond .ne 9, 3) := by decide +kernel
theorem dX7_allow_27 : decode cX7_allow 27 = .ok (.aload_n 0, 1) := by decide +kernel
theorem dX7_allow_28 : decode cX7_allow 28 = .ok (.iconst 1, 1) := by decide +kernel
theorem dX7_allow_29 : decode cX7_allow 29 = .ok (.invokevirtual 107, 3) := by decide +kernel
theorem dX7_allow_32 : decode cX7_allow 32 = .ok (.ireturn, 1) := by decide +kernel
theorem dX7_allow_33 : decode cX7_allow 33 = .ok (.aload_n 0, 1) := by decide +kernel
theorem dX7_allow_34 : decode cX7_allow 34 = .ok (.getfield 118, 3) := by decide +kernel
theorem dX7_allow_37 : decode cX7_allow 37 = .ok (.bipush 6, 2) := by decide +kernel
theorem dX7_allow_39 : decode cX7_allow 39 = .ok (.if_icmp .ne 9, 3) := by decide +kernel
theorem dX7_allow_42 : decode cX7_allow 42 = .ok (.aload_n 0, 1) := by decide +kernel
theorem dX7_allow_43 : decode cX7_allow 43 = .ok (.iconst 2, 1) := by decide +kernel
theorem dX7_allow_44 : decode cX7_allow 44 = .ok (.invokevirtual 107, 3) := by decide +kernel
theorem dX7_allow_47 : decode cX7_allow 47 = .ok (.ireturn, 1) := by decide +kernel
theorem dX7_allow_48 : decode cX7_allow 48 = .ok (.aload_n 0, 1) := by decide +kernel
theorem dX7_allow_49 : decode cX7_allow 49 = .ok (.iconst 0, 1) := by decide +kernel
theorem dX7_allow_50 : decode cX7_allow 50 = .ok (.putfield 89, 3) := by decide +kernel
theorem dX7_allow_53 : decode cX7_allow 53 = .ok (.aload_n 0, 1) := by decide +kernel
theorem dX7_allow_54 : decode cX7_allow 54 = .ok (.getfield 56, 3) := by decide +kernel
theorem dX7_allow_57 : decode cX7_allow 57 = .ok (.aload_n 0, 1) := by decide +kernel
theorem dX7_allow_58 : decode cX7_allow 58 = .ok (.getfield 118, 3) := by decide +kernel
theorem dX7_allow_61 : decode cX7_allow 61 = .ok (.iload_n 1, 1) := by decide +kernel
theorem dX7_allow_62 : decode cX7_allow 62 = .ok (.iastore, 1) := by decide +kernel
theorem dX7_allow_63 : decode cX7_allow 63 = .ok (.aload_n 0, 1) := by decide +kernel
theorem dX7_allow_64 : decode cX7_allow 64 = .ok (.getfield 59, 3) := by decide +kernel
theorem dX7_allow_67 : decode cX7_allow 67 = .ok (.aload_n 0, 1) := by decide +kernel
theorem dX7_allow_68 : decode cX7_allow 68 = .ok (.getfield 118, 3) := by decide +kernel
theorem dX7_allow_71 : decode cX7_allow 71 = .ok (.iload_n 2, 1) := by decide +kernel
theorem dX7_allow_72 : decode cX7_allow 72 = .ok (.iastore, 1) := by decide +kernel
theorem dX7_allow_73 : decode cX7_allow 73 = .ok (.aload_n 0, 1) := by decide +kernel
theorem dX7_allow_74 : decode cX7_allow 74 = .ok (.getfield 62, 3) := by decide +kernel
theorem dX7_allow_77 : decode cX7_allow 77 = .ok (.aload_n 0, 1) := by decide +kernel
theorem dX7_allow_78 : decode cX7_allow 78 = .ok (.getfield 118, 3) := by decide +kernel
theorem dX7_allow_81 : decode cX7_allow 81 = .ok (.iload_n 3, 1) := by decide +kernel
theorem dX7_allow_82 : decode cX7_allow 82 = .ok (.iastore, 1) := by decide +kernel
theorem dX7_allow_83 : decode cX7_allow 83 = .ok (.aload_n 0, 1) := by decide +kernel
theorem dX7_allow_84 : decode cX7_allow 84 = .ok (.dup, 1) := by decide +kernel
theorem dX7_allow_85 : decode cX7_allow 85 = .ok (.getfield 118, 3) := by decide +kernel
theorem dX7_allow_88 : decode cX7_allow 88 = .ok (.iconst 1, 1) := by decide +kernel
theorem dX7_allow_89 : decode cX7_allow 89 = .ok (.iadd, 1) := by decide +kernel
theorem dX7_allow_90 : decode cX7_allow 90 = .ok (.dup_x1, 1) := by decide +kernel
theorem dX7_allow_91 : decode cX7_allow 91 = .ok (.putfield 118, 3) := by decide +kernel
theorem dX7_allow_94 : decode cX7_allow 94 = .ok (.ireturn, 1) := by decide +kernel
theorem dX7_forbid_0 : decode cX7_forbid 0 = .ok (.aload_n 0, 1) := by decide +kernel
theorem dX7_forbid_1 : decode cX7_forbid 1 = .ok (.getfield 118, 3) := by decide +kernel
theorem dX7_forbid_4 : decode cX7_forbid 4 = .ok (.ifCond .ne 9, 3) := by decide +kernel
theorem dX7_forbid_7 : decode cX7_forbid 7 = .ok (.aload_n 0, 1) := by decide +kernel
theorem dX7_forbid_8 : decode cX7_forbid 8 = .ok (.iconst 1, 1) := by decide +kernel
theorem dX7_forbid_9 : decode cX7_forbid 9 = .ok (.invokevirtual 107, 3) := by decide +kernel
theorem dX7_forbid_12 : decode cX7_forbid 12 = .ok (.ireturn, 1) := by decide +kernel
theorem dX7_forbid_13 : decode cX7_forbid 13 = .ok (.aload_n 0, 1) := by decide +kernel
theorem dX7_forbid_14 : decode cX7_forbid 14 = .ok (.iconst 0, 1) := by decide +kernel
theorem dX7_forbid_15 : decode cX7_forbid 15 = .ok (.putfield 89, 3) := by decide +kernel
theorem dX7_forbid_18 : decode cX7_forbid 18 = .ok (.aload_n 0, 1) := by decide +kernel
theorem dX7_forbid_19 : decode cX7_forbid 19 = .ok (.dup, 1) := by decide +kernel
theorem dX7_forbid_20 : decode cX7_forbid 20 = .ok (.getfield 118, 3) := by decide +kernel
theorem dX7_forbid_23 : decode cX7_forbid 23 = .ok (.iconst 1, 1) := by decide +kernel
theorem dX7_forbid_24 : decode cX7_forbid 24 = .ok (.isub, 1) := by decide +kernel
theorem dX7_forbid_25 : decode cX7_forbid 25 = .ok (.dup_x1, 1) := by decide +kernel
theorem dX7_forbid_26 : decode cX7_forbid 26 = .ok (.putfield 118, 3) := by decide +kernel
theorem dX7_forbid_29 : decode cX7_forbid 29 = .ok (.ireturn, 1) := by decide +kernel
theorem dX7_bid_0 : decode cX7_bid 0 = .ok (.iload_n 1, 1) := by decide +kernel
theorem dX7_bid_1 : decode cX7_bid 1 = .ok (.iconst 0, 1) := by decide +kernel
theorem dX7_bid_2 : decode cX7_bid 2 = .ok (.bipush 7, 2) := by decide +kernel
theorem dX7_bid_4 : decode cX7_bid 4 = .ok (.invokestatic 96, 3) := by decide +kernel
theorem dX7_bid_7 : decode cX7_bid 7 = .ok (.ifCond .eq 14, 3) := by decide +kernel
theorem dX7_bid_10 : decode cX7_bid 10 = .ok (.iload_n 2, 1) := by decide +kernel
theorem dX7_bid_11 : decode cX7_bid 11 = .ok (.iconst 0, 1) := by decide +kernel
theorem dX7_bid_12 : decode cX7_bid 12 = .ok (.sipush 9999, 3) := by decide +kernel
theorem dX7_bid_15 : decode cX7_bid 15 = .ok (.invokestatic 96, 3) := by decide +kernel
theorem dX7_bid_18 : decode cX7_bid 18 = .ok (.ifCond .ne 9, 3) := by decide +kernel
theorem dX7_bid_21 : decode cX7_bid 21 = .ok (.aload_n 0, 1) := by decide +kernel
theorem dX7_bid_22 : decode cX7_bid 22 = .ok (.iconst 1, 1) := by decide +kernel
theorem dX7_bid_23 : decode cX7_bid 23 = .ok (.invokevirtual 107, 3) := by decide +kernel
theorem dX7_bid_26 : decode cX7_bid 26 = .ok (.ireturn, 1) := by decide +kernel
theorem dX7_bid_27 : decode cX7_bid 27 = .ok (.aload_n 0, 1) := by decide +kernel
theorem dX7_bid_28 : decode cX7_bid 28 = .ok (.getfield 121, 3) := by decide +kernel
theorem dX7_bid_31 : decode cX7_bid 31 = .ok (.bipush 8, 2) := by decide +kernel
theorem dX7_bid_33 : decode cX7_bid 33 = .ok (.if_icmp .eq 12, 3) := by decide +kernel
theorem dX7_bid_36 : decode cX7_bid 36 = .ok (.aload_n 0, 1) := by decide +kernel
theorem dX7_bid_37 : decode cX7_bid 37 = .ok (.getfield 100, 3) := by decide +kernel
theorem dX7_bid_40 : decode cX7_bid 40 = .ok (.bipush 40, 2) := by decide +kernel
theorem dX7_bid_42 : decode cX7_bid 42 = .ok (.if_icmp .ne 9, 3) := by decide +kernel
theorem dX7_bid_45 : decode cX7_bid 45 = .ok (.aload_n 0, 1) := by decide +kernel
theorem dX7_bid_46 : decode cX7_bid 46 = .ok (.iconst 2, 1) := by decide +kernel
theorem dX7_bid_47 : decode cX7_bid 47 = .ok (.invokevirtual 107, 3) := by decide +kernel
theorem dX7_bid_50 : decode cX7_bid 50 = .ok (.ireturn, 1) := by decide +kernel
theorem dX7_bid_51 : decode cX7_bid 51 = .ok (.aload_n 0, 1) := by decide +kernel
theorem dX7_bid_52 : decode cX7_bid 52 = .ok (.iconst 0, 1) := by decide +kernel
theorem dX7_bid_53 : decode cX7_bid 53 = .ok (.putfield 89, 3) := by decide +kernel
theorem dX7_bid_56 : decode cX7_bid 56 = .ok (.aload_n 0, 1) := by decide +kernel
theorem dX7_bid_57 : decode cX7_bid 57 = .ok (.getfield 32, 3) := by decide +kernel
theorem dX7_bid_60 : decode cX7_bid 60 = .ok (.aload_n 0, 1) := by decide +kernel
theorem dX7_bid_61 : decode cX7_bid 61 = .ok (.getfield 100, 3) := by decide +kernel
theorem dX7_bid_64 : decode cX7_bid 64 = .ok (.iload_n 1, 1) := by decide +kernel
theorem dX7_bid_65 : decode cX7_bid 65 = .ok (.iastore, 1) := by decide +kernel
theorem dX7_bid_66 : decode cX7_bid 66 = .ok (.aload_n 0, 1) := by decide +kernel
theorem dX7_bid_67 : decode cX7_bid 67 = .ok (.getfield 35, 3) := by decide +kernel
theorem dX7_bid_70 : decode cX7_bid 70 = .ok (.aload_n 0, 1) := by decide +kernel
theorem dX7_bid_71 : decode cX7_bid 71 = .ok (.getfield 100, 3) := by decide +kernel
theorem dX7_bid_74 : decode cX7_bid 74 = .ok (.iload_n 2, 1) := by decide +kernel
theorem dX7_bid_75 : decode cX7_bid 75 = .ok (.iastore, 1) := by decide +kernel
theorem dX7_bid_76 : decode cX7_bid 76 = .ok (.aload_n 0, 1) := by decide +kernel
theorem dX7_bid_77 : decode cX7_bid 77 = .ok (.getfield 38, 3) := by decide +kernel
theorem dX7_bid_80 : decode cX7_bid 80 = .ok (.aload_n 0, 1) := by decide +kernel
theorem dX7_bid_81 : decode cX7_bid 81 = .ok (.getfield 100, 3) := by decide +kernel
theorem dX7_bid_84 : decode cX7_bid 84 = .ok (.iconst 0, 1) := by decide +kernel
theorem dX7_bid_85 : decode cX7_bid 85 = .ok (.iastore, 1) := by decide +kernel
theorem dX7_bid_86 : decode cX7_bid 86 = .ok (.aload_n 0, 1) := by decide +kernel
theorem dX7_bid_87 : decode cX7_bid 87 = .ok (.getfield 26, 3) := by decide +kernel
theorem dX7_bid_90 : decode cX7_bid 90 = .ok (.aload_n 0, 1) := by decide +kernel
theorem dX7_bid_91 : decode cX7_bid 91 = .ok (.getfield 100, 3) := by decide +kernel
theorem dX7_bid_94 : decode cX7_bid 94 = .ok (.bipush 111, 2) := by decide +kernel
theorem dX7_bid_96 : decode cX7_bid 96 = .ok (.castore, 1) := by decide +kernel
theorem dX7_bid_97 : decode cX7_bid 97 = .ok (.aload_n 0, 1) := by decide +kernel
theorem dX7_bid_98 : decode cX7_bid 98 = .ok (.dup, 1) := by decide +kernel
theorem dX7_bid_99 : decode cX7_bid 99 = .ok (.getfield 121, 3) := by decide +kernel
theorem dX7_bid_102 : decode cX7_bid 102 = .ok (.iconst 1, 1) := by decide +kernel
theorem dX7_bid_103 : decode cX7_bid 103 = .ok (.iadd, 1) := by decide +kernel
theorem dX7_bid_104 : decode cX7_bid 104 = .ok (.putfield 121, 3) := by decide +kernel
theorem dX7_bid_107 : decode cX7_bid 107 = .ok (.aload_n 0, 1) := by decide +kernel
theorem dX7_bid_108 : decode cX7_bid 108 = .ok (.dup, 1) := by decide +kernel
theorem dX7_bid_109 : decode cX7_bid 109 = .ok (.getfield 100, 3) := by decide +kernel
theorem dX7_bid_112 : decode cX7_bid 112 = .ok (.dup_x1, 1) := by decide +kernel
theorem dX7_bid_113 : decode cX7_bid 113 = .ok (.iconst 1, 1) := by decide +kernel
theorem dX7_bid_114 : decode cX7_bid 114 = .ok (.iadd, 1) := by decide +kernel
theorem dX7_bid_115 : decode cX7_bid 115 = .ok (.putfield 100, 3) := by decide +kernel
theorem dX7_bid_118 : decode cX7_bid 118 = .ok (.ireturn, 1) := by decide +kernel
theorem dX7_ask_0 : decode cX7_ask 0 = .ok (.aload_n 0, 1) := by decide +kernel
theorem dX7_ask_1 : decode cX7_ask 1 = .ok (.iload_n 1, 1) := by decide +kernel
theorem dX7_ask_2 : decode cX7_ask 2 = .ok (.invokevirtual 124, 3) := by decide +kernel
theorem dX7_ask_5 : decode cX7_ask 5 = .ok (.ifCond .ne 9, 3) := by decide +kernel
theorem dX7_ask_8 : decode cX7_ask 8 = .ok (.aload_n 0, 1) := by decide +kernel
theorem dX7_ask_9 : decode cX7_ask 9 = .ok (.iconst 1, 1) := by decide +kernel
theorem dX7_ask_10 : decode cX7_ask 10 = .ok (.invokevirtual 107, 3) := by decide +kernel
theorem dX7_ask_13 : decode cX7_ask 13 = .ok (.ireturn, 1) := by decide +kernel
theorem dX7_ask_14 : decode cX7_ask 14 = .ok (.iload_n 2, 1) := by decide +kernel
theorem dX7_ask_15 : decode cX7_ask 15 = .ok (.iconst 0, 1) := by decide +kernel
theorem dX7_ask_16 : decode cX7_ask 16 = .ok (.iconst 3, 1) := by decide +kernel
theorem dX7_ask_17 : decode cX7_ask 17 = .ok (.invokestatic 96, 3) := by decide +kernel
theorem dX7_ask_20 : decode cX7_ask 20 = .ok (.ifCond .eq 10, 3) := by decide +kernel
theorem dX7_ask_23 : decode cX7_ask 23 = .ok (.iload_n 3, 1) := by decide +kernel
theorem dX7_ask_24 : decode cX7_ask 24 = .ok (.invokestatic 103, 3) := by decide +kernel
theorem dX7_ask_27 : decode cX7_ask 27 = .ok (.ifCond .ne 9, 3) := by decide +kernel
theorem dX7_ask_30 : decode cX7_ask 30 = .ok (.aload_n 0, 1) := by decide +kernel
theorem dX7_ask_31 : decode cX7_ask 31 = .ok (.iconst 2, 1) := by decide +kernel
theorem dX7_ask_32 : decode cX7_ask 32 = .ok (.invokevirtual 107, 3) := by decide +kernel
theorem dX7_ask_35 : decode cX7_ask 35 = .ok (.ireturn, 1) := by decide +kernel
theorem dX7_ask_36 : decode cX7_ask 36 = .ok (.aload_n 0, 1) := by decide +kernel
theorem dX7_ask_37 : decode cX7_ask 37 = .ok (.getfield 26, 3) := by decide +kernel
theorem dX7_ask_40 : decode cX7_ask 40 = .ok (.iload_n 1, 1) := by decide +kernel
theorem dX7_ask_41 : decode cX7_ask 41 = .ok (.caload, 1) := by decide +kernel
theorem dX7_ask_42 : decode cX7_ask 42 = .ok (.bipush 111, 2) := by decide +kernel
theorem dX7_ask_44 : decode cX7_ask 44 = .ok (.if_icmp .ne 13, 3) := by decide +kernel
theorem dX7_ask_47 : decode cX7_ask 47 = .ok (.aload_n 0, 1) := by decide +kernel
theorem dX7_ask_48 : decode cX7_ask 48 = .ok (.getfield 38, 3) := by decide +kernel
theorem dX7_ask_51 : decode cX7_ask 51 = .ok (.iload_n 1, 1) := by decide +kernel
theorem dX7_ask_52 : decode cX7_ask 52 = .ok (.iaload, 1) := by decide +kernel
theorem dX7_ask_53 : decode cX7_ask 53 = .ok (.iconst 3, 1) := by decide +kernel
theorem dX7_ask_54 : decode cX7_ask 54 = .ok (.if_icmp .ne 9, 3) := by decide +kernel
theorem dX7_ask_57 : decode cX7_ask 57 = .ok (.aload_n 0, 1) := by decide +kernel
theorem dX7_ask_58 : decode cX7_ask 58 = .ok (.iconst 3, 1) := by decide +kernel
theorem dX7_ask_59 : decode cX7_ask 59 = .ok (.invokevirtual 107, 3) := by decide +kernel
theorem dX7_ask_62 : decode cX7_ask 62 = .ok (.ireturn, 1) := by decide +kernel
theorem dX7_ask_63 : decode cX7_ask 63 = .ok (.aload_n 0, 1) := by decide +kernel
theorem dX7_ask_64 : decode cX7_ask 64 = .ok (.iconst 0, 1) := by decide +kernel
theorem dX7_ask_65 : decode cX7_ask 65 = .ok (.putfield 89, 3) := by decide +kernel
theorem dX7_ask_68 : decode cX7_ask 68 = .ok (.aload_n 0, 1) := by decide +kernel
theorem dX7_ask_69 : decode cX7_ask 69 = .ok (.getfield 41, 3) := by decide +kernel
theorem dX7_ask_72 : decode cX7_ask 72 = .ok (.iconst 3, 1) := by decide +kernel
theorem dX7_ask_73 : decode cX7_ask 73 = .ok (.iload_n 1, 1) := by decide +kernel
theorem dX7_ask_74 : decode cX7_ask 74 = .ok (.imul, 1) := by decide +kernel
theorem dX7_ask_75 : decode cX7_ask 75 = .ok (.aload_n 0, 1) := by decide +kernel
theorem dX7_ask_76 : decode cX7_ask 76 = .ok (.getfield 38, 3) := by decide +kernel
theorem dX7_ask_79 : decode cX7_ask 79 = .ok (.iload_n 1, 1) := by decide +kernel
theorem dX7_ask_80 : decode cX7_ask 80 = .ok (.iaload, 1) := by decide +kernel
theorem dX7_ask_81 : decode cX7_ask 81 = .ok (.iadd, 1) := by decide +kernel
theorem dX7_ask_82 : decode cX7_ask 82 = .ok (.iload_n 2, 1) := by decide +kernel
theorem dX7_ask_83 : decode cX7_ask 83 = .ok (.iastore, 1) := by decide +kernel
theorem dX7_ask_84 : decode cX7_ask 84 = .ok (.aload_n 0, 1) := by decide +kernel
theorem dX7_ask_85 : decode cX7_ask 85 = .ok (.getfield 44, 3) := by decide +kernel
theorem dX7_ask_88 : decode cX7_ask 88 = .ok (.iconst 3, 1) := by decide +kernel
theorem dX7_ask_89 : decode cX7_ask 89 = .ok (.iload_n 1, 1) := by decide +kernel
theorem dX7_ask_90 : decode cX7_ask 90 = .ok (.imul, 1) := by decide +kernel
theorem dX7_ask_91 : decode cX7_ask 91 = .ok (.aload_n 0, 1) := by decide +kernel
theorem dX7_ask_92 : decode cX7_ask 92 = .ok (.getfield 38, 3) := by decide +kernel
theorem dX7_ask_95 : decode cX7_ask 95 = .ok (.iload_n 1, 1) := by decide +kernel
theorem dX7_ask_96 : decode cX7_ask 96 = .ok (.iaload, 1) := by decide +kernel
theorem dX7_ask_97 : decode cX7_ask 97 = .ok (.iadd, 1) := by decide +kernel
theorem dX7_ask_98 : decode cX7_ask 98 = .ok (.iload_n 3, 1) := by decide +kernel
theorem dX7_ask_99 : decode cX7_ask 99 = .ok (.iastore, 1) := by decide +kernel
theorem dX7_ask_100 : decode cX7_ask 100 = .ok (.aload_n 0, 1) := by decide +kernel
theorem dX7_ask_101 : decode cX7_ask 101 = .ok (.getfield 38, 3) := by decide +kernel
theorem dX7_ask_104 : decode cX7_ask 104 = .ok (.iload_n 1, 1) := by decide +kernel
theorem dX7_ask_105 : decode cX7_ask 105 = .ok (.dup2, 1) := by decide +kernel
theorem dX7_ask_106 : decode cX7_ask 106 = .ok (.iaload, 1) := by decide +kernel
theorem dX7_ask_107 : decode cX7_ask 107 = .ok (.iconst 1, 1) := by decide +kernel
theorem dX7_ask_108 : decode cX7_ask 108 = .ok (.iadd, 1) := by decide +kernel
theorem dX7_ask_109 : decode cX7_ask 109 = .ok (.dup_x2, 1) := by decide +kernel
theorem dX7_ask_110 : decode cX7_ask 110 = .ok (.iastore, 1) := by decide +kernel
theorem dX7_ask_111 : decode cX7_ask 111 = .ok (.ireturn, 1) := by decide +kernel
theorem dX7_raise_0 : decode cX7_raise 0 = .ok (.aload_n 0, 1) := by decide +kernel
theorem dX7_raise_1 : decode cX7_raise 1 = .ok (.iload_n 1, 1) := by decide +kernel
theorem dX7_raise_2 : decode cX7_raise 2 = .ok (.invokevirtual 124, 3) := by decide +kernel
theorem dX7_raise_5 : decode cX7_raise 5 = .ok (.ifCond .ne 9, 3) := by decide +kernel
theorem dX7_raise_8 : decode cX7_raise 8 = .ok (.aload_n 0, 1) := by decide +kernel
theorem dX7_raise_9 : decode cX7_raise 9 = .ok (.iconst 1, 1) := by decide +kernel
theorem dX7_raise_10 : decode cX7_raise 10 = .ok (.invokevirtual 107, 3) := by decide +kernel
theorem dX7_raise_13 : decode cX7_raise 13 = .ok (.ireturn, 1) := by decide +kernel
theorem dX7_raise_14 : decode cX7_raise 14 = .ok (.aload_n 0, 1) := by decide +kernel
theorem dX7_raise_15 : decode cX7_raise 15 = .ok (.getfield 26, 3) := by decide +kernel
theorem dX7_raise_18 : decode cX7_raise 18 = .ok (.iload_n 1, 1) := by decide +kernel
theorem dX7_raise_19 : decode cX7_raise 19 = .ok (.caload, 1) := by decide +kernel
theorem dX7_raise_20 : decode cX7_raise 20 = .ok (.bipush 111, 2) := by decide +kernel
theorem dX7_raise_22 : decode cX7_raise 22 = .ok (.if_icmp .eq 9, 3) := by decide +kernel
theorem dX7_raise_25 : decode cX7_raise 25 = .ok (.aload_n 0, 1) := by decide +kernel
theorem dX7_raise_26 : decode cX7_raise 26 = .ok (.iconst 2, 1) := by decide +kernel
theorem dX7_raise_27 : decode cX7_raise 27 = .ok (.invokevirtual 107, 3) := by decide +kernel
theorem dX7_raise_30 : decode cX7_raise 30 = .ok (.ireturn, 1) := by decide +kernel
theorem dX7_raise_31 : decode cX7_raise 31 = .ok (.iload_n 2, 1) := by decide +kernel
theorem dX7_raise_32 : decode cX7_raise 32 = .ok (.aload_n 0, 1) := by decide +kernel
theorem dX7_raise_33 : decode cX7_raise 33 = .ok (.getfield 35, 3) := by decide +kernel
theorem dX7_raise_36 : decode cX7_raise 36 = .ok (.iload_n 1, 1) := by decide +kernel
theorem dX7_raise_37 : decode cX7_raise 37 = .ok (.iaload, 1) := by decide +kernel
theorem dX7_raise_38 : decode cX7_raise 38 = .ok (.if_icmp .le 10, 3) := by decide +kernel
theorem dX7_raise_41 : decode cX7_raise 41 = .ok (.iload_n 2, 1) := by decide +kernel
theorem dX7_raise_42 : decode cX7_raise 42 = .ok (.sipush 9999, 3) := by decide +kernel
theorem dX7_raise_45 : decode cX7_raise 45 = .ok (.if_icmp .le 9, 3) := by decide +kernel
theorem dX7_raise_48 : decode cX7_raise 48 = .ok (.aload_n 0, 1) := by decide +kernel
theorem dX7_raise_49 : decode cX7_raise 49 = .ok (.iconst 3, 1) := by decide +kernel
theorem dX7_raise_50 : decode cX7_raise 50 = .ok (.invokevirtual 107, 3) := by decide +kernel
theorem dX7_raise_53 : decode cX7_raise 53 = .ok (.ireturn, 1) := by decide +kernel
theorem dX7_raise_54 : decode cX7_raise 54 = .ok (.aload_n 0, 1) := by decide +kernel
theorem dX7_raise_55 : decode cX7_raise 55 = .ok (.iconst 0, 1) := by decide +kernel
theorem dX7_raise_56 : decode cX7_raise 56 = .ok (.putfield 89, 3) := by decide +kernel
theorem dX7_raise_59 : decode cX7_raise 59 = .ok (.aload_n 0, 1) := by decide +kernel
theorem dX7_raise_60 : decode cX7_raise 60 = .ok (.getfield 35, 3) := by decide +kernel
theorem dX7_raise_63 : decode cX7_raise 63 = .ok (.iload_n 1, 1) := by decide +kernel
theorem dX7_raise_64 : decode cX7_raise 64 = .ok (.iaload, 1) := by decide +kernel
theorem dX7_raise_65 : decode cX7_raise 65 = .ok (.istore_n 3, 1) := by decide +kernel
theorem dX7_raise_66 : decode cX7_raise 66 = .ok (.aload_n 0, 1) := by decide +kernel
theorem dX7_raise_67 : decode cX7_raise 67 = .ok (.getfield 35, 3) := by decide +kernel
theorem dX7_raise_70 : decode cX7_raise 70 = .ok (.iload_n 1, 1) := by decide +kernel
theorem dX7_raise_71 : decode cX7_raise 71 = .ok (.iload_n 2, 1) := by decide +kernel
theorem dX7_raise_72 : decode cX7_raise 72 = .ok (.iastore, 1) := by decide +kernel
theorem dX7_raise_73 : decode cX7_raise 73 = .ok (.iload_n 3, 1) := by decide +kernel
theorem dX7_raise_74 : decode cX7_raise 74 = .ok (.ireturn, 1) := by decide +kernel
theorem dX7_cancel_0 : decode cX7_cancel 0 = .ok (.aload_n 0, 1) := by decide +kernel
theorem dX7_cancel_1 : decode cX7_cancel 1 = .ok (.iload_n 1, 1) := by decide +kernel
theorem dX7_cancel_2 : decode cX7_cancel 2 = .ok (.invokevirtual 124, 3) := by decide +kernel
theorem dX7_cancel_5 : decode cX7_cancel 5 = .ok (.ifCond .ne 9, 3) := by decide +kernel
theorem dX7_cancel_8 : decode cX7_cancel 8 = .ok (.aload_n 0, 1) := by decide +kernel
theorem dX7_cancel_9 : decode cX7_cancel 9 = .ok (.iconst 1, 1) := by decide +kernel
theorem dX7_cancel_10 : decode cX7_cancel 10 = .ok (.invokevirtual 107, 3) := by decide +kernel
theorem dX7_cancel_13 : decode cX7_cancel 13 = .ok (.ireturn, 1) := by decide +kernel
theorem dX7_cancel_14 : decode cX7_cancel 14 = .ok (.aload_n 0, 1) := by decide +kernel
theorem dX7_cancel_15 : decode cX7_cancel 15 = .ok (.getfield 26, 3) := by decide +kernel
theorem dX7_cancel_18 : decode cX7_cancel 18 = .ok (.iload_n 1, 1) := by decide +kernel
theorem dX7_cancel_19 : decode cX7_cancel 19 = .ok (.caload, 1) := by decide +kernel
theorem dX7_cancel_20 : decode cX7_cancel 20 = .ok (.bipush 111, 2) := by decide +kernel
theorem dX7_cancel_22 : decode cX7_cancel 22 = .ok (.if_icmp .eq 9, 3) := by decide +kernel
theorem dX7_cancel_25 : decode cX7_cancel 25 = .ok (.aload_n 0, 1) := by decide +kernel
theorem dX7_cancel_26 : decode cX7_cancel 26 = .ok (.iconst 2, 1) := by decide +kernel
theorem dX7_cancel_27 : decode cX7_cancel 27 = .ok (.invokevirtual 107, 3) := by decide +kernel
theorem dX7_cancel_30 : decode cX7_cancel 30 = .ok (.ireturn, 1) := by decide +kernel
theorem dX7_cancel_31 : decode cX7_cancel 31 = .ok (.aload_n 0, 1) := by decide +kernel
theorem dX7_cancel_32 : decode cX7_cancel 32 = .ok (.iconst 0, 1) := by decide +kernel
theorem dX7_cancel_33 : decode cX7_cancel 33 = .ok (.putfield 89, 3) := by decide +kernel
theorem dX7_cancel_36 : decode cX7_cancel 36 = .ok (.aload_n 0, 1) := by decide +kernel
theorem dX7_cancel_37 : decode cX7_cancel 37 = .ok (.getfield 26, 3) := by decide +kernel
theorem dX7_cancel_40 : decode cX7_cancel 40 = .ok (.iload_n 1, 1) := by decide +kernel
theorem dX7_cancel_41 : decode cX7_cancel 41 = .ok (.bipush 99, 2) := by decide +kernel
theorem dX7_cancel_43 : decode cX7_cancel 43 = .ok (.castore, 1) := by decide +kernel
theorem dX7_cancel_44 : decode cX7_cancel 44 = .ok (.aload_n 0, 1) := by decide +kernel
theorem dX7_cancel_45 : decode cX7_cancel 45 = .ok (.dup, 1) := by decide +kernel
theorem dX7_cancel_46 : decode cX7_cancel 46 = .ok (.getfield 121, 3) := by decide +kernel
theorem dX7_cancel_49 : decode cX7_cancel 49 = .ok (.iconst 1, 1) := by decide +kernel
theorem dX7_cancel_50 : decode cX7_cancel 50 = .ok (.isub, 1) := by decide +kernel
theorem dX7_cancel_51 : decode cX7_cancel 51 = .ok (.putfield 121, 3) := by decide +kernel
theorem dX7_cancel_54 : decode cX7_cancel 54 = .ok (.aload_n 0, 1) := by decide +kernel
theorem dX7_cancel_55 : decode cX7_cancel 55 = .ok (.getfield 35, 3) := by decide +kernel
theorem dX7_cancel_58 : decode cX7_cancel 58 = .ok (.iload_n 1, 1) := by decide +kernel
theorem dX7_cancel_59 : decode cX7_cancel 59 = .ok (.iaload, 1) := by decide +kernel
theorem dX7_cancel_60 : decode cX7_cancel 60 = .ok (.ireturn, 1) := by decide +kernel
theorem dX7_suits_0 : decode cX7_suits 0 = .ok (.aload_n 0, 1) := by decide +kernel
theorem dX7_suits_1 : decode cX7_suits 1 = .ok (.getfield 7, 3) := by decide +kernel
theorem dX7_suits_4 : decode cX7_suits 4 = .ok (.iload_n 1, 1) := by decide +kernel
theorem dX7_suits_5 : decode cX7_suits 5 = .ok (.iaload, 1) := by decide +kernel
theorem dX7_suits_6 : decode cX7_suits 6 = .ok (.aload_n 0, 1) := by decide +kernel
theorem dX7_suits_7 : decode cX7_suits 7 = .ok (.getfield 41, 3) := by decide +kernel
theorem dX7_suits_10 : decode cX7_suits 10 = .ok (.iload_n 2, 1) := by decide +kernel
theorem dX7_suits_11 : decode cX7_suits 11 = .ok (.iaload, 1) := by decide +kernel
theorem dX7_suits_12 : decode cX7_suits 12 = .ok (.if_icmp .ne 20, 3) := by decide +kernel
theorem dX7_suits_15 : decode cX7_suits 15 = .ok (.aload_n 0, 1) := by decide +kernel
theorem dX7_suits_16 : decode cX7_suits 16 = .ok (.getfield 13, 3) := by decide +kernel
theorem dX7_suits_19 : decode cX7_suits 19 = .ok (.iload_n 1, 1) := by decide +kernel
theorem dX7_suits_20 : decode cX7_suits 20 = .ok (.iaload, 1) := by decide +kernel
theorem dX7_suits_21 : decode cX7_suits 21 = .ok (.aload_n 0, 1) := by decide +kernel
theorem dX7_suits_22 : decode cX7_suits 22 = .ok (.getfield 44, 3) := by decide +kernel
theorem dX7_suits_25 : decode cX7_suits 25 = .ok (.iload_n 2, 1) := by decide +kernel
theorem dX7_suits_26 : decode cX7_suits 26 = .ok (.iaload, 1) := by decide +kernel
theorem dX7_suits_27 : decode cX7_suits 27 = .ok (.if_icmp .gt 5, 3) := by decide +kernel
theorem dX7_suits_30 : decode cX7_suits 30 = .ok (.iconst 1, 1) := by decide +kernel
theorem dX7_suits_31 : decode cX7_suits 31 = .ok (.ireturn, 1) := by decide +kernel
theorem dX7_suits_32 : decode cX7_suits 32 = .ok (.iconst 0, 1) := by decide +kernel
theorem dX7_suits_33 : decode cX7_suits 33 = .ok (.istore_n 3, 1) := by decide +kernel
theorem dX7_suits_34 : decode cX7_suits 34 = .ok (.iload_n 3, 1) := by decide +kernel
theorem dX7_suits_35 : decode cX7_suits 35 = .ok (.aload_n 0, 1) := by decide +kernel
theorem dX7_suits_36 : decode cX7_suits 36 = .ok (.getfield 118, 3) := by decide +kernel
theorem dX7_suits_39 : decode cX7_suits 39 = .ok (.if_icmp .ge 63, 3) := by decide +kernel
theorem dX7_suits_42 : decode cX7_suits 42 = .ok (.aload_n 0, 1) := by decide +kernel
theorem dX7_suits_43 : decode cX7_suits 43 = .ok (.getfield 56, 3) := by decide +kernel
theorem dX7_suits_46 : decode cX7_suits 46 = .ok (.iload_n 3, 1) := by decide +kernel
theorem dX7_suits_47 : decode cX7_suits 47 = .ok (.iaload, 1) := by decide +kernel
theorem dX7_suits_48 : decode cX7_suits 48 = .ok (.aload_n 0, 1) := by decide +kernel
theorem dX7_suits_49 : decode cX7_suits 49 = .ok (.getfield 41, 3) := by decide +kernel
theorem dX7_suits_52 : decode cX7_suits 52 = .ok (.iload_n 2, 1) := by decide +kernel
theorem dX7_suits_53 : decode cX7_suits 53 = .ok (.iaload, 1) := by decide +kernel
theorem dX7_suits_54 : decode cX7_suits 54 = .ok (.if_icmp .ne 42, 3) := by decide +kernel
theorem dX7_suits_57 : decode cX7_suits 57 = .ok (.aload_n 0, 1) := by decide +kernel
theorem dX7_suits_58 : decode cX7_suits 58 = .ok (.getfield 59, 3) := by decide +kernel
theorem dX7_suits_61 : decode cX7_suits 61 = .ok (.iload_n 3, 1) := by decide +kernel
theorem dX7_suits_62 : decode cX7_suits 62 = .ok (.iaload, 1) := by decide +kernel
theorem dX7_suits_63 : decode cX7_suits 63 = .ok (.aload_n 0, 1) := by decide +kernel
theorem dX7_suits_64 : decode cX7_suits 64 = .ok (.getfield 7, 3) := by decide +kernel
theorem dX7_suits_67 : decode cX7_suits 67 = .ok (.iload_n 1, 1) := by decide +kernel
theorem dX7_suits_68 : decode cX7_suits 68 = .ok (.iaload, 1) := by decide +kernel
theorem dX7_suits_69 : decode cX7_suits 69 = .ok (.if_icmp .ne 27, 3) := by decide +kernel
theorem dX7_suits_72 : decode cX7_suits 72 = .ok (.aload_n 0, 1) := by decide +kernel
theorem dX7_suits_73 : decode cX7_suits 73 = .ok (.getfield 13, 3) := by decide +kernel
theorem dX7_suits_76 : decode cX7_suits 76 = .ok (.iload_n 1, 1) := by decide +kernel
theorem dX7_suits_77 : decode cX7_suits 77 = .ok (.iaload, 1) := by decide +kernel
theorem dX7_suits_78 : decode cX7_suits 78 = .ok (.aload_n 0, 1) := by decide +kernel
theorem dX7_suits_79 : decode cX7_suits 79 = .ok (.getfield 62, 3) := by decide +kernel
theorem dX7_suits_82 : decode cX7_suits 82 = .ok (.iload_n 3, 1) := by decide +kernel
theorem dX7_suits_83 : decode cX7_suits 83 = .ok (.iaload, 1) := by decide +kernel
theorem dX7_suits_84 : decode cX7_suits 84 = .ok (.iadd, 1) := by decide +kernel
theorem dX7_suits_85 : decode cX7_suits 85 = .ok (.aload_n 0, 1) := by decide +kernel
theorem dX7_suits_86 : decode cX7_suits 86 = .ok (.getfield 44, 3) := by decide +kernel
theorem dX7_suits_89 : decode cX7_suits 89 = .ok (.iload_n 2, 1) := by decide +kernel
theorem dX7_suits_90 : decode cX7_suits 90 = .ok (.iaload, 1) := by decide +kernel
theorem dX7_suits_91 : decode cX7_suits 91 = .ok (.if_icmp .gt 5, 3) := by decide +kernel
theorem dX7_suits_94 : decode cX7_suits 94 = .ok (.iconst 1, 1) := by decide +kernel
theorem dX7_suits_95 : decode cX7_suits 95 = .ok (.ireturn, 1) := by decide +kernel
theorem dX7_suits_96 : decode cX7_suits 96 = .ok (.iinc 3 1, 3) := by decide +kernel
theorem dX7_suits_99 : decode cX7_suits 99 = .ok (.goto (-65), 3) := by decide +kernel
theorem dX7_suits_102 : decode cX7_suits 102 = .ok (.iconst 0, 1) := by decide +kernel
theorem dX7_suits_103 : decode cX7_suits 103 = .ok (.ireturn, 1) := by decide +kernel
theorem dX7_gather_0 : decode cX7_gather 0 = .ok (.iconst 0, 1) := by decide +kernel
theorem dX7_gather_1 : decode cX7_gather 1 = .ok (.istore_n 1, 1) := by decide +kernel
theorem dX7_gather_2 : decode cX7_gather 2 = .ok (.iconst 0, 1) := by decide +kernel
theorem dX7_gather_3 : decode cX7_gather 3 = .ok (.istore_n 2, 1) := by decide +kernel
theorem dX7_gather_4 : decode cX7_gather 4 = .ok (.iload_n 2, 1) := by decide +kernel
theorem dX7_gather_5 : decode cX7_gather 5 = .ok (.aload_n 0, 1) := by decide +kernel
theorem dX7_gather_6 : decode cX7_gather 6 = .ok (.getfield 93, 3) := by decide +kernel
theorem dX7_gather_9 : decode cX7_gather 9 = .ok (.if_icmp .ge 30, 3) := by decide +kernel
theorem dX7_gather_12 : decode cX7_gather 12 = .ok (.aload_n 0, 1) := by decide +kernel
theorem dX7_gather_13 : decode cX7_gather 13 = .ok (.getfield 22, 3) := by decide +kernel
theorem dX7_gather_16 : decode cX7_gather 16 = .ok (.iload_n 2, 1) := by decide +kernel
theorem dX7_gather_17 : decode cX7_gather 17 = .ok (.caload, 1) := by decide +kernel
theorem dX7_gather_18 : decode cX7_gather 18 = .ok (.bipush 111, 2) := by decide +kernel
theorem dX7_gather_20 : decode cX7_gather 20 = .ok (.if_icmp .ne 13, 3) := by decide +kernel
theorem dX7_gather_23 : decode cX7_gather 23 = .ok (.aload_n 0, 1) := by decide +kernel
theorem dX7_gather_24 : decode cX7_gather 24 = .ok (.getfield 65, 3) := by decide +kernel
theorem dX7_gather_27 : decode cX7_gather 27 = .ok (.iload_n 1, 1) := by decide +kernel
theorem dX7_gather_28 : decode cX7_gather 28 = .ok (.iinc 1 1, 3) := by decide +kernel
theorem dX7_gather_31 : decode cX7_gather 31 = .ok (.iload_n 2, 1) := by decide +kernel
theorem dX7_gather_32 : decode cX7_gather 32 = .ok (.iastore, 1) := by decide +kernel
theorem dX7_gather_33 : decode cX7_gather 33 = .ok (.iinc 2 1, 3) := by decide +kernel
theorem dX7_gather_36 : decode cX7_gather 36 = .ok (.goto (-32), 3) := by decide +kernel
theorem dX7_gather_39 : decode cX7_gather 39 = .ok (.iconst 0, 1) := by decide +kernel
theorem dX7_gather_40 : decode cX7_gather 40 = .ok (.istore_n 1, 1) := by decide +kernel
theorem dX7_gather_41 : decode cX7_gather 41 = .ok (.iconst 0, 1) := by decide +kernel
theorem dX7_gather_42 : decode cX7_gather 42 = .ok (.istore_n 2, 1) := by decide +kernel
theorem dX7_gather_43 : decode cX7_gather 43 = .ok (.iload_n 2, 1) := by decide +kernel
theorem dX7_gather_44 : decode cX7_gather 44 = .ok (.aload_n 0, 1) := by decide +kernel
theorem dX7_gather_45 : decode cX7_gather 45 = .ok (.getfield 100, 3) := by decide +kernel
theorem dX7_gather_48 : decode cX7_gather 48 = .ok (.if_icmp .ge 30, 3) := by decide +kernel
theorem dX7_gather_51 : decode cX7_gather 51 = .ok (.aload_n 0, 1) := by decide +kernel
theorem dX7_gather_52 : decode cX7_gather 52 = .ok (.getfield 26, 3) := by decide +kernel
theorem dX7_gather_55 : decode cX7_gather 55 = .ok (.iload_n 2, 1) := by decide +kernel
theorem dX7_gather_56 : decode cX7_gather 56 = .ok (.caload, 1) := by decide +kernel
theorem dX7_gather_57 : decode cX7_gather 57 = .ok (.bipush 111, 2) := by decide +kernel
theorem dX7_gather_59 : decode cX7_gather 59 = .ok (.if_icmp .ne 13, 3) := by decide +kernel
theorem dX7_gather_62 : decode cX7_gather 62 = .ok (.aload_n 0, 1) := by decide +kernel
theorem dX7_gather_63 : decode cX7_gather 63 = .ok (.getfield 68, 3) := by decide +kernel
theorem dX7_gather_66 : decode cX7_gather 66 = .ok (.iload_n 1, 1) := by decide +kernel
theorem dX7_gather_67 : decode cX7_gather 67 = .ok (.iinc 1 1, 3) := by decide +kernel
theorem dX7_gather_70 : decode cX7_gather 70 = .ok (.iload_n 2, 1) := by decide +kernel
theorem dX7_gather_71 : decode cX7_gather 71 = .ok (.iastore, 1) := by decide +kernel
theorem dX7_gather_72 : decode cX7_gather 72 = .ok (.iinc 2 1, 3) := by decide +kernel
theorem dX7_gather_75 : decode cX7_gather 75 = .ok (.goto (-32), 3) := by decide +kernel
theorem dX7_gather_78 : decode cX7_gather 78 = .ok (.return_, 1) := by decide +kernel
theorem dX7_adds_0 : decode cX7_adds 0 = .ok (.iconst 0, 1) := by decide +kernel
theorem dX7_adds_1 : decode cX7_adds 1 = .ok (.istore_n 3, 1) := by decide +kernel
theorem dX7_adds_2 : decode cX7_adds 2 = .ok (.iload_n 3, 1) := by decide +kernel
theorem dX7_adds_3 : decode cX7_adds 3 = .ok (.sipush 256, 3) := by decide +kernel
theorem dX7_adds_6 : decode cX7_adds 6 = .ok (.if_icmp .ge 37, 3) := by decide +kernel
theorem dX7_adds_9 : decode cX7_adds 9 = .ok (.aload_n 0, 1) := by decide +kernel
theorem dX7_adds_10 : decode cX7_adds 10 = .ok (.getfield 74, 3) := by decide +kernel
theorem dX7_adds_13 : decode cX7_adds 13 = .ok (.sipush 256, 3) := by decide +kernel
theorem dX7_adds_16 : decode cX7_adds 16 = .ok (.iload_n 2, 1) := by decide +kernel
theorem dX7_adds_17 : decode cX7_adds 17 = .ok (.imul, 1) := by decide +kernel
theorem dX7_adds_18 : decode cX7_adds 18 = .ok (.sipush 256, 3) := by decide +kernel
theorem dX7_adds_21 : decode cX7_adds 21 = .ok (.iadd, 1) := by decide +kernel
theorem dX7_adds_22 : decode cX7_adds 22 = .ok (.iload_n 3, 1) := by decide +kernel
theorem dX7_adds_23 : decode cX7_adds 23 = .ok (.iadd, 1) := by decide +kernel
theorem dX7_adds_24 : decode cX7_adds 24 = .ok (.aload_n 0, 1) := by decide +kernel
theorem dX7_adds_25 : decode cX7_adds 25 = .ok (.getfield 74, 3) := by decide +kernel
theorem dX7_adds_28 : decode cX7_adds 28 = .ok (.sipush 256, 3) := by decide +kernel
theorem dX7_adds_31 : decode cX7_adds 31 = .ok (.iload_n 2, 1) := by decide +kernel
theorem dX7_adds_32 : decode cX7_adds 32 = .ok (.imul, 1) := by decide +kernel
theorem dX7_adds_33 : decode cX7_adds 33 = .ok (.iload_n 3, 1) := by decide +kernel
theorem dX7_adds_34 : decode cX7_adds 34 = .ok (.iadd, 1) := by decide +kernel
theorem dX7_adds_35 : decode cX7_adds 35 = .ok (.iaload, 1) := by decide +kernel
theorem dX7_adds_36 : decode cX7_adds 36 = .ok (.iastore, 1) := by decide +kernel
theorem dX7_adds_37 : decode cX7_adds 37 = .ok (.iinc 3 1, 3) := by decide +kernel
theorem dX7_adds_40 : decode cX7_adds 40 = .ok (.goto (-38), 3) := by decide +kernel
theorem dX7_adds_43 : decode cX7_adds 43 = .ok (.iconst 1, 1) := by decide +kernel
theorem dX7_adds_44 : decode cX7_adds 44 = .ok (.istore_n 3, 1) := by decide +kernel
theorem dX7_adds_45 : decode cX7_adds 45 = .ok (.iconst 0, 1) := by decide +kernel
theorem dX7_adds_46 : decode cX7_adds 46 = .ok (.istore 4, 2) := by decide +kernel
theorem dX7_adds_48 : decode cX7_adds 48 = .ok (.iload 4, 2) := by decide +kernel
theorem dX7_adds_50 : decode cX7_adds 50 = .ok (.aload_n 0, 1) := by decide +kernel
theorem dX7_adds_51 : decode cX7_adds 51 = .ok (.getfield 38, 3) := by decide +kernel
theorem dX7_adds_54 : decode cX7_adds 54 = .ok (.iload_n 1, 1) := by decide +kernel
theorem dX7_adds_55 : decode cX7_adds 55 = .ok (.iaload, 1) := by decide +kernel
theorem dX7_adds_56 : decode cX7_adds 56 = .ok (.if_icmp .ge 223, 3) := by decide +kernel
theorem dX7_adds_59 : decode cX7_adds 59 = .ok (.iload_n 3, 1) := by decide +kernel
theorem dX7_adds_60 : decode cX7_adds 60 = .ok (.ifCond .eq 219, 3) := by decide +kernel
theorem dX7_adds_63 : decode cX7_adds 63 = .ok (.iconst 0, 1) := by decide +kernel
theorem dX7_adds_64 : decode cX7_adds 64 = .ok (.istore_n 3, 1) := by decide +kernel
theorem dX7_adds_65 : decode cX7_adds 65 = .ok (.iconst 0, 1) := by decide +kernel
theorem dX7_adds_66 : decode cX7_adds 66 = .ok (.istore 5, 2) := by decide +kernel
theorem dX7_adds_68 : decode cX7_adds 68 = .ok (.iload 5, 2) := by decide +kernel
theorem dX7_adds_70 : decode cX7_adds 70 = .ok (.sipush 256, 3) := by decide +kernel
theorem dX7_adds_73 : decode cX7_adds 73 = .ok (.if_icmp .ge 52, 3) := by decide +kernel
theorem dX7_adds_76 : decode cX7_adds 76 = .ok (.aload_n 0, 1) := by decide +kernel
theorem dX7_adds_77 : decode cX7_adds 77 = .ok (.getfield 77, 3) := by decide +kernel
theorem dX7_adds_80 : decode cX7_adds 80 = .ok (.iload 5, 2) := by decide +kernel
theorem dX7_adds_82 : decode cX7_adds 82 = .ok (.aload_n 0, 1) := by decide +kernel
theorem dX7_adds_83 : decode cX7_adds 83 = .ok (.getfield 74, 3) := by decide +kernel
theorem dX7_adds_86 : decode cX7_adds 86 = .ok (.sipush 256, 3) := by decide +kernel
theorem dX7_adds_89 : decode cX7_adds 89 = .ok (.iload_n 2, 1) := by decide +kernel
theorem dX7_adds_90 : decode cX7_adds 90 = .ok (.imul, 1) := by decide +kernel
theorem dX7_adds_91 : decode cX7_adds 91 = .ok (.sipush 256, 3) := by decide +kernel
theorem dX7_adds_94 : decode cX7_adds 94 = .ok (.iadd, 1) := by decide +kernel
theorem dX7_adds_95 : decode cX7_adds 95 = .ok (.iload 5, 2) := by decide +kernel
theorem dX7_adds_97 : decode cX7_adds 97 = .ok (.iadd, 1) := by decide +kernel
theorem dX7_adds_98 : decode cX7_adds 98 = .ok (.iaload, 1) := by decide +kernel
theorem dX7_adds_99 : decode cX7_adds 99 = .ok (.iastore, 1) := by decide +kernel
theorem dX7_adds_100 : decode cX7_adds 100 = .ok (.aload_n 0, 1) := by decide +kernel
theorem dX7_adds_101 : decode cX7_adds 101 = .ok (.getfield 74, 3) := by decide +kernel
theorem dX7_adds_104 : decode cX7_adds 104 = .ok (.sipush 256, 3) := by decide +kernel
theorem dX7_adds_107 : decode cX7_adds 107 = .ok (.iload_n 2, 1) := by decide +kernel
theorem dX7_adds_108 : decode cX7_adds 108 = .ok (.imul, 1) := by decide +kernel
theorem dX7_adds_109 : decode cX7_adds 109 = .ok (.sipush 256, 3) := by decide +kernel
theorem dX7_adds_112 : decode cX7_adds 112 = .ok (.iadd, 1) := by decide +kernel
theorem dX7_adds_113 : decode cX7_adds 113 = .ok (.iload 5, 2) := by decide +kernel
theorem dX7_adds_115 : decode cX7_adds 115 = .ok (.iadd, 1) := by decide +kernel
theorem dX7_adds_116 : decode cX7_adds 116 = .ok (.ldc 127, 2) := by decide +kernel
theorem dX7_adds_118 : decode cX7_adds 118 = .ok (.iastore, 1) := by decide +kernel
theorem dX7_adds_119 : decode cX7_adds 119 = .ok (.iinc 5 1, 3) := by decide +kernel
theorem dX7_adds_122 : decode cX7_adds 122 = .ok (.goto (-54), 3) := by decide +kernel
theorem dX7_adds_125 : decode cX7_adds 125 = .ok (.iconst 0, 1) := by decide +kernel
theorem dX7_adds_126 : decode cX7_adds 126 = .ok (.istore 5, 2) := by decide +kernel
theorem dX7_adds_128 : decode cX7_adds 128 = .ok (.iload 5, 2) := by decide +kernel
theorem dX7_adds_130 : decode cX7_adds 130 = .ok (.aload_n 0, 1) := by decide +kernel
theorem dX7_adds_131 : decode cX7_adds 131 = .ok (.getfield 111, 3) := by decide +kernel
theorem dX7_adds_134 : decode cX7_adds 134 = .ok (.if_icmp .ge 139, 3) := by decide +kernel
theorem dX7_adds_137 : decode cX7_adds 137 = .ok (.aload_n 0, 1) := by decide +kernel
theorem dX7_adds_138 : decode cX7_adds 138 = .ok (.aload_n 0, 1) := by decide +kernel
theorem dX7_adds_139 : decode cX7_adds 139 = .ok (.getfield 65, 3) := by decide +kernel
theorem dX7_adds_142 : decode cX7_adds 142 = .ok (.iload 5, 2) := by decide +kernel
theorem dX7_adds_144 : decode cX7_adds 144 = .ok (.iaload, 1) := by decide +kernel
theorem dX7_adds_145 : decode cX7_adds 145 = .ok (.iconst 3, 1) := by decide +kernel
theorem dX7_adds_146 : decode cX7_adds 146 = .ok (.iload_n 1, 1) := by decide +kernel
theorem dX7_adds_147 : decode cX7_adds 147 = .ok (.imul, 1) := by decide +kernel
theorem dX7_adds_148 : decode cX7_adds 148 = .ok (.iload 4, 2) := by decide +kernel
theorem dX7_adds_150 : decode cX7_adds 150 = .ok (.iadd, 1) := by decide +kernel
theorem dX7_adds_151 : decode cX7_adds 151 = .ok (.invokevirtual 128, 3) := by decide +kernel
theorem dX7_adds_154 : decode cX7_adds 154 = .ok (.ifCond .ne 6, 3) := by decide +kernel
theorem dX7_adds_157 : decode cX7_adds 157 = .ok (.goto 110, 3) := by decide +kernel
theorem dX7_adds_160 : decode cX7_adds 160 = .ok (.iconst 0, 1) := by decide +kernel
theorem dX7_adds_161 : decode cX7_adds 161 = .ok (.istore 6, 2) := by decide +kernel
theorem dX7_adds_163 : decode cX7_adds 163 = .ok (.iload 6, 2) := by decide +kernel
theorem dX7_adds_165 : decode cX7_adds 165 = .ok (.sipush 256, 3) := by decide +kernel
theorem dX7_adds_168 : decode cX7_adds 168 = .ok (.if_icmp .ge 99, 3) := by decide +kernel
theorem dX7_adds_171 : decode cX7_adds 171 = .ok (.aload_n 0, 1) := by decide +kernel
theorem dX7_adds_172 : decode cX7_adds 172 = .ok (.getfield 77, 3) := by decide +kernel
theorem dX7_adds_175 : decode cX7_adds 175 = .ok (.iload 6, 2) := by decide +kernel
theorem dX7_adds_177 : decode cX7_adds 177 = .ok (.iaload, 1) := by decide +kernel
theorem dX7_adds_178 : decode cX7_adds 178 = .ok (.ldc 127, 2) := by decide +kernel
theorem dX7_adds_180 : decode cX7_adds 180 = .ok (.if_icmp .eq 81, 3) := by decide +kernel
theorem dX7_adds_183 : decode cX7_adds 183 = .ok (.iload 6, 2) := by decide +kernel
theorem dX7_adds_185 : decode cX7_adds 185 = .ok (.iload 5, 2) := by decide +kernel
theorem dX7_adds_187 : decode cX7_adds 187 = .ok (.ishr, 1) := by decide +kernel
theorem dX7_adds_188 : decode cX7_adds 188 = .ok (.iconst 1, 1) := by decide +kernel
theorem dX7_adds_189 : decode cX7_adds 189 = .ok (.iand, 1) := by decide +kernel
theorem dX7_adds_190 : decode cX7_adds 190 = .ok (.iconst 1, 1) := by decide +kernel
theorem dX7_adds_191 : decode cX7_adds 191 = .ok (.if_icmp .ne 6, 3) := by decide +kernel
theorem dX7_adds_194 : decode cX7_adds 194 = .ok (.goto 67, 3) := by decide +kernel
theorem dX7_adds_197 : decode cX7_adds 197 = .ok (.aload_n 0, 1) := by decide +kernel
theorem dX7_adds_198 : decode cX7_adds 198 = .ok (.getfield 77, 3) := by decide +kernel
theorem dX7_adds_201 : decode cX7_adds 201 = .ok (.iload 6, 2) := by decide +kernel
theorem dX7_adds_203 : decode cX7_adds 203 = .ok (.iaload, 1) := by decide +kernel
theorem dX7_adds_204 : decode cX7_adds 204 = .ok (.aload_n 0, 1) := by decide +kernel
theorem dX7_adds_205 : decode cX7_adds 205 = .ok (.getfield 16, 3) := by decide +kernel
theorem dX7_adds_208 : decode cX7_adds 208 = .ok (.aload_n 0, 1) := by decide +kernel
theorem dX7_adds_209 : decode cX7_adds 209 = .ok (.getfield 65, 3) := by decide +kernel
theorem dX7_adds_212 : decode cX7_adds 212 = .ok (.iload 5, 2) := by decide +kernel
theorem dX7_adds_214 : decode cX7_adds 214 = .ok (.iaload, 1) := by decide +kernel
theorem dX7_adds_215 : decode cX7_adds 215 = .ok (.iaload, 1) := by decide +kernel
theorem dX7_adds_216 : decode cX7_adds 216 = .ok (.iadd, 1) := by decide +kernel
theorem dX7_adds_217 : decode cX7_adds 217 = .ok (.istore 7, 2) := by decide +kernel
theorem dX7_adds_219 : decode cX7_adds 219 = .ok (.sipush 256, 3) := by decide +kernel
theorem dX7_adds_222 : decode cX7_adds 222 = .ok (.iload_n 2, 1) := by decide +kernel
theorem dX7_adds_223 : decode cX7_adds 223 = .ok (.imul, 1) := by decide +kernel
theorem dX7_adds_224 : decode cX7_adds 224 = .ok (.sipush 256, 3) := by decide +kernel
theorem dX7_adds_227 : decode cX7_adds 227 = .ok (.iadd, 1) := by decide +kernel
theorem dX7_adds_228 : decode cX7_adds 228 = .ok (.iload 6, 2) := by decide +kernel
theorem dX7_adds_230 : decode cX7_adds 230 = .ok (.iconst 1, 1) := by decide +kernel
theorem dX7_adds_231 : decode cX7_adds 231 = .ok (.iload 5, 2) := by decide +kernel
theorem dX7_adds_233 : decode cX7_adds 233 = .ok (.ishl, 1) := by decide +kernel
theorem dX7_adds_234 : decode cX7_adds 234 = .ok (.ior, 1) := by decide +kernel
theorem dX7_adds_235 : decode cX7_adds 235 = .ok (.iadd, 1) := by decide +kernel
theorem dX7_adds_236 : decode cX7_adds 236 = .ok (.istore 8, 2) := by decide +kernel
theorem dX7_adds_238 : decode cX7_adds 238 = .ok (.iload 7, 2) := by decide +kernel
theorem dX7_adds_240 : decode cX7_adds 240 = .ok (.aload_n 0, 1) := by decide +kernel
theorem dX7_adds_241 : decode cX7_adds 241 = .ok (.getfield 74, 3) := by decide +kernel
theorem dX7_adds_244 : decode cX7_adds 244 = .ok (.iload 8, 2) := by decide +kernel
theorem dX7_adds_246 : decode cX7_adds 246 = .ok (.iaload, 1) := by decide +kernel
theorem dX7_adds_247 : decode cX7_adds 247 = .ok (.if_icmp .ge 12, 3) := by decide +kernel
theorem dX7_adds_250 : decode cX7_adds 250 = .ok (.aload_n 0, 1) := by decide +kernel
theorem dX7_adds_251 : decode cX7_adds 251 = .ok (.getfield 74, 3) := by decide +kernel
theorem dX7_adds_254 : decode cX7_adds 254 = .ok (.iload 8, 2) := by decide +kernel
theorem dX7_adds_256 : decode cX7_adds 256 = .ok (.iload 7, 2) := by decide +kernel
theorem dX7_adds_258 : decode cX7_adds 258 = .ok (.iastore, 1) := by decide +kernel
theorem dX7_adds_259 : decode cX7_adds 259 = .ok (.iconst 1, 1) := by decide +kernel
theorem dX7_adds_260 : decode cX7_adds 260 = .ok (.istore_n 3, 1) := by decide +kernel
theorem dX7_adds_261 : decode cX7_adds 261 = .ok (.iinc 6 1, 3) := by decide +kernel
theorem dX7_adds_264 : decode cX7_adds 264 = .ok (.goto (-101), 3) := by decide +kernel
theorem dX7_adds_267 : decode cX7_adds 267 = .ok (.iinc 5 1, 3) := by decide +kernel
theorem dX7_adds_270 : decode cX7_adds 270 = .ok (.goto (-142), 3) := by decide +kernel
theorem dX7_adds_273 : decode cX7_adds 273 = .ok (.iinc 4 1, 3) := by decide +kernel
theorem dX7_adds_276 : decode cX7_adds 276 = .ok (.goto (-228), 3) := by decide +kernel
theorem dX7_adds_279 : decode cX7_adds 279 = .ok (.iload_n 3, 1) := by decide +kernel
theorem dX7_adds_280 : decode cX7_adds 280 = .ok (.ireturn, 1) := by decide +kernel
theorem dX7_least_0 : decode cX7_least 0 = .ok (.ldc 127, 2) := by decide +kernel
theorem dX7_least_2 : decode cX7_least 2 = .ok (.istore_n 2, 1) := by decide +kernel
theorem dX7_least_3 : decode cX7_least 3 = .ok (.iconst 0, 1) := by decide +kernel
theorem dX7_least_4 : decode cX7_least 4 = .ok (.istore_n 3, 1) := by decide +kernel
theorem dX7_least_5 : decode cX7_least 5 = .ok (.iload_n 3, 1) := by decide +kernel
theorem dX7_least_6 : decode cX7_least 6 = .ok (.sipush 256, 3) := by decide +kernel
theorem dX7_least_9 : decode cX7_least 9 = .ok (.if_icmp .ge 38, 3) := by decide +kernel
theorem dX7_least_12 : decode cX7_least 12 = .ok (.aload_n 0, 1) := by decide +kernel
theorem dX7_least_13 : decode cX7_least 13 = .ok (.getfield 74, 3) := by decide +kernel
theorem dX7_least_16 : decode cX7_least 16 = .ok (.sipush 256, 3) := by decide +kernel
theorem dX7_least_19 : decode cX7_least 19 = .ok (.iload_n 1, 1) := by decide +kernel
theorem dX7_least_20 : decode cX7_least 20 = .ok (.imul, 1) := by decide +kernel
theorem dX7_least_21 : decode cX7_least 21 = .ok (.iload_n 3, 1) := by decide +kernel
theorem dX7_least_22 : decode cX7_least 22 = .ok (.iadd, 1) := by decide +kernel
theorem dX7_least_23 : decode cX7_least 23 = .ok (.iaload, 1) := by decide +kernel
theorem dX7_least_24 : decode cX7_least 24 = .ok (.iload_n 2, 1) := by decide +kernel
theorem dX7_least_25 : decode cX7_least 25 = .ok (.if_icmp .ge 16, 3) := by decide +kernel
theorem dX7_least_28 : decode cX7_least 28 = .ok (.aload_n 0, 1) := by decide +kernel
theorem dX7_least_29 : decode cX7_least 29 = .ok (.getfield 74, 3) := by decide +kernel
theorem dX7_least_32 : decode cX7_least 32 = .ok (.sipush 256, 3) := by decide +kernel
theorem dX7_least_35 : decode cX7_least 35 = .ok (.iload_n 1, 1) := by decide +kernel
theorem dX7_least_36 : decode cX7_least 36 = .ok (.imul, 1) := by decide +kernel
theorem dX7_least_37 : decode cX7_least 37 = .ok (.iload_n 3, 1) := by decide +kernel
theorem dX7_least_38 : decode cX7_least 38 = .ok (.iadd, 1) := by decide +kernel
theorem dX7_least_39 : decode cX7_least 39 = .ok (.iaload, 1) := by decide +kernel
theorem dX7_least_40 : decode cX7_least 40 = .ok (.istore_n 2, 1) := by decide +kernel
theorem dX7_least_41 : decode cX7_least 41 = .ok (.iinc 3 1, 3) := by decide +kernel
theorem dX7_least_44 : decode cX7_least 44 = .ok (.goto (-39), 3) := by decide +kernel
theorem dX7_least_47 : decode cX7_least 47 = .ok (.iload_n 2, 1) := by decide +kernel
theorem dX7_least_48 : decode cX7_least 48 = .ok (.ireturn, 1) := by decide +kernel
theorem dX7_walk_0 : decode cX7_walk 0 = .ok (.iload_n 1, 1) := by decide +kernel
theorem dX7_walk_1 : decode cX7_walk 1 = .ok (.istore 6, 2) := by decide +kernel
theorem dX7_walk_3 : decode cX7_walk 3 = .ok (.iload 6, 2) := by decide +kernel
theorem dX7_walk_5 : decode cX7_walk 5 = .ok (.aload_n 0, 1) := by decide +kernel
theorem dX7_walk_6 : decode cX7_walk 6 = .ok (.getfield 121, 3) := by decide +kernel
theorem dX7_walk_9 : decode cX7_walk 9 = .ok (.if_icmp .ge 125, 3) := by decide +kernel
theorem dX7_walk_12 : decode cX7_walk 12 = .ok (.aload_n 0, 1) := by decide +kernel
theorem dX7_walk_13 : decode cX7_walk 13 = .ok (.getfield 68, 3) := by decide +kernel
theorem dX7_walk_16 : decode cX7_walk 16 = .ok (.iload 6, 2) := by decide +kernel
theorem dX7_walk_18 : decode cX7_walk 18 = .ok (.iaload, 1) := by decide +kernel
theorem dX7_walk_19 : decode cX7_walk 19 = .ok (.istore 7, 2) := by decide +kernel
theorem dX7_walk_21 : decode cX7_walk 21 = .ok (.aload_n 0, 1) := by decide +kernel
theorem dX7_walk_22 : decode cX7_walk 22 = .ok (.getfield 38, 3) := by decide +kernel
theorem dX7_walk_25 : decode cX7_walk 25 = .ok (.iload 7, 2) := by decide +kernel
theorem dX7_walk_27 : decode cX7_walk 27 = .ok (.iaload, 1) := by decide +kernel
theorem dX7_walk_28 : decode cX7_walk 28 = .ok (.ifCond .eq 100, 3) := by decide +kernel
theorem dX7_walk_31 : decode cX7_walk 31 = .ok (.iload 5, 2) := by decide +kernel
theorem dX7_walk_33 : decode cX7_walk 33 = .ok (.aload_n 0, 1) := by decide +kernel
theorem dX7_walk_34 : decode cX7_walk 34 = .ok (.getfield 32, 3) := by decide +kernel
theorem dX7_walk_37 : decode cX7_walk 37 = .ok (.iload 7, 2) := by decide +kernel
theorem dX7_walk_39 : decode cX7_walk 39 = .ok (.iaload, 1) := by decide +kernel
theorem dX7_walk_40 : decode cX7_walk 40 = .ok (.ishr, 1) := by decide +kernel
theorem dX7_walk_41 : decode cX7_walk 41 = .ok (.iconst 1, 1) := by decide +kernel
theorem dX7_walk_42 : decode cX7_walk 42 = .ok (.iand, 1) := by decide +kernel
theorem dX7_walk_43 : decode cX7_walk 43 = .ok (.iconst 1, 1) := by decide +kernel
theorem dX7_walk_44 : decode cX7_walk 44 = .ok (.if_icmp .eq 84, 3) := by decide +kernel
theorem dX7_walk_47 : decode cX7_walk 47 = .ok (.aload_n 0, 1) := by decide +kernel
theorem dX7_walk_48 : decode cX7_walk 48 = .ok (.iload 7, 2) := by decide +kernel
theorem dX7_walk_50 : decode cX7_walk 50 = .ok (.iload_n 3, 1) := by decide +kernel
theorem dX7_walk_51 : decode cX7_walk 51 = .ok (.invokevirtual 132, 3) := by decide +kernel
theorem dX7_walk_54 : decode cX7_walk 54 = .ok (.ifCond .ne 6, 3) := by decide +kernel
theorem dX7_walk_57 : decode cX7_walk 57 = .ok (.goto 71, 3) := by decide +kernel
theorem dX7_walk_60 : decode cX7_walk 60 = .ok (.aload_n 0, 1) := by decide +kernel
theorem dX7_walk_61 : decode cX7_walk 61 = .ok (.getfield 71, 3) := by decide +kernel
theorem dX7_walk_64 : decode cX7_walk 64 = .ok (.iload_n 2, 1) := by decide +kernel
theorem dX7_walk_65 : decode cX7_walk 65 = .ok (.iconst 1, 1) := by decide +kernel
theorem dX7_walk_66 : decode cX7_walk 66 = .ok (.iload 6, 2) := by decide +kernel
theorem dX7_walk_68 : decode cX7_walk 68 = .ok (.ishl, 1) := by decide +kernel
theorem dX7_walk_69 : decode cX7_walk 69 = .ok (.ior, 1) := by decide +kernel
theorem dX7_walk_70 : decode cX7_walk 70 = .ok (.iload 4, 2) := by decide +kernel
theorem dX7_walk_72 : decode cX7_walk 72 = .ok (.aload_n 0, 1) := by decide +kernel
theorem dX7_walk_73 : decode cX7_walk 73 = .ok (.getfield 35, 3) := by decide +kernel
theorem dX7_walk_76 : decode cX7_walk 76 = .ok (.iload 7, 2) := by decide +kernel
theorem dX7_walk_78 : decode cX7_walk 78 = .ok (.iaload, 1) := by decide +kernel
theorem dX7_walk_79 : decode cX7_walk 79 = .ok (.iadd, 1) := by decide +kernel
theorem dX7_walk_80 : decode cX7_walk 80 = .ok (.aload_n 0, 1) := by decide +kernel
theorem dX7_walk_81 : decode cX7_walk 81 = .ok (.iload_n 3, 1) := by decide +kernel
theorem dX7_walk_82 : decode cX7_walk 82 = .ok (.iconst 1, 1) := by decide +kernel
theorem dX7_walk_83 : decode cX7_walk 83 = .ok (.iadd, 1) := by decide +kernel
theorem dX7_walk_84 : decode cX7_walk 84 = .ok (.invokevirtual 135, 3) := by decide +kernel
theorem dX7_walk_87 : decode cX7_walk 87 = .ok (.isub, 1) := by decide +kernel
theorem dX7_walk_88 : decode cX7_walk 88 = .ok (.iastore, 1) := by decide +kernel
theorem dX7_walk_89 : decode cX7_walk 89 = .ok (.aload_n 0, 1) := by decide +kernel
theorem dX7_walk_90 : decode cX7_walk 90 = .ok (.iload 6, 2) := by decide +kernel
theorem dX7_walk_92 : decode cX7_walk 92 = .ok (.iconst 1, 1) := by decide +kernel
theorem dX7_walk_93 : decode cX7_walk 93 = .ok (.iadd, 1) := by decide +kernel
theorem dX7_walk_94 : decode cX7_walk 94 = .ok (.iload_n 2, 1) := by decide +kernel
theorem dX7_walk_95 : decode cX7_walk 95 = .ok (.iconst 1, 1) := by decide +kernel
theorem dX7_walk_96 : decode cX7_walk 96 = .ok (.iload 6, 2) := by decide +kernel
theorem dX7_walk_98 : decode cX7_walk 98 = .ok (.ishl, 1) := by decide +kernel
theorem dX7_walk_99 : decode cX7_walk 99 = .ok (.ior, 1) := by decide +kernel
theorem dX7_walk_100 : decode cX7_walk 100 = .ok (.iload_n 3, 1) := by decide +kernel
theorem dX7_walk_101 : decode cX7_walk 101 = .ok (.iconst 1, 1) := by decide +kernel
theorem dX7_walk_102 : decode cX7_walk 102 = .ok (.iadd, 1) := by decide +kernel
theorem dX7_walk_103 : decode cX7_walk 103 = .ok (.iload 4, 2) := by decide +kernel
theorem dX7_walk_105 : decode cX7_walk 105 = .ok (.aload_n 0, 1) := by decide +kernel
theorem dX7_walk_106 : decode cX7_walk 106 = .ok (.getfield 35, 3) := by decide +kernel
theorem dX7_walk_109 : decode cX7_walk 109 = .ok (.iload 7, 2) := by decide +kernel
theorem dX7_walk_111 : decode cX7_walk 111 = .ok (.iaload, 1) := by decide +kernel
theorem dX7_walk_112 : decode cX7_walk 112 = .ok (.iadd, 1) := by decide +kernel
theorem dX7_walk_113 : decode cX7_walk 113 = .ok (.iload 5, 2) := by decide +kernel
theorem dX7_walk_115 : decode cX7_walk 115 = .ok (.iconst 1, 1) := by decide +kernel
theorem dX7_walk_116 : decode cX7_walk 116 = .ok (.aload_n 0, 1) := by decide +kernel
theorem dX7_walk_117 : decode cX7_walk 117 = .ok (.getfield 32, 3) := by decide +kernel
theorem dX7_walk_120 : decode cX7_walk 120 = .ok (.iload 7, 2) := by decide +kernel
theorem dX7_walk_122 : decode cX7_walk 122 = .ok (.iaload, 1) := by decide +kernel
theorem dX7_walk_123 : decode cX7_walk 123 = .ok (.ishl, 1) := by decide +kernel
theorem dX7_walk_124 : decode cX7_walk 124 = .ok (.ior, 1) := by decide +kernel
theorem dX7_walk_125 : decode cX7_walk 125 = .ok (.invokevirtual 138, 3) := by decide +kernel
theorem dX7_walk_128 : decode cX7_walk 128 = .ok (.iinc 6 1, 3) := by decide +kernel
theorem dX7_walk_131 : decode cX7_walk 131 = .ok (.goto (-128), 3) := by decide +kernel
theorem dX7_walk_134 : decode cX7_walk 134 = .ok (.return_, 1) := by decide +kernel
theorem dX7_all_0 : decode cX7_all 0 = .ok (.aload_n 0, 1) := by decide +kernel
theorem dX7_all_1 : decode cX7_all 1 = .ok (.invokevirtual 142, 3) := by decide +kernel
theorem dX7_all_4 : decode cX7_all 4 = .ok (.iconst 0, 1) := by decide +kernel
theorem dX7_all_5 : decode cX7_all 5 = .ok (.istore_n 1, 1) := by decide +kernel
theorem dX7_all_6 : decode cX7_all 6 = .ok (.iload_n 1, 1) := by decide +kernel
theorem dX7_all_7 : decode cX7_all 7 = .ok (.sipush 256, 3) := by decide +kernel
theorem dX7_all_10 : decode cX7_all 10 = .ok (.if_icmp .ge 25, 3) := by decide +kernel
theorem dX7_all_13 : decode cX7_all 13 = .ok (.aload_n 0, 1) := by decide +kernel
theorem dX7_all_14 : decode cX7_all 14 = .ok (.getfield 71, 3) := by decide +kernel
theorem dX7_all_17 : decode cX7_all 17 = .ok (.iload_n 1, 1) := by decide +kernel
theorem dX7_all_18 : decode cX7_all 18 = .ok (.ldc 145, 2) := by decide +kernel
theorem dX7_all_20 : decode cX7_all 20 = .ok (.iastore, 1) := by decide +kernel
theorem dX7_all_21 : decode cX7_all 21 = .ok (.aload_n 0, 1) := by decide +kernel
theorem dX7_all_22 : decode cX7_all 22 = .ok (.getfield 74, 3) := by decide +kernel
theorem dX7_all_25 : decode cX7_all 25 = .ok (.iload_n 1, 1) := by decide +kernel
theorem dX7_all_26 : decode cX7_all 26 = .ok (.ldc 127, 2) := by decide +kernel
theorem dX7_all_28 : decode cX7_all 28 = .ok (.iastore, 1) := by decide +kernel
theorem dX7_all_29 : decode cX7_all 29 = .ok (.iinc 1 1, 3) := by decide +kernel
theorem dX7_all_32 : decode cX7_all 32 = .ok (.goto (-26), 3) := by decide +kernel
