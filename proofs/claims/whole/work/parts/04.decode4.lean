theorem dX7_lotFor_2 : decode cX7_lotFor 2 = .ok (.invokevirtual 173, 3) := by decide +kernel
theorem dX7_lotFor_5 : decode cX7_lotFor 5 = .ok (.ifCond .eq 5, 3) := by decide +kernel
theorem dX7_lotFor_8 : decode cX7_lotFor 8 = .ok (.iconst 0, 1) := by decide +kernel
theorem dX7_lotFor_9 : decode cX7_lotFor 9 = .ok (.ireturn, 1) := by decide +kernel
theorem dX7_lotFor_10 : decode cX7_lotFor 10 = .ok (.iload_n 2, 1) := by decide +kernel
theorem dX7_lotFor_11 : decode cX7_lotFor 11 = .ok (.iconst 0, 1) := by decide +kernel
theorem dX7_lotFor_12 : decode cX7_lotFor 12 = .ok (.aload_n 0, 1) := by decide +kernel
theorem dX7_lotFor_13 : decode cX7_lotFor 13 = .ok (.getfield 38, 3) := by decide +kernel
theorem dX7_lotFor_16 : decode cX7_lotFor 16 = .ok (.iload_n 1, 1) := by decide +kernel
theorem dX7_lotFor_17 : decode cX7_lotFor 17 = .ok (.iaload, 1) := by decide +kernel
theorem dX7_lotFor_18 : decode cX7_lotFor 18 = .ok (.iconst 1, 1) := by decide +kernel
theorem dX7_lotFor_19 : decode cX7_lotFor 19 = .ok (.isub, 1) := by decide +kernel
theorem dX7_lotFor_20 : decode cX7_lotFor 20 = .ok (.invokestatic 96, 3) := by decide +kernel
theorem dX7_lotFor_23 : decode cX7_lotFor 23 = .ok (.ifCond .ne 9, 3) := by decide +kernel
theorem dX7_lotFor_26 : decode cX7_lotFor 26 = .ok (.aload_n 0, 1) := by decide +kernel
theorem dX7_lotFor_27 : decode cX7_lotFor 27 = .ok (.iconst 2, 1) := by decide +kernel
theorem dX7_lotFor_28 : decode cX7_lotFor 28 = .ok (.invokevirtual 107, 3) := by decide +kernel
theorem dX7_lotFor_31 : decode cX7_lotFor 31 = .ok (.ireturn, 1) := by decide +kernel
theorem dX7_lotFor_32 : decode cX7_lotFor 32 = .ok (.aload_n 0, 1) := by decide +kernel
theorem dX7_lotFor_33 : decode cX7_lotFor 33 = .ok (.getfield 26, 3) := by decide +kernel
theorem dX7_lotFor_36 : decode cX7_lotFor 36 = .ok (.iload_n 1, 1) := by decide +kernel
theorem dX7_lotFor_37 : decode cX7_lotFor 37 = .ok (.caload, 1) := by decide +kernel
theorem dX7_lotFor_38 : decode cX7_lotFor 38 = .ok (.bipush 111, 2) := by decide +kernel
theorem dX7_lotFor_40 : decode cX7_lotFor 40 = .ok (.if_icmp .eq 9, 3) := by decide +kernel
theorem dX7_lotFor_43 : decode cX7_lotFor 43 = .ok (.aload_n 0, 1) := by decide +kernel
theorem dX7_lotFor_44 : decode cX7_lotFor 44 = .ok (.iconst 3, 1) := by decide +kernel
theorem dX7_lotFor_45 : decode cX7_lotFor 45 = .ok (.invokevirtual 107, 3) := by decide +kernel
theorem dX7_lotFor_48 : decode cX7_lotFor 48 = .ok (.ireturn, 1) := by decide +kernel
theorem dX7_lotFor_49 : decode cX7_lotFor 49 = .ok (.aload_n 0, 1) := by decide +kernel
theorem dX7_lotFor_50 : decode cX7_lotFor 50 = .ok (.invokevirtual 152, 3) := by decide +kernel
theorem dX7_lotFor_53 : decode cX7_lotFor 53 = .ok (.aload_n 0, 1) := by decide +kernel
theorem dX7_lotFor_54 : decode cX7_lotFor 54 = .ok (.iconst (-1), 1) := by decide +kernel
theorem dX7_lotFor_55 : decode cX7_lotFor 55 = .ok (.invokevirtual 149, 3) := by decide +kernel
theorem dX7_lotFor_58 : decode cX7_lotFor 58 = .ok (.istore_n 3, 1) := by decide +kernel
theorem dX7_lotFor_59 : decode cX7_lotFor 59 = .ok (.aload_n 0, 1) := by decide +kernel
theorem dX7_lotFor_60 : decode cX7_lotFor 60 = .ok (.iload_n 3, 1) := by decide +kernel
theorem dX7_lotFor_61 : decode cX7_lotFor 61 = .ok (.iload_n 1, 1) := by decide +kernel
theorem dX7_lotFor_62 : decode cX7_lotFor 62 = .ok (.invokevirtual 180, 3) := by decide +kernel
theorem dX7_lotFor_65 : decode cX7_lotFor 65 = .ok (.ifCond .ne 9, 3) := by decide +kernel
theorem dX7_lotFor_68 : decode cX7_lotFor 68 = .ok (.aload_n 0, 1) := by decide +kernel
theorem dX7_lotFor_69 : decode cX7_lotFor 69 = .ok (.iconst 4, 1) := by decide +kernel
theorem dX7_lotFor_70 : decode cX7_lotFor 70 = .ok (.invokevirtual 107, 3) := by decide +kernel
theorem dX7_lotFor_73 : decode cX7_lotFor 73 = .ok (.ireturn, 1) := by decide +kernel
theorem dX7_lotFor_74 : decode cX7_lotFor 74 = .ok (.aload_n 0, 1) := by decide +kernel
theorem dX7_lotFor_75 : decode cX7_lotFor 75 = .ok (.iload_n 3, 1) := by decide +kernel
theorem dX7_lotFor_76 : decode cX7_lotFor 76 = .ok (.invokevirtual 155, 3) := by decide +kernel
theorem dX7_lotFor_79 : decode cX7_lotFor 79 = .ok (.istore 4, 2) := by decide +kernel
theorem dX7_lotFor_81 : decode cX7_lotFor 81 = .ok (.iconst 0, 1) := by decide +kernel
theorem dX7_lotFor_82 : decode cX7_lotFor 82 = .ok (.istore 5, 2) := by decide +kernel
theorem dX7_lotFor_84 : decode cX7_lotFor 84 = .ok (.aload_n 0, 1) := by decide +kernel
theorem dX7_lotFor_85 : decode cX7_lotFor 85 = .ok (.getfield 83, 3) := by decide +kernel
theorem dX7_lotFor_88 : decode cX7_lotFor 88 = .ok (.iload 5, 2) := by decide +kernel
theorem dX7_lotFor_90 : decode cX7_lotFor 90 = .ok (.iaload, 1) := by decide +kernel
theorem dX7_lotFor_91 : decode cX7_lotFor 91 = .ok (.iconst 3, 1) := by decide +kernel
theorem dX7_lotFor_92 : decode cX7_lotFor 92 = .ok (.iload_n 1, 1) := by decide +kernel
theorem dX7_lotFor_93 : decode cX7_lotFor 93 = .ok (.imul, 1) := by decide +kernel
theorem dX7_lotFor_94 : decode cX7_lotFor 94 = .ok (.iload_n 2, 1) := by decide +kernel
theorem dX7_lotFor_95 : decode cX7_lotFor 95 = .ok (.iadd, 1) := by decide +kernel
theorem dX7_lotFor_96 : decode cX7_lotFor 96 = .ok (.if_icmp .eq 9, 3) := by decide +kernel
theorem dX7_lotFor_99 : decode cX7_lotFor 99 = .ok (.iinc 5 1, 3) := by decide +kernel
theorem dX7_lotFor_102 : decode cX7_lotFor 102 = .ok (.goto (-18), 3) := by decide +kernel
theorem dX7_lotFor_105 : decode cX7_lotFor 105 = .ok (.aload_n 0, 1) := by decide +kernel
theorem dX7_lotFor_106 : decode cX7_lotFor 106 = .ok (.getfield 86, 3) := by decide +kernel
theorem dX7_lotFor_109 : decode cX7_lotFor 109 = .ok (.iload 5, 2) := by decide +kernel
theorem dX7_lotFor_111 : decode cX7_lotFor 111 = .ok (.iaload, 1) := by decide +kernel
theorem dX7_lotFor_112 : decode cX7_lotFor 112 = .ok (.ireturn, 1) := by decide +kernel
theorem dX7_payment_0 : decode cX7_payment 0 = .ok (.aload_n 0, 1) := by decide +kernel
theorem dX7_payment_1 : decode cX7_payment 1 = .ok (.iload_n 1, 1) := by decide +kernel
theorem dX7_payment_2 : decode cX7_payment 2 = .ok (.invokevirtual 173, 3) := by decide +kernel
theorem dX7_payment_5 : decode cX7_payment 5 = .ok (.ifCond .eq 5, 3) := by decide +kernel
theorem dX7_payment_8 : decode cX7_payment 8 = .ok (.iconst 0, 1) := by decide +kernel
theorem dX7_payment_9 : decode cX7_payment 9 = .ok (.ireturn, 1) := by decide +kernel
theorem dX7_payment_10 : decode cX7_payment 10 = .ok (.aload_n 0, 1) := by decide +kernel
theorem dX7_payment_11 : decode cX7_payment 11 = .ok (.getfield 26, 3) := by decide +kernel
theorem dX7_payment_14 : decode cX7_payment 14 = .ok (.iload_n 1, 1) := by decide +kernel
theorem dX7_payment_15 : decode cX7_payment 15 = .ok (.caload, 1) := by decide +kernel
theorem dX7_payment_16 : decode cX7_payment 16 = .ok (.bipush 111, 2) := by decide +kernel
theorem dX7_payment_18 : decode cX7_payment 18 = .ok (.if_icmp .eq 9, 3) := by decide +kernel
theorem dX7_payment_21 : decode cX7_payment 21 = .ok (.aload_n 0, 1) := by decide +kernel
theorem dX7_payment_22 : decode cX7_payment 22 = .ok (.iconst 2, 1) := by decide +kernel
theorem dX7_payment_23 : decode cX7_payment 23 = .ok (.invokevirtual 107, 3) := by decide +kernel
theorem dX7_payment_26 : decode cX7_payment 26 = .ok (.ireturn, 1) := by decide +kernel
theorem dX7_payment_27 : decode cX7_payment 27 = .ok (.aload_n 0, 1) := by decide +kernel
theorem dX7_payment_28 : decode cX7_payment 28 = .ok (.invokevirtual 152, 3) := by decide +kernel
theorem dX7_payment_31 : decode cX7_payment 31 = .ok (.aload_n 0, 1) := by decide +kernel
theorem dX7_payment_32 : decode cX7_payment 32 = .ok (.iconst (-1), 1) := by decide +kernel
theorem dX7_payment_33 : decode cX7_payment 33 = .ok (.invokevirtual 149, 3) := by decide +kernel
theorem dX7_payment_36 : decode cX7_payment 36 = .ok (.istore_n 2, 1) := by decide +kernel
theorem dX7_payment_37 : decode cX7_payment 37 = .ok (.aload_n 0, 1) := by decide +kernel
theorem dX7_payment_38 : decode cX7_payment 38 = .ok (.iload_n 2, 1) := by decide +kernel
theorem dX7_payment_39 : decode cX7_payment 39 = .ok (.iload_n 1, 1) := by decide +kernel
theorem dX7_payment_40 : decode cX7_payment 40 = .ok (.invokevirtual 180, 3) := by decide +kernel
theorem dX7_payment_43 : decode cX7_payment 43 = .ok (.ifCond .ne 9, 3) := by decide +kernel
theorem dX7_payment_46 : decode cX7_payment 46 = .ok (.aload_n 0, 1) := by decide +kernel
theorem dX7_payment_47 : decode cX7_payment 47 = .ok (.iconst 3, 1) := by decide +kernel
theorem dX7_payment_48 : decode cX7_payment 48 = .ok (.invokevirtual 107, 3) := by decide +kernel
theorem dX7_payment_51 : decode cX7_payment 51 = .ok (.ireturn, 1) := by decide +kernel
theorem dX7_payment_52 : decode cX7_payment 52 = .ok (.aload_n 0, 1) := by decide +kernel
theorem dX7_payment_53 : decode cX7_payment 53 = .ok (.iload_n 2, 1) := by decide +kernel
theorem dX7_payment_54 : decode cX7_payment 54 = .ok (.iload_n 1, 1) := by decide +kernel
theorem dX7_payment_55 : decode cX7_payment 55 = .ok (.invokevirtual 158, 3) := by decide +kernel
theorem dX7_payment_58 : decode cX7_payment 58 = .ok (.ireturn, 1) := by decide +kernel
theorem dX7_takings_0 : decode cX7_takings 0 = .ok (.aload_n 0, 1) := by decide +kernel
theorem dX7_takings_1 : decode cX7_takings 1 = .ok (.getfield 166, 3) := by decide +kernel
theorem dX7_takings_4 : decode cX7_takings 4 = .ok (.lreturn, 1) := by decide +kernel
theorem dX7_soldShare_0 : decode cX7_soldShare 0 = .ok (.aload_n 0, 1) := by decide +kernel
theorem dX7_soldShare_1 : decode cX7_soldShare 1 = .ok (.aload_n 0, 1) := by decide +kernel
theorem dX7_soldShare_2 : decode cX7_soldShare 2 = .ok (.getfield 93, 3) := by decide +kernel
theorem dX7_soldShare_5 : decode cX7_soldShare 5 = .ok (.ifCond .ne 7, 3) := by decide +kernel
theorem dX7_soldShare_8 : decode cX7_soldShare 8 = .ok (.iconst 1, 1) := by decide +kernel
theorem dX7_soldShare_9 : decode cX7_soldShare 9 = .ok (.goto 4, 3) := by decide +kernel
theorem dX7_soldShare_12 : decode cX7_soldShare 12 = .ok (.iconst 0, 1) := by decide +kernel
theorem dX7_soldShare_13 : decode cX7_soldShare 13 = .ok (.putfield 89, 3) := by decide +kernel
theorem dX7_soldShare_16 : decode cX7_soldShare 16 = .ok (.aload_n 0, 1) := by decide +kernel
theorem dX7_soldShare_17 : decode cX7_soldShare 17 = .ok (.getfield 93, 3) := by decide +kernel
theorem dX7_soldShare_20 : decode cX7_soldShare 20 = .ok (.ifCond .ne 5, 3) := by decide +kernel
theorem dX7_soldShare_23 : decode cX7_soldShare 23 = .ok (.fconst 0, 1) := by decide +kernel
theorem dX7_soldShare_24 : decode cX7_soldShare 24 = .ok (.freturn, 1) := by decide +kernel
theorem dX7_soldShare_25 : decode cX7_soldShare 25 = .ok (.iconst 0, 1) := by decide +kernel
theorem dX7_soldShare_26 : decode cX7_soldShare 26 = .ok (.istore_n 1, 1) := by decide +kernel
theorem dX7_soldShare_27 : decode cX7_soldShare 27 = .ok (.iconst 0, 1) := by decide +kernel
theorem dX7_soldShare_28 : decode cX7_soldShare 28 = .ok (.istore_n 2, 1) := by decide +kernel
theorem dX7_soldShare_29 : decode cX7_soldShare 29 = .ok (.iload_n 2, 1) := by decide +kernel
theorem dX7_soldShare_30 : decode cX7_soldShare 30 = .ok (.aload_n 0, 1) := by decide +kernel
theorem dX7_soldShare_31 : decode cX7_soldShare 31 = .ok (.getfield 93, 3) := by decide +kernel
theorem dX7_soldShare_34 : decode cX7_soldShare 34 = .ok (.if_icmp .ge 23, 3) := by decide +kernel
theorem dX7_soldShare_37 : decode cX7_soldShare 37 = .ok (.aload_n 0, 1) := by decide +kernel
theorem dX7_soldShare_38 : decode cX7_soldShare 38 = .ok (.getfield 22, 3) := by decide +kernel
theorem dX7_soldShare_41 : decode cX7_soldShare 41 = .ok (.iload_n 2, 1) := by decide +kernel
theorem dX7_soldShare_42 : decode cX7_soldShare 42 = .ok (.caload, 1) := by decide +kernel
theorem dX7_soldShare_43 : decode cX7_soldShare 43 = .ok (.bipush 115, 2) := by decide +kernel
theorem dX7_soldShare_45 : decode cX7_soldShare 45 = .ok (.if_icmp .ne 6, 3) := by decide +kernel
theorem dX7_soldShare_48 : decode cX7_soldShare 48 = .ok (.iinc 1 1, 3) := by decide +kernel
theorem dX7_soldShare_51 : decode cX7_soldShare 51 = .ok (.iinc 2 1, 3) := by decide +kernel
theorem dX7_soldShare_54 : decode cX7_soldShare 54 = .ok (.goto (-25), 3) := by decide +kernel
theorem dX7_soldShare_57 : decode cX7_soldShare 57 = .ok (.iload_n 1, 1) := by decide +kernel
theorem dX7_soldShare_58 : decode cX7_soldShare 58 = .ok (.i2f, 1) := by decide +kernel
theorem dX7_soldShare_59 : decode cX7_soldShare 59 = .ok (.aload_n 0, 1) := by decide +kernel
theorem dX7_soldShare_60 : decode cX7_soldShare 60 = .ok (.getfield 93, 3) := by decide +kernel
theorem dX7_soldShare_63 : decode cX7_soldShare 63 = .ok (.i2f, 1) := by decide +kernel
theorem dX7_soldShare_64 : decode cX7_soldShare 64 = .ok (.fdiv, 1) := by decide +kernel
theorem dX7_soldShare_65 : decode cX7_soldShare 65 = .ok (.freturn, 1) := by decide +kernel
theorem dX7_meanPaid_0 : decode cX7_meanPaid 0 = .ok (.iconst 0, 1) := by decide +kernel
theorem dX7_meanPaid_1 : decode cX7_meanPaid 1 = .ok (.istore_n 1, 1) := by decide +kernel
theorem dX7_meanPaid_2 : decode cX7_meanPaid 2 = .ok (.iconst 0, 1) := by decide +kernel
theorem dX7_meanPaid_3 : decode cX7_meanPaid 3 = .ok (.istore_n 2, 1) := by decide +kernel
theorem dX7_meanPaid_4 : decode cX7_meanPaid 4 = .ok (.iload_n 2, 1) := by decide +kernel
theorem dX7_meanPaid_5 : decode cX7_meanPaid 5 = .ok (.aload_n 0, 1) := by decide +kernel
theorem dX7_meanPaid_6 : decode cX7_meanPaid 6 = .ok (.getfield 100, 3) := by decide +kernel
theorem dX7_meanPaid_9 : decode cX7_meanPaid 9 = .ok (.if_icmp .ge 23, 3) := by decide +kernel
theorem dX7_meanPaid_12 : decode cX7_meanPaid 12 = .ok (.aload_n 0, 1) := by decide +kernel
theorem dX7_meanPaid_13 : decode cX7_meanPaid 13 = .ok (.getfield 26, 3) := by decide +kernel
theorem dX7_meanPaid_16 : decode cX7_meanPaid 16 = .ok (.iload_n 2, 1) := by decide +kernel
theorem dX7_meanPaid_17 : decode cX7_meanPaid 17 = .ok (.caload, 1) := by decide +kernel
theorem dX7_meanPaid_18 : decode cX7_meanPaid 18 = .ok (.bipush 119, 2) := by decide +kernel
theorem dX7_meanPaid_20 : decode cX7_meanPaid 20 = .ok (.if_icmp .ne 6, 3) := by decide +kernel
theorem dX7_meanPaid_23 : decode cX7_meanPaid 23 = .ok (.iinc 1 1, 3) := by decide +kernel
theorem dX7_meanPaid_26 : decode cX7_meanPaid 26 = .ok (.iinc 2 1, 3) := by decide +kernel
theorem dX7_meanPaid_29 : decode cX7_meanPaid 29 = .ok (.goto (-25), 3) := by decide +kernel
theorem dX7_meanPaid_32 : decode cX7_meanPaid 32 = .ok (.aload_n 0, 1) := by decide +kernel
theorem dX7_meanPaid_33 : decode cX7_meanPaid 33 = .ok (.iload_n 1, 1) := by decide +kernel
theorem dX7_meanPaid_34 : decode cX7_meanPaid 34 = .ok (.ifCond .ne 7, 3) := by decide +kernel
theorem dX7_meanPaid_37 : decode cX7_meanPaid 37 = .ok (.iconst 1, 1) := by decide +kernel
theorem dX7_meanPaid_38 : decode cX7_meanPaid 38 = .ok (.goto 4, 3) := by decide +kernel
theorem dX7_meanPaid_41 : decode cX7_meanPaid 41 = .ok (.iconst 0, 1) := by decide +kernel
theorem dX7_meanPaid_42 : decode cX7_meanPaid 42 = .ok (.putfield 89, 3) := by decide +kernel
theorem dX7_meanPaid_45 : decode cX7_meanPaid 45 = .ok (.iload_n 1, 1) := by decide +kernel
theorem dX7_meanPaid_46 : decode cX7_meanPaid 46 = .ok (.ifCond .ne 7, 3) := by decide +kernel
theorem dX7_meanPaid_49 : decode cX7_meanPaid 49 = .ok (.dconst 0, 1) := by decide +kernel
theorem dX7_meanPaid_50 : decode cX7_meanPaid 50 = .ok (.goto 11, 3) := by decide +kernel
theorem dX7_meanPaid_53 : decode cX7_meanPaid 53 = .ok (.aload_n 0, 1) := by decide +kernel
theorem dX7_meanPaid_54 : decode cX7_meanPaid 54 = .ok (.getfield 166, 3) := by decide +kernel
theorem dX7_meanPaid_57 : decode cX7_meanPaid 57 = .ok (.l2d, 1) := by decide +kernel
theorem dX7_meanPaid_58 : decode cX7_meanPaid 58 = .ok (.iload_n 1, 1) := by decide +kernel
theorem dX7_meanPaid_59 : decode cX7_meanPaid 59 = .ok (.i2d, 1) := by decide +kernel
theorem dX7_meanPaid_60 : decode cX7_meanPaid 60 = .ok (.ddiv, 1) := by decide +kernel
theorem dX7_meanPaid_61 : decode cX7_meanPaid 61 = .ok (.dreturn, 1) := by decide +kernel
theorem dJx00060_init_a7421_0 : decode cJx00060_init_a7421 0 = .ok (.aload_n 0, 1) := by decide +kernel
theorem dJx00060_init_a7421_1 : decode cJx00060_init_a7421 1 = .ok (.aload_n 1, 1) := by decide +kernel
theorem dJx00060_init_a7421_2 : decode cJx00060_init_a7421 2 = .ok (.invokespecial 7, 3) := by decide +kernel
theorem dJx00060_init_a7421_5 : decode cJx00060_init_a7421 5 = .ok (.return_, 1) := by decide +kernel
theorem dJ6_bitCount_0f7a4_0 : decode cJ6_bitCount_0f7a4 0 = .ok (.iload_n 0, 1) := by decide +kernel
theorem dJ6_bitCount_0f7a4_1 : decode cJ6_bitCount_0f7a4 1 = .ok (.iload_n 0, 1) := by decide +kernel
theorem dJ6_bitCount_0f7a4_2 : decode cJ6_bitCount_0f7a4 2 = .ok (.iconst 1, 1) := by decide +kernel
theorem dJ6_bitCount_0f7a4_3 : decode cJ6_bitCount_0f7a4 3 = .ok (.iushr, 1) := by decide +kernel
theorem dJ6_bitCount_0f7a4_4 : decode cJ6_bitCount_0f7a4 4 = .ok (.ldc_w 265, 3) := by decide +kernel
theorem dJ6_bitCount_0f7a4_7 : decode cJ6_bitCount_0f7a4 7 = .ok (.iand, 1) := by decide +kernel
theorem dJ6_bitCount_0f7a4_8 : decode cJ6_bitCount_0f7a4 8 = .ok (.isub, 1) := by decide +kernel
theorem dJ6_bitCount_0f7a4_9 : decode cJ6_bitCount_0f7a4 9 = .ok (.istore_n 0, 1) := by decide +kernel
theorem dJ6_bitCount_0f7a4_10 : decode cJ6_bitCount_0f7a4 10 = .ok (.iload_n 0, 1) := by decide +kernel
theorem dJ6_bitCount_0f7a4_11 : decode cJ6_bitCount_0f7a4 11 = .ok (.ldc_w 266, 3) := by decide +kernel
theorem dJ6_bitCount_0f7a4_14 : decode cJ6_bitCount_0f7a4 14 = .ok (.iand, 1) := by decide +kernel
theorem dJ6_bitCount_0f7a4_15 : decode cJ6_bitCount_0f7a4 15 = .ok (.iload_n 0, 1) := by decide +kernel
theorem dJ6_bitCount_0f7a4_16 : decode cJ6_bitCount_0f7a4 16 = .ok (.iconst 2, 1) := by decide +kernel
theorem dJ6_bitCount_0f7a4_17 : decode cJ6_bitCount_0f7a4 17 = .ok (.iushr, 1) := by decide +kernel
theorem dJ6_bitCount_0f7a4_18 : decode cJ6_bitCount_0f7a4 18 = .ok (.ldc_w 266, 3) := by decide +kernel
theorem dJ6_bitCount_0f7a4_21 : decode cJ6_bitCount_0f7a4 21 = .ok (.iand, 1) := by decide +kernel
theorem dJ6_bitCount_0f7a4_22 : decode cJ6_bitCount_0f7a4 22 = .ok (.iadd, 1) := by decide +kernel
theorem dJ6_bitCount_0f7a4_23 : decode cJ6_bitCount_0f7a4 23 = .ok (.istore_n 0, 1) := by decide +kernel
theorem dJ6_bitCount_0f7a4_24 : decode cJ6_bitCount_0f7a4 24 = .ok (.iload_n 0, 1) := by decide +kernel
theorem dJ6_bitCount_0f7a4_25 : decode cJ6_bitCount_0f7a4 25 = .ok (.iload_n 0, 1) := by decide +kernel
theorem dJ6_bitCount_0f7a4_26 : decode cJ6_bitCount_0f7a4 26 = .ok (.iconst 4, 1) := by decide +kernel
theorem dJ6_bitCount_0f7a4_27 : decode cJ6_bitCount_0f7a4 27 = .ok (.iushr, 1) := by decide +kernel
theorem dJ6_bitCount_0f7a4_28 : decode cJ6_bitCount_0f7a4 28 = .ok (.iadd, 1) := by decide +kernel
theorem dJ6_bitCount_0f7a4_29 : decode cJ6_bitCount_0f7a4 29 = .ok (.ldc_w 267, 3) := by decide +kernel
theorem dJ6_bitCount_0f7a4_32 : decode cJ6_bitCount_0f7a4 32 = .ok (.iand, 1) := by decide +kernel
theorem dJ6_bitCount_0f7a4_33 : decode cJ6_bitCount_0f7a4 33 = .ok (.istore_n 0, 1) := by decide +kernel
theorem dJ6_bitCount_0f7a4_34 : decode cJ6_bitCount_0f7a4 34 = .ok (.iload_n 0, 1) := by decide +kernel
theorem dJ6_bitCount_0f7a4_35 : decode cJ6_bitCount_0f7a4 35 = .ok (.iload_n 0, 1) := by decide +kernel
theorem dJ6_bitCount_0f7a4_36 : decode cJ6_bitCount_0f7a4 36 = .ok (.bipush 8, 2) := by decide +kernel
theorem dJ6_bitCount_0f7a4_38 : decode cJ6_bitCount_0f7a4 38 = .ok (.iushr, 1) := by decide +kernel
theorem dJ6_bitCount_0f7a4_39 : decode cJ6_bitCount_0f7a4 39 = .ok (.iadd, 1) := by decide +kernel
theorem dJ6_bitCount_0f7a4_40 : decode cJ6_bitCount_0f7a4 40 = .ok (.istore_n 0, 1) := by decide +kernel
theorem dJ6_bitCount_0f7a4_41 : decode cJ6_bitCount_0f7a4 41 = .ok (.iload_n 0, 1) := by decide +kernel
theorem dJ6_bitCount_0f7a4_42 : decode cJ6_bitCount_0f7a4 42 = .ok (.iload_n 0, 1) := by decide +kernel
theorem dJ6_bitCount_0f7a4_43 : decode cJ6_bitCount_0f7a4 43 = .ok (.bipush 16, 2) := by decide +kernel
theorem dJ6_bitCount_0f7a4_45 : decode cJ6_bitCount_0f7a4 45 = .ok (.iushr, 1) := by decide +kernel
theorem dJ6_bitCount_0f7a4_46 : decode cJ6_bitCount_0f7a4 46 = .ok (.iadd, 1) := by decide +kernel
theorem dJ6_bitCount_0f7a4_47 : decode cJ6_bitCount_0f7a4 47 = .ok (.istore_n 0, 1) := by decide +kernel
theorem dJ6_bitCount_0f7a4_48 : decode cJ6_bitCount_0f7a4 48 = .ok (.iload_n 0, 1) := by decide +kernel
theorem dJ6_bitCount_0f7a4_49 : decode cJ6_bitCount_0f7a4 49 = .ok (.bipush 63, 2) := by decide +kernel
theorem dJ6_bitCount_0f7a4_51 : decode cJ6_bitCount_0f7a4 51 = .ok (.iand, 1) := by decide +kernel
theorem dJ6_bitCount_0f7a4_52 : decode cJ6_bitCount_0f7a4 52 = .ok (.ireturn, 1) := by decide +kernel
theorem dJ9_max_7cf53_0 : decode cJ9_max_7cf53 0 = .ok (.iload_n 0, 1) := by decide +kernel
theorem dJ9_max_7cf53_1 : decode cJ9_max_7cf53 1 = .ok (.iload_n 1, 1) := by decide +kernel
theorem dJ9_max_7cf53_2 : decode cJ9_max_7cf53 2 = .ok (.if_icmp .lt 7, 3) := by decide +kernel
theorem dJ9_max_7cf53_5 : decode cJ9_max_7cf53 5 = .ok (.iload_n 0, 1) := by decide +kernel
theorem dJ9_max_7cf53_6 : decode cJ9_max_7cf53 6 = .ok (.goto 4, 3) := by decide +kernel
theorem dJ9_max_7cf53_9 : decode cJ9_max_7cf53 9 = .ok (.iload_n 1, 1) := by decide +kernel
theorem dJ9_max_7cf53_10 : decode cJ9_max_7cf53 10 = .ok (.ireturn, 1) := by decide +kernel
theorem dJ9_min_7cf53_0 : decode cJ9_min_7cf53 0 = .ok (.iload_n 0, 1) := by decide +kernel
theorem dJ9_min_7cf53_1 : decode cJ9_min_7cf53 1 = .ok (.iload_n 1, 1) := by decide +kernel
theorem dJ9_min_7cf53_2 : decode cJ9_min_7cf53 2 = .ok (.if_icmp .gt 7, 3) := by decide +kernel
theorem dJ9_min_7cf53_5 : decode cJ9_min_7cf53 5 = .ok (.iload_n 0, 1) := by decide +kernel
theorem dJ9_min_7cf53_6 : decode cJ9_min_7cf53 6 = .ok (.goto 4, 3) := by decide +kernel
theorem dJ9_min_7cf53_9 : decode cJ9_min_7cf53 9 = .ok (.iload_n 1, 1) := by decide +kernel
theorem dJ9_min_7cf53_10 : decode cJ9_min_7cf53 10 = .ok (.ireturn, 1) := by decide +kernel
theorem dJxa1e45_init_da8c8_0 : decode cJxa1e45_init_da8c8 0 = .ok (.aload_n 0, 1) := by decide +kernel
theorem dJxa1e45_init_da8c8_1 : decode cJxa1e45_init_da8c8 1 = .ok (.invokespecial 1, 3) := by decide +kernel
theorem dJxa1e45_init_da8c8_4 : decode cJxa1e45_init_da8c8 4 = .ok (.return_, 1) := by decide +kernel
theorem dJxc12de_init_da8c8_0 : decode cJxc12de_init_da8c8 0 = .ok (.aload_n 0, 1) := by decide +kernel
theorem dJxc12de_init_da8c8_1 : decode cJxc12de_init_da8c8 1 = .ok (.invokespecial 1, 3) := by decide +kernel
theorem dJxc12de_init_da8c8_4 : decode cJxc12de_init_da8c8 4 = .ok (.aload_n 0, 1) := by decide +kernel
theorem dJxc12de_init_da8c8_5 : decode cJxc12de_init_da8c8 5 = .ok (.iconst 0, 1) := by decide +kernel
theorem dJxc12de_init_da8c8_6 : decode cJxc12de_init_da8c8 6 = .ok (.putfield 7, 3) := by decide +kernel
theorem dJxc12de_init_da8c8_9 : decode cJxc12de_init_da8c8 9 = .ok (.return_, 1) := by decide +kernel
theorem dJx4a65c_init_da8c8_0 : decode cJx4a65c_init_da8c8 0 = .ok (.aload_n 0, 1) := by decide +kernel
theorem dJx4a65c_init_da8c8_1 : decode cJx4a65c_init_da8c8 1 = .ok (.invokespecial 1, 3) := by decide +kernel
theorem dJx4a65c_init_da8c8_4 : decode cJx4a65c_init_da8c8 4 = .ok (.aload_n 0, 1) := by decide +kernel
theorem dJx4a65c_init_da8c8_5 : decode cJx4a65c_init_da8c8 5 = .ok (.getstatic 39, 3) := by decide +kernel
theorem dJx4a65c_init_da8c8_8 : decode cJx4a65c_init_da8c8 8 = .ok (.putfield 9, 3) := by decide +kernel
theorem dJx4a65c_init_da8c8_11 : decode cJx4a65c_init_da8c8 11 = .ok (.return_, 1) := by decide +kernel
theorem dJx4a65c_grow_92f84_0 : decode cJx4a65c_grow_92f84 0 = .ok (.aload_n 0, 1) := by decide +kernel
theorem dJx4a65c_grow_92f84_1 : decode cJx4a65c_grow_92f84 1 = .ok (.getfield 9, 3) := by decide +kernel
theorem dJx4a65c_grow_92f84_4 : decode cJx4a65c_grow_92f84 4 = .ok (.arraylength, 1) := by decide +kernel
theorem dJx4a65c_grow_92f84_5 : decode cJx4a65c_grow_92f84 5 = .ok (.istore_n 2, 1) := by decide +kernel
theorem dJx4a65c_grow_92f84_6 : decode cJx4a65c_grow_92f84 6 = .ok (.iload_n 2, 1) := by decide +kernel
theorem dJx4a65c_grow_92f84_7 : decode cJx4a65c_grow_92f84 7 = .ok (.ifCond .gt 13, 3) := by decide +kernel
theorem dJx4a65c_grow_92f84_10 : decode cJx4a65c_grow_92f84 10 = .ok (.aload_n 0, 1) := by decide +kernel
theorem dJx4a65c_grow_92f84_11 : decode cJx4a65c_grow_92f84 11 = .ok (.getfield 9, 3) := by decide +kernel
theorem dJx4a65c_grow_92f84_14 : decode cJx4a65c_grow_92f84 14 = .ok (.getstatic 39, 3) := by decide +kernel
theorem dJx4a65c_grow_92f84_17 : decode cJx4a65c_grow_92f84 17 = .ok (.if_acmp .eq 28, 3) := by decide +kernel
theorem dJx4a65c_grow_92f84_20 : decode cJx4a65c_grow_92f84 20 = .ok (.iload_n 2, 1) := by decide +kernel
theorem dJx4a65c_grow_92f84_21 : decode cJx4a65c_grow_92f84 21 = .ok (.iload_n 1, 1) := by decide +kernel
theorem dJx4a65c_grow_92f84_22 : decode cJx4a65c_grow_92f84 22 = .ok (.iload_n 2, 1) := by decide +kernel
theorem dJx4a65c_grow_92f84_23 : decode cJx4a65c_grow_92f84 23 = .ok (.isub, 1) := by decide +kernel
theorem dJx4a65c_grow_92f84_24 : decode cJx4a65c_grow_92f84 24 = .ok (.iload_n 2, 1) := by decide +kernel
theorem dJx4a65c_grow_92f84_25 : decode cJx4a65c_grow_92f84 25 = .ok (.iconst 1, 1) := by decide +kernel
theorem dJx4a65c_grow_92f84_26 : decode cJx4a65c_grow_92f84 26 = .ok (.ishr, 1) := by decide +kernel
theorem dJx4a65c_grow_92f84_27 : decode cJx4a65c_grow_92f84 27 = .ok (.invokestatic 73, 3) := by decide +kernel
theorem dJx4a65c_grow_92f84_30 : decode cJx4a65c_grow_92f84 30 = .ok (.istore_n 3, 1) := by decide +kernel
theorem dJx4a65c_grow_92f84_31 : decode cJx4a65c_grow_92f84 31 = .ok (.aload_n 0, 1) := by decide +kernel
theorem dJx4a65c_grow_92f84_32 : decode cJx4a65c_grow_92f84 32 = .ok (.aload_n 0, 1) := by decide +kernel
theorem dJx4a65c_grow_92f84_33 : decode cJx4a65c_grow_92f84 33 = .ok (.getfield 9, 3) := by decide +kernel
theorem dJx4a65c_grow_92f84_36 : decode cJx4a65c_grow_92f84 36 = .ok (.iload_n 3, 1) := by decide +kernel
theorem dJx4a65c_grow_92f84_37 : decode cJx4a65c_grow_92f84 37 = .ok (.invokestatic 66, 3) := by decide +kernel
theorem dJx4a65c_grow_92f84_40 : decode cJx4a65c_grow_92f84 40 = .ok (.dup_x1, 1) := by decide +kernel
theorem dJx4a65c_grow_92f84_41 : decode cJx4a65c_grow_92f84 41 = .ok (.putfield 9, 3) := by decide +kernel
theorem dJx4a65c_grow_92f84_44 : decode cJx4a65c_grow_92f84 44 = .ok (.areturn, 1) := by decide +kernel
theorem dJx4a65c_grow_92f84_45 : decode cJx4a65c_grow_92f84 45 = .ok (.aload_n 0, 1) := by decide +kernel
theorem dJx4a65c_grow_92f84_46 : decode cJx4a65c_grow_92f84 46 = .ok (.bipush 10, 2) := by decide +kernel
theorem dJx4a65c_grow_92f84_48 : decode cJx4a65c_grow_92f84 48 = .ok (.iload_n 1, 1) := by decide +kernel
theorem dJx4a65c_grow_92f84_49 : decode cJx4a65c_grow_92f84 49 = .ok (.invokestatic 79, 3) := by decide +kernel
theorem dJx4a65c_grow_92f84_52 : decode cJx4a65c_grow_92f84 52 = .ok (.anewarray 7, 3) := by decide +kernel
theorem dJx4a65c_grow_92f84_55 : decode cJx4a65c_grow_92f84 55 = .ok (.dup_x1, 1) := by decide +kernel
theorem dJx4a65c_grow_92f84_56 : decode cJx4a65c_grow_92f84 56 = .ok (.putfield 9, 3) := by decide +kernel
theorem dJx4a65c_grow_92f84_59 : decode cJx4a65c_grow_92f84 59 = .ok (.areturn, 1) := by decide +kernel
theorem dJx4a65c_grow_d5877_0 : decode cJx4a65c_grow_d5877 0 = .ok (.aload_n 0, 1) := by decide +kernel
theorem dJx4a65c_grow_d5877_1 : decode cJx4a65c_grow_d5877 1 = .ok (.aload_n 0, 1) := by decide +kernel
theorem dJx4a65c_grow_d5877_2 : decode cJx4a65c_grow_d5877 2 = .ok (.getfield 48, 3) := by decide +kernel
theorem dJx4a65c_grow_d5877_5 : decode cJx4a65c_grow_d5877 5 = .ok (.iconst 1, 1) := by decide +kernel
theorem dJx4a65c_grow_d5877_6 : decode cJx4a65c_grow_d5877 6 = .ok (.iadd, 1) := by decide +kernel
theorem dJx4a65c_grow_d5877_7 : decode cJx4a65c_grow_d5877 7 = .ok (.invokevirtual 69, 3) := by decide +kernel
theorem dJx4a65c_grow_d5877_10 : decode cJx4a65c_grow_d5877 10 = .ok (.areturn, 1) := by decide +kernel
theorem dJx4a65c_size_8abf5_0 : decode cJx4a65c_size_8abf5 0 = .ok (.aload_n 0, 1) := by decide +kernel
theorem dJx4a65c_size_8abf5_1 : decode cJx4a65c_size_8abf5 1 = .ok (.getfield 48, 3) := by decide +kernel
theorem dJx4a65c_size_8abf5_4 : decode cJx4a65c_size_8abf5 4 = .ok (.ireturn, 1) := by decide +kernel
theorem dJx4a65c_isEmpty_aae02_0 : decode cJx4a65c_isEmpty_aae02 0 = .ok (.aload_n 0, 1) := by decide +kernel
theorem dJx4a65c_isEmpty_aae02_1 : decode cJx4a65c_isEmpty_aae02 1 = .ok (.getfield 48, 3) := by decide +kernel
theorem dJx4a65c_isEmpty_aae02_4 : decode cJx4a65c_isEmpty_aae02 4 = .ok (.ifCond .ne 7, 3) := by decide +kernel
theorem dJx4a65c_isEmpty_aae02_7 : decode cJx4a65c_isEmpty_aae02 7 = .ok (.iconst 1, 1) := by decide +kernel
theorem dJx4a65c_isEmpty_aae02_8 : decode cJx4a65c_isEmpty_aae02 8 = .ok (.goto 4, 3) := by decide +kernel
theorem dJx4a65c_isEmpty_aae02_11 : decode cJx4a65c_isEmpty_aae02 11 = .ok (.iconst 0, 1) := by decide +kernel
theorem dJx4a65c_isEmpty_aae02_12 : decode cJx4a65c_isEmpty_aae02 12 = .ok (.ireturn, 1) := by decide +kernel
theorem dJx4a65c_elementData_915e3_0 : decode cJx4a65c_elementData_915e3 0 = .ok (.aload_n 0, 1) := by decide +kernel
theorem dJx4a65c_elementData_915e3_1 : decode cJx4a65c_elementData_915e3 1 = .ok (.getfield 9, 3) := by decide +kernel
theorem dJx4a65c_elementData_915e3_4 : decode cJx4a65c_elementData_915e3 4 = .ok (.iload_n 1, 1) := by decide +kernel
theorem dJx4a65c_elementData_915e3_5 : decode cJx4a65c_elementData_915e3 5 = .ok (.aaload, 1) := by decide +kernel
theorem dJx4a65c_elementData_915e3_6 : decode cJx4a65c_elementData_915e3 6 = .ok (.areturn, 1) := by decide +kernel
theorem dJx4a65c_get_915e3_0 : decode cJx4a65c_get_915e3 0 = .ok (.iload_n 1, 1) := by decide +kernel
theorem dJx4a65c_get_915e3_1 : decode cJx4a65c_get_915e3 1 = .ok (.aload_n 0, 1) := by decide +kernel
theorem dJx4a65c_get_915e3_2 : decode cJx4a65c_get_915e3 2 = .ok (.getfield 48, 3) := by decide +kernel
theorem dJx4a65c_get_915e3_5 : decode cJx4a65c_get_915e3 5 = .ok (.invokestatic 118, 3) := by decide +kernel
theorem dJx4a65c_get_915e3_8 : decode cJx4a65c_get_915e3 8 = .ok (.pop, 1) := by decide +kernel
theorem dJx4a65c_get_915e3_9 : decode cJx4a65c_get_915e3 9 = .ok (.aload_n 0, 1) := by decide +kernel
theorem dJx4a65c_get_915e3_10 : decode cJx4a65c_get_915e3 10 = .ok (.iload_n 1, 1) := by decide +kernel
theorem dJx4a65c_get_915e3_11 : decode cJx4a65c_get_915e3 11 = .ok (.invokevirtual 123, 3) := by decide +kernel
theorem dJx4a65c_get_915e3_14 : decode cJx4a65c_get_915e3 14 = .ok (.areturn, 1) := by decide +kernel
theorem dJx4a65c_add_72be8_0 : decode cJx4a65c_add_72be8 0 = .ok (.iload_n 3, 1) := by decide +kernel
theorem dJx4a65c_add_72be8_1 : decode cJx4a65c_add_72be8 1 = .ok (.aload_n 2, 1) := by decide +kernel
theorem dJx4a65c_add_72be8_2 : decode cJx4a65c_add_72be8 2 = .ok (.arraylength, 1) := by decide +kernel
theorem dJx4a65c_add_72be8_3 : decode cJx4a65c_add_72be8 3 = .ok (.if_icmp .ne 8, 3) := by decide +kernel
theorem dJx4a65c_add_72be8_6 : decode cJx4a65c_add_72be8 6 = .ok (.aload_n 0, 1) := by decide +kernel
theorem dJx4a65c_add_72be8_7 : decode cJx4a65c_add_72be8 7 = .ok (.invokevirtual 129, 3) := by decide +kernel
theorem dJx4a65c_add_72be8_10 : decode cJx4a65c_add_72be8 10 = .ok (.astore_n 2, 1) := by decide +kernel
theorem dJx4a65c_add_72be8_11 : decode cJx4a65c_add_72be8 11 = .ok (.aload_n 2, 1) := by decide +kernel
theorem dJx4a65c_add_72be8_12 : decode cJx4a65c_add_72be8 12 = .ok (.iload_n 3, 1) := by decide +kernel
theorem dJx4a65c_add_72be8_13 : decode cJx4a65c_add_72be8 13 = .ok (.aload_n 1, 1) := by decide +kernel
theorem dJx4a65c_add_72be8_14 : decode cJx4a65c_add_72be8 14 = .ok (.aastore, 1) := by decide +kernel
theorem dJx4a65c_add_72be8_15 : decode cJx4a65c_add_72be8 15 = .ok (.aload_n 0, 1) := by decide +kernel
theorem dJx4a65c_add_72be8_16 : decode cJx4a65c_add_72be8 16 = .ok (.iload_n 3, 1) := by decide +kernel
theorem dJx4a65c_add_72be8_17 : decode cJx4a65c_add_72be8 17 = .ok (.iconst 1, 1) := by decide +kernel
theorem dJx4a65c_add_72be8_18 : decode cJx4a65c_add_72be8 18 = .ok (.iadd, 1) := by decide +kernel
theorem dJx4a65c_add_72be8_19 : decode cJx4a65c_add_72be8 19 = .ok (.putfield 48, 3) := by decide +kernel
theorem dJx4a65c_add_72be8_22 : decode cJx4a65c_add_72be8 22 = .ok (.return_, 1) := by decide +kernel
theorem dJx4a65c_add_9ea2d_0 : decode cJx4a65c_add_9ea2d 0 = .ok (.aload_n 0, 1) := by decide +kernel
theorem dJx4a65c_add_9ea2d_1 : decode cJx4a65c_add_9ea2d 1 = .ok (.dup, 1) := by decide +kernel
theorem dJx4a65c_add_9ea2d_2 : decode cJx4a65c_add_9ea2d 2 = .ok (.getfield 63, 3) := by decide +kernel
theorem dJx4a65c_add_9ea2d_5 : decode cJx4a65c_add_9ea2d 5 = .ok (.iconst 1, 1) := by decide +kernel
theorem dJx4a65c_add_9ea2d_6 : decode cJx4a65c_add_9ea2d 6 = .ok (.iadd, 1) := by decide +kernel
theorem dJx4a65c_add_9ea2d_7 : decode cJx4a65c_add_9ea2d 7 = .ok (.putfield 63, 3) := by decide +kernel
theorem dJx4a65c_add_9ea2d_10 : decode cJx4a65c_add_9ea2d 10 = .ok (.aload_n 0, 1) := by decide +kernel
theorem dJx4a65c_add_9ea2d_11 : decode cJx4a65c_add_9ea2d 11 = .ok (.aload_n 1, 1) := by decide +kernel
theorem dJx4a65c_add_9ea2d_12 : decode cJx4a65c_add_9ea2d 12 = .ok (.aload_n 0, 1) := by decide +kernel
theorem dJx4a65c_add_9ea2d_13 : decode cJx4a65c_add_9ea2d 13 = .ok (.getfield 9, 3) := by decide +kernel
theorem dJx4a65c_add_9ea2d_16 : decode cJx4a65c_add_9ea2d 16 = .ok (.aload_n 0, 1) := by decide +kernel
theorem dJx4a65c_add_9ea2d_17 : decode cJx4a65c_add_9ea2d 17 = .ok (.getfield 48, 3) := by decide +kernel
theorem dJx4a65c_add_9ea2d_20 : decode cJx4a65c_add_9ea2d 20 = .ok (.invokevirtual 131, 3) := by decide +kernel
theorem dJx4a65c_add_9ea2d_23 : decode cJx4a65c_add_9ea2d 23 = .ok (.iconst 1, 1) := by decide +kernel
theorem dJx4a65c_add_9ea2d_24 : decode cJx4a65c_add_9ea2d 24 = .ok (.ireturn, 1) := by decide +kernel
theorem dJx4a65c_remove_915e3_0 : decode cJx4a65c_remove_915e3 0 = .ok (.iload_n 1, 1) := by decide +kernel
theorem dJx4a65c_remove_915e3_1 : decode cJx4a65c_remove_915e3 1 = .ok (.aload_n 0, 1) := by decide +kernel
theorem dJx4a65c_remove_915e3_2 : decode cJx4a65c_remove_915e3 2 = .ok (.getfield 48, 3) := by decide +kernel
theorem dJx4a65c_remove_915e3_5 : decode cJx4a65c_remove_915e3 5 = .ok (.invokestatic 118, 3) := by decide +kernel
theorem dJx4a65c_remove_915e3_8 : decode cJx4a65c_remove_915e3 8 = .ok (.pop, 1) := by decide +kernel
theorem dJx4a65c_remove_915e3_9 : decode cJx4a65c_remove_915e3 9 = .ok (.aload_n 0, 1) := by decide +kernel
theorem dJx4a65c_remove_915e3_10 : decode cJx4a65c_remove_915e3 10 = .ok (.getfield 9, 3) := by decide +kernel
theorem dJx4a65c_remove_915e3_13 : decode cJx4a65c_remove_915e3 13 = .ok (.astore_n 2, 1) := by decide +kernel
theorem dJx4a65c_remove_915e3_14 : decode cJx4a65c_remove_915e3 14 = .ok (.aload_n 2, 1) := by decide +kernel
theorem dJx4a65c_remove_915e3_15 : decode cJx4a65c_remove_915e3 15 = .ok (.iload_n 1, 1) := by decide +kernel
theorem dJx4a65c_remove_915e3_16 : decode cJx4a65c_remove_915e3 16 = .ok (.aaload, 1) := by decide +kernel
theorem dJx4a65c_remove_915e3_17 : decode cJx4a65c_remove_915e3 17 = .ok (.astore_n 3, 1) := by decide +kernel
theorem dJx4a65c_remove_915e3_18 : decode cJx4a65c_remove_915e3 18 = .ok (.aload_n 0, 1) := by decide +kernel
theorem dJx4a65c_remove_915e3_19 : decode cJx4a65c_remove_915e3 19 = .ok (.aload_n 2, 1) := by decide +kernel
theorem dJx4a65c_remove_915e3_20 : decode cJx4a65c_remove_915e3 20 = .ok (.iload_n 1, 1) := by decide +kernel
theorem dJx4a65c_remove_915e3_21 : decode cJx4a65c_remove_915e3 21 = .ok (.invokevirtual 144, 3) := by decide +kernel
theorem dJx4a65c_remove_915e3_24 : decode cJx4a65c_remove_915e3 24 = .ok (.aload_n 3, 1) := by decide +kernel
theorem dJx4a65c_remove_915e3_25 : decode cJx4a65c_remove_915e3 25 = .ok (.areturn, 1) := by decide +kernel
theorem dJx4a65c_fastRemove_b59b0_0 : decode cJx4a65c_fastRemove_b59b0 0 = .ok (.aload_n 0, 1) := by decide +kernel
theorem dJx4a65c_fastRemove_b59b0_1 : decode cJx4a65c_fastRemove_b59b0 1 = .ok (.dup, 1) := by decide +kernel
theorem dJx4a65c_fastRemove_b59b0_2 : decode cJx4a65c_fastRemove_b59b0 2 = .ok (.getfield 63, 3) := by decide +kernel
theorem dJx4a65c_fastRemove_b59b0_5 : decode cJx4a65c_fastRemove_b59b0 5 = .ok (.iconst 1, 1) := by decide +kernel
theorem dJx4a65c_fastRemove_b59b0_6 : decode cJx4a65c_fastRemove_b59b0 6 = .ok (.iadd, 1) := by decide +kernel
theorem dJx4a65c_fastRemove_b59b0_7 : decode cJx4a65c_fastRemove_b59b0 7 = .ok (.putfield 63, 3) := by decide +kernel
theorem dJx4a65c_fastRemove_b59b0_10 : decode cJx4a65c_fastRemove_b59b0 10 = .ok (.aload_n 0, 1) := by decide +kernel
theorem dJx4a65c_fastRemove_b59b0_11 : decode cJx4a65c_fastRemove_b59b0 11 = .ok (.getfield 48, 3) := by decide +kernel
theorem dJx4a65c_fastRemove_b59b0_14 : decode cJx4a65c_fastRemove_b59b0 14 = .ok (.iconst 1, 1) := by decide +kernel
theorem dJx4a65c_fastRemove_b59b0_15 : decode cJx4a65c_fastRemove_b59b0 15 = .ok (.isub, 1) := by decide +kernel
theorem dJx4a65c_fastRemove_b59b0_16 : decode cJx4a65c_fastRemove_b59b0 16 = .ok (.dup, 1) := by decide +kernel
theorem dJx4a65c_fastRemove_b59b0_17 : decode cJx4a65c_fastRemove_b59b0 17 = .ok (.istore_n 3, 1) := by decide +kernel
theorem dJx4a65c_fastRemove_b59b0_18 : decode cJx4a65c_fastRemove_b59b0 18 = .ok (.iload_n 2, 1) := by decide +kernel
theorem dJx4a65c_fastRemove_b59b0_19 : decode cJx4a65c_fastRemove_b59b0 19 = .ok (.if_icmp .le 15, 3) := by decide +kernel
theorem dJx4a65c_fastRemove_b59b0_22 : decode cJx4a65c_fastRemove_b59b0 22 = .ok (.aload_n 1, 1) := by decide +kernel
theorem dJx4a65c_fastRemove_b59b0_23 : decode cJx4a65c_fastRemove_b59b0 23 = .ok (.iload_n 2, 1) := by decide +kernel
theorem dJx4a65c_fastRemove_b59b0_24 : decode cJx4a65c_fastRemove_b59b0 24 = .ok (.iconst 1, 1) := by decide +kernel
theorem dJx4a65c_fastRemove_b59b0_25 : decode cJx4a65c_fastRemove_b59b0 25 = .ok (.iadd, 1) := by decide +kernel
theorem dJx4a65c_fastRemove_b59b0_26 : decode cJx4a65c_fastRemove_b59b0 26 = .ok (.aload_n 1, 1) := by decide +kernel
theorem dJx4a65c_fastRemove_b59b0_27 : decode cJx4a65c_fastRemove_b59b0 27 = .ok (.iload_n 2, 1) := by decide +kernel
theorem dJx4a65c_fastRemove_b59b0_28 : decode cJx4a65c_fastRemove_b59b0 28 = .ok (.iload_n 3, 1) := by decide +kernel
theorem dJx4a65c_fastRemove_b59b0_29 : decode cJx4a65c_fastRemove_b59b0 29 = .ok (.iload_n 2, 1) := by decide +kernel
theorem dJx4a65c_fastRemove_b59b0_30 : decode cJx4a65c_fastRemove_b59b0 30 = .ok (.isub, 1) := by decide +kernel
theorem dJx4a65c_fastRemove_b59b0_31 : decode cJx4a65c_fastRemove_b59b0 31 = .ok (.invokestatic 112, 3) := by decide +kernel
theorem dJx4a65c_fastRemove_b59b0_34 : decode cJx4a65c_fastRemove_b59b0 34 = .ok (.aload_n 1, 1) := by decide +kernel
theorem dJx4a65c_fastRemove_b59b0_35 : decode cJx4a65c_fastRemove_b59b0 35 = .ok (.aload_n 0, 1) := by decide +kernel
theorem dJx4a65c_fastRemove_b59b0_36 : decode cJx4a65c_fastRemove_b59b0 36 = .ok (.iload_n 3, 1) := by decide +kernel
theorem dJx4a65c_fastRemove_b59b0_37 : decode cJx4a65c_fastRemove_b59b0 37 = .ok (.dup_x1, 1) := by decide +kernel
theorem dJx4a65c_fastRemove_b59b0_38 : decode cJx4a65c_fastRemove_b59b0 38 = .ok (.putfield 48, 3) := by decide +kernel
theorem dJx4a65c_fastRemove_b59b0_41 : decode cJx4a65c_fastRemove_b59b0 41 = .ok (.aconst_null, 1) := by decide +kernel
theorem dJx4a65c_fastRemove_b59b0_42 : decode cJx4a65c_fastRemove_b59b0 42 = .ok (.aastore, 1) := by decide +kernel
theorem dJx4a65c_fastRemove_b59b0_43 : decode cJx4a65c_fastRemove_b59b0 43 = .ok (.return_, 1) := by decide +kernel
theorem dJ7_copyOf_1904c_0 : decode cJ7_copyOf_1904c 0 = .ok (.aload_n 0, 1) := by decide +kernel
theorem dJ7_copyOf_1904c_1 : decode cJ7_copyOf_1904c 1 = .ok (.iload_n 1, 1) := by decide +kernel
theorem dJ7_copyOf_1904c_2 : decode cJ7_copyOf_1904c 2 = .ok (.aload_n 0, 1) := by decide +kernel
theorem dJ7_copyOf_1904c_3 : decode cJ7_copyOf_1904c 3 = .ok (.invokevirtual 86, 3) := by decide +kernel
theorem dJ7_copyOf_1904c_6 : decode cJ7_copyOf_1904c 6 = .ok (.invokestatic 300, 3) := by decide +kernel
theorem dJ7_copyOf_1904c_9 : decode cJ7_copyOf_1904c 9 = .ok (.areturn, 1) := by decide +kernel
theorem dJ7_copyOf_6403c_0 : decode cJ7_copyOf_6403c 0 = .ok (.aload_n 2, 1) := by decide +kernel
theorem dJ7_copyOf_6403c_1 : decode cJ7_copyOf_6403c 1 = .ok (.ldc 110, 2) := by decide +kernel
theorem dJ7_copyOf_6403c_3 : decode cJ7_copyOf_6403c 3 = .ok (.if_acmp .ne 10, 3) := by decide +kernel
theorem dJ7_copyOf_6403c_6 : decode cJ7_copyOf_6403c 6 = .ok (.iload_n 1, 1) := by decide +kernel
theorem dJ7_copyOf_6403c_7 : decode cJ7_copyOf_6403c 7 = .ok (.anewarray 2, 3) := by decide +kernel
theorem dJ7_copyOf_6403c_10 : decode cJ7_copyOf_6403c 10 = .ok (.goto 14, 3) := by decide +kernel
theorem dJ7_copyOf_6403c_13 : decode cJ7_copyOf_6403c 13 = .ok (.aload_n 2, 1) := by decide +kernel
theorem dJ7_copyOf_6403c_14 : decode cJ7_copyOf_6403c 14 = .ok (.invokevirtual 90, 3) := by decide +kernel
theorem dJ7_copyOf_6403c_17 : decode cJ7_copyOf_6403c 17 = .ok (.iload_n 1, 1) := by decide +kernel
theorem dJ7_copyOf_6403c_18 : decode cJ7_copyOf_6403c 18 = .ok (.invokestatic 95, 3) := by decide +kernel
theorem dJ7_copyOf_6403c_21 : decode cJ7_copyOf_6403c 21 = .ok (.checkcast 110, 3) := by decide +kernel
theorem dJ7_copyOf_6403c_24 : decode cJ7_copyOf_6403c 24 = .ok (.astore_n 3, 1) := by decide +kernel
theorem dJ7_copyOf_6403c_25 : decode cJ7_copyOf_6403c 25 = .ok (.aload_n 0, 1) := by decide +kernel
theorem dJ7_copyOf_6403c_26 : decode cJ7_copyOf_6403c 26 = .ok (.iconst 0, 1) := by decide +kernel
theorem dJ7_copyOf_6403c_27 : decode cJ7_copyOf_6403c 27 = .ok (.aload_n 3, 1) := by decide +kernel
theorem dJ7_copyOf_6403c_28 : decode cJ7_copyOf_6403c 28 = .ok (.iconst 0, 1) := by decide +kernel
theorem dJ7_copyOf_6403c_29 : decode cJ7_copyOf_6403c 29 = .ok (.aload_n 0, 1) := by decide +kernel
theorem dJ7_copyOf_6403c_30 : decode cJ7_copyOf_6403c 30 = .ok (.arraylength, 1) := by decide +kernel
theorem dJ7_copyOf_6403c_31 : decode cJ7_copyOf_6403c 31 = .ok (.iload_n 1, 1) := by decide +kernel
theorem dJ7_copyOf_6403c_32 : decode cJ7_copyOf_6403c 32 = .ok (.invokestatic 304, 3) := by decide +kernel
theorem dJ7_copyOf_6403c_35 : decode cJ7_copyOf_6403c 35 = .ok (.invokestatic 150, 3) := by decide +kernel
theorem dJ7_copyOf_6403c_38 : decode cJ7_copyOf_6403c 38 = .ok (.aload_n 3, 1) := by decide +kernel
theorem dJ7_copyOf_6403c_39 : decode cJ7_copyOf_6403c 39 = .ok (.areturn, 1) := by decide +kernel
theorem dJ15_checkIndex_7cf53_0 : decode cJ15_checkIndex_7cf53 0 = .ok (.iload_n 0, 1) := by decide +kernel
theorem dJ15_checkIndex_7cf53_1 : decode cJ15_checkIndex_7cf53 1 = .ok (.iload_n 1, 1) := by decide +kernel
theorem dJ15_checkIndex_7cf53_2 : decode cJ15_checkIndex_7cf53 2 = .ok (.aconst_null, 1) := by decide +kernel
theorem dJ15_checkIndex_7cf53_3 : decode cJ15_checkIndex_7cf53 3 = .ok (.invokestatic 105, 3) := by decide +kernel
theorem dJ15_checkIndex_7cf53_6 : decode cJ15_checkIndex_7cf53 6 = .ok (.ireturn, 1) := by decide +kernel
theorem dJ8_newLength_cabcc_0 : decode cJ8_newLength_cabcc 0 = .ok (.iload_n 0, 1) := by decide +kernel
theorem dJ8_newLength_cabcc_1 : decode cJ8_newLength_cabcc 1 = .ok (.iload_n 1, 1) := by decide +kernel
theorem dJ8_newLength_cabcc_2 : decode cJ8_newLength_cabcc 2 = .ok (.iload_n 2, 1) := by decide +kernel
theorem dJ8_newLength_cabcc_3 : decode cJ8_newLength_cabcc 3 = .ok (.invokestatic 194, 3) := by decide +kernel
theorem dJ8_newLength_cabcc_6 : decode cJ8_newLength_cabcc 6 = .ok (.iadd, 1) := by decide +kernel
theorem dJ8_newLength_cabcc_7 : decode cJ8_newLength_cabcc 7 = .ok (.istore_n 3, 1) := by decide +kernel
theorem dJ8_newLength_cabcc_8 : decode cJ8_newLength_cabcc 8 = .ok (.iconst 0, 1) := by decide +kernel
theorem dJ8_newLength_cabcc_9 : decode cJ8_newLength_cabcc 9 = .ok (.iload_n 3, 1) := by decide +kernel
theorem dJ8_newLength_cabcc_10 : decode cJ8_newLength_cabcc 10 = .ok (.if_icmp .ge 11, 3) := by decide +kernel
theorem dJ8_newLength_cabcc_13 : decode cJ8_newLength_cabcc 13 = .ok (.iload_n 3, 1) := by decide +kernel
theorem dJ8_newLength_cabcc_14 : decode cJ8_newLength_cabcc 14 = .ok (.ldc 200, 2) := by decide +kernel
theorem dJ8_newLength_cabcc_16 : decode cJ8_newLength_cabcc 16 = .ok (.if_icmp .gt 5, 3) := by decide +kernel
theorem dJ8_newLength_cabcc_19 : decode cJ8_newLength_cabcc 19 = .ok (.iload_n 3, 1) := by decide +kernel
theorem dJ8_newLength_cabcc_20 : decode cJ8_newLength_cabcc 20 = .ok (.ireturn, 1) := by decide +kernel
theorem dJ8_newLength_cabcc_21 : decode cJ8_newLength_cabcc 21 = .ok (.iload_n 0, 1) := by decide +kernel
theorem dJ8_newLength_cabcc_22 : decode cJ8_newLength_cabcc 22 = .ok (.iload_n 1, 1) := by decide +kernel
theorem dJ8_newLength_cabcc_23 : decode cJ8_newLength_cabcc 23 = .ok (.invokestatic 201, 3) := by decide +kernel
theorem dJ8_newLength_cabcc_26 : decode cJ8_newLength_cabcc 26 = .ok (.ireturn, 1) := by decide +kernel
theorem dJ8_hugeLength_7cf53_0 : decode cJ8_hugeLength_7cf53 0 = .ok (.iload_n 0, 1) := by decide +kernel
theorem dJ8_hugeLength_7cf53_1 : decode cJ8_hugeLength_7cf53 1 = .ok (.iload_n 1, 1) := by decide +kernel
theorem dJ8_hugeLength_7cf53_2 : decode cJ8_hugeLength_7cf53 2 = .ok (.iadd, 1) := by decide +kernel
theorem dJ8_hugeLength_7cf53_3 : decode cJ8_hugeLength_7cf53 3 = .ok (.istore_n 2, 1) := by decide +kernel
theorem dJ8_hugeLength_7cf53_4 : decode cJ8_hugeLength_7cf53 4 = .ok (.iload_n 2, 1) := by decide +kernel
theorem dJ8_hugeLength_7cf53_5 : decode cJ8_hugeLength_7cf53 5 = .ok (.ifCond .ge 44, 3) := by decide +kernel
theorem dJ8_hugeLength_7cf53_8 : decode cJ8_hugeLength_7cf53 8 = .ok (.new 204, 3) := by decide +kernel
theorem dJ8_hugeLength_7cf53_11 : decode cJ8_hugeLength_7cf53 11 = .ok (.dup, 1) := by decide +kernel
theorem dJ8_hugeLength_7cf53_12 : decode cJ8_hugeLength_7cf53 12 = .ok (.new 89, 3) := by decide +kernel
theorem dJ8_hugeLength_7cf53_15 : decode cJ8_hugeLength_7cf53 15 = .ok (.dup, 1) := by decide +kernel
theorem dJ8_hugeLength_7cf53_16 : decode cJ8_hugeLength_7cf53 16 = .ok (.invokespecial 91, 3) := by decide +kernel
theorem dJ8_hugeLength_7cf53_19 : decode cJ8_hugeLength_7cf53 19 = .ok (.ldc 206, 2) := by decide +kernel
theorem dJ8_hugeLength_7cf53_21 : decode cJ8_hugeLength_7cf53 21 = .ok (.invokevirtual 94, 3) := by decide +kernel
theorem dJ8_hugeLength_7cf53_24 : decode cJ8_hugeLength_7cf53 24 = .ok (.iload_n 0, 1) := by decide +kernel
theorem dJ8_hugeLength_7cf53_25 : decode cJ8_hugeLength_7cf53 25 = .ok (.invokevirtual 98, 3) := by decide +kernel
theorem dJ8_hugeLength_7cf53_28 : decode cJ8_hugeLength_7cf53 28 = .ok (.ldc 208, 2) := by decide +kernel
theorem dJ8_hugeLength_7cf53_30 : decode cJ8_hugeLength_7cf53 30 = .ok (.invokevirtual 94, 3) := by decide +kernel
theorem dJ8_hugeLength_7cf53_33 : decode cJ8_hugeLength_7cf53 33 = .ok (.iload_n 1, 1) := by decide +kernel
theorem dJ8_hugeLength_7cf53_34 : decode cJ8_hugeLength_7cf53 34 = .ok (.invokevirtual 98, 3) := by decide +kernel
theorem dJ8_hugeLength_7cf53_37 : decode cJ8_hugeLength_7cf53 37 = .ok (.ldc 210, 2) := by decide +kernel
theorem dJ8_hugeLength_7cf53_39 : decode cJ8_hugeLength_7cf53 39 = .ok (.invokevirtual 94, 3) := by decide +kernel
theorem dJ8_hugeLength_7cf53_42 : decode cJ8_hugeLength_7cf53 42 = .ok (.invokevirtual 101, 3) := by decide +kernel
theorem dJ8_hugeLength_7cf53_45 : decode cJ8_hugeLength_7cf53 45 = .ok (.invokespecial 212, 3) := by decide +kernel
theorem dJ8_hugeLength_7cf53_48 : decode cJ8_hugeLength_7cf53 48 = .ok (.athrow, 1) := by decide +kernel
theorem dJ8_hugeLength_7cf53_49 : decode cJ8_hugeLength_7cf53 49 = .ok (.iload_n 2, 1) := by decide +kernel
theorem dJ8_hugeLength_7cf53_50 : decode cJ8_hugeLength_7cf53 50 = .ok (.ldc 200, 2) := by decide +kernel
theorem dJ8_hugeLength_7cf53_52 : decode cJ8_hugeLength_7cf53 52 = .ok (.if_icmp .gt 6, 3) := by decide +kernel
theorem dJ8_hugeLength_7cf53_55 : decode cJ8_hugeLength_7cf53 55 = .ok (.ldc 200, 2) := by decide +kernel
theorem dJ8_hugeLength_7cf53_57 : decode cJ8_hugeLength_7cf53 57 = .ok (.ireturn, 1) := by decide +kernel
theorem dJ8_hugeLength_7cf53_58 : decode cJ8_hugeLength_7cf53 58 = .ok (.iload_n 2, 1) := by decide +kernel
theorem dJ8_hugeLength_7cf53_59 : decode cJ8_hugeLength_7cf53 59 = .ok (.ireturn, 1) := by decide +kernel
theorem dJ3_checkIndex_8e157_0 : decode cJ3_checkIndex_8e157 0 = .ok (.iload_n 0, 1) := by decide +kernel
theorem dJ3_checkIndex_8e157_1 : decode cJ3_checkIndex_8e157 1 = .ok (.ifCond .lt 8, 3) := by decide +kernel
theorem dJ3_checkIndex_8e157_4 : decode cJ3_checkIndex_8e157 4 = .ok (.iload_n 0, 1) := by decide +kernel
theorem dJ3_checkIndex_8e157_5 : decode cJ3_checkIndex_8e157 5 = .ok (.iload_n 1, 1) := by decide +kernel
theorem dJ3_checkIndex_8e157_6 : decode cJ3_checkIndex_8e157 6 = .ok (.if_icmp .lt 10, 3) := by decide +kernel
theorem dJ3_checkIndex_8e157_9 : decode cJ3_checkIndex_8e157 9 = .ok (.aload_n 2, 1) := by decide +kernel
theorem dJ3_checkIndex_8e157_10 : decode cJ3_checkIndex_8e157 10 = .ok (.iload_n 0, 1) := by decide +kernel
theorem dJ3_checkIndex_8e157_11 : decode cJ3_checkIndex_8e157 11 = .ok (.iload_n 1, 1) := by decide +kernel
theorem dJ3_checkIndex_8e157_12 : decode cJ3_checkIndex_8e157 12 = .ok (.invokestatic 95, 3) := by decide +kernel
theorem dJ3_checkIndex_8e157_15 : decode cJ3_checkIndex_8e157 15 = .ok (.athrow, 1) := by decide +kernel
theorem dJ3_checkIndex_8e157_16 : decode cJ3_checkIndex_8e157 16 = .ok (.iload_n 0, 1) := by decide +kernel
theorem dJ3_checkIndex_8e157_17 : decode cJ3_checkIndex_8e157 17 = .ok (.ireturn, 1) := by decide +kernel
theorem dL_offer_0 : decode cL_offer 0 = .ok (.aload 4, 2) := by decide +kernel
theorem dL_offer_2 : decode cL_offer 2 = .ok (.iconst 0, 1) := by decide +kernel
theorem dL_offer_3 : decode cL_offer 3 = .ok (.aload_n 0, 1) := by decide +kernel
theorem dL_offer_4 : decode cL_offer 4 = .ok (.iload_n 1, 1) := by decide +kernel
theorem dL_offer_5 : decode cL_offer 5 = .ok (.iload_n 2, 1) := by decide +kernel
theorem dL_offer_6 : decode cL_offer 6 = .ok (.iload_n 3, 1) := by decide +kernel
theorem dL_offer_7 : decode cL_offer 7 = .ok (.invokevirtual 7, 3) := by decide +kernel
theorem dL_offer_10 : decode cL_offer 10 = .ok (.i2l, 1) := by decide +kernel
theorem dL_offer_11 : decode cL_offer 11 = .ok (.lastore, 1) := by decide +kernel
theorem dL_offer_12 : decode cL_offer 12 = .ok (.goto 11, 3) := by decide +kernel
theorem dL_offer_15 : decode cL_offer 15 = .ok (.astore 5, 2) := by decide +kernel
theorem dL_offer_17 : decode cL_offer 17 = .ok (.iconst 1, 1) := by decide +kernel
theorem dL_offer_18 : decode cL_offer 18 = .ok (.ireturn, 1) := by decide +kernel
theorem dL_offer_19 : decode cL_offer 19 = .ok (.astore 5, 2) := by decide +kernel
theorem dL_offer_21 : decode cL_offer 21 = .ok (.iconst 2, 1) := by decide +kernel
theorem dL_offer_22 : decode cL_offer 22 = .ok (.ireturn, 1) := by decide +kernel
theorem dL_offer_23 : decode cL_offer 23 = .ok (.iconst 0, 1) := by decide +kernel
theorem dL_offer_24 : decode cL_offer 24 = .ok (.ireturn, 1) := by decide +kernel
theorem dL_withdraw_0 : decode cL_withdraw 0 = .ok (.aload_n 2, 1) := by decide +kernel
theorem dL_withdraw_1 : decode cL_withdraw 1 = .ok (.iconst 0, 1) := by decide +kernel
theorem dL_withdraw_2 : decode cL_withdraw 2 = .ok (.aload_n 0, 1) := by decide +kernel
theorem dL_withdraw_3 : decode cL_withdraw 3 = .ok (.iload_n 1, 1) := by decide +kernel
theorem dL_withdraw_4 : decode cL_withdraw 4 = .ok (.invokevirtual 17, 3) := by decide +kernel
theorem dL_withdraw_7 : decode cL_withdraw 7 = .ok (.i2l, 1) := by decide +kernel
theorem dL_withdraw_8 : decode cL_withdraw 8 = .ok (.lastore, 1) := by decide +kernel
theorem dL_withdraw_9 : decode cL_withdraw 9 = .ok (.goto 9, 3) := by decide +kernel
theorem dL_withdraw_12 : decode cL_withdraw 12 = .ok (.astore_n 3, 1) := by decide +kernel
theorem dL_withdraw_13 : decode cL_withdraw 13 = .ok (.iconst 1, 1) := by decide +kernel
theorem dL_withdraw_14 : decode cL_withdraw 14 = .ok (.ireturn, 1) := by decide +kernel
theorem dL_withdraw_15 : decode cL_withdraw 15 = .ok (.astore_n 3, 1) := by decide +kernel
theorem dL_withdraw_16 : decode cL_withdraw 16 = .ok (.iconst 2, 1) := by decide +kernel
theorem dL_withdraw_17 : decode cL_withdraw 17 = .ok (.ireturn, 1) := by decide +kernel
theorem dL_withdraw_18 : decode cL_withdraw 18 = .ok (.iconst 0, 1) := by decide +kernel
theorem dL_withdraw_19 : decode cL_withdraw 19 = .ok (.ireturn, 1) := by decide +kernel
theorem dL_allow_0 : decode cL_allow 0 = .ok (.aload 4, 2) := by decide +kernel
theorem dL_allow_2 : decode cL_allow 2 = .ok (.iconst 0, 1) := by decide +kernel
theorem dL_allow_3 : decode cL_allow 3 = .ok (.aload_n 0, 1) := by decide +kernel
theorem dL_allow_4 : decode cL_allow 4 = .ok (.iload_n 1, 1) := by decide +kernel
theorem dL_allow_5 : decode cL_allow 5 = .ok (.iload_n 2, 1) := by decide +kernel
theorem dL_allow_6 : decode cL_allow 6 = .ok (.iload_n 3, 1) := by decide +kernel
theorem dL_allow_7 : decode cL_allow 7 = .ok (.invokevirtual 23, 3) := by decide +kernel
theorem dL_allow_10 : decode cL_allow 10 = .ok (.i2l, 1) := by decide +kernel
theorem dL_allow_11 : decode cL_allow 11 = .ok (.lastore, 1) := by decide +kernel
theorem dL_allow_12 : decode cL_allow 12 = .ok (.goto 11, 3) := by decide +kernel
theorem dL_allow_15 : decode cL_allow 15 = .ok (.astore 5, 2) := by decide +kernel
theorem dL_allow_17 : decode cL_allow 17 = .ok (.iconst 1, 1) := by decide +kernel
theorem dL_allow_18 : decode cL_allow 18 = .ok (.ireturn, 1) := by decide +kernel
theorem dL_allow_19 : decode cL_allow 19 = .ok (.astore 5, 2) := by decide +kernel
theorem dL_allow_21 : decode cL_allow 21 = .ok (.iconst 2, 1) := by decide +kernel
theorem dL_allow_22 : decode cL_allow 22 = .ok (.ireturn, 1) := by decide +kernel
theorem dL_allow_23 : decode cL_allow 23 = .ok (.iconst 0, 1) := by decide +kernel
theorem dL_allow_24 : decode cL_allow 24 = .ok (.ireturn, 1) := by decide +kernel
theorem dL_forbid_0 : decode cL_forbid 0 = .ok (.aload_n 1, 1) := by decide +kernel
theorem dL_forbid_1 : decode cL_forbid 1 = .ok (.iconst 0, 1) := by decide +kernel
theorem dL_forbid_2 : decode cL_forbid 2 = .ok (.aload_n 0, 1) := by decide +kernel
theorem dL_forbid_3 : decode cL_forbid 3 = .ok (.invokevirtual 27, 3) := by decide +kernel
theorem dL_forbid_6 : decode cL_forbid 6 = .ok (.i2l, 1) := by decide +kernel
theorem dL_forbid_7 : decode cL_forbid 7 = .ok (.lastore, 1) := by decide +kernel
theorem dL_forbid_8 : decode cL_forbid 8 = .ok (.goto 6, 3) := by decide +kernel
theorem dL_forbid_11 : decode cL_forbid 11 = .ok (.astore_n 2, 1) := by decide +kernel
theorem dL_forbid_12 : decode cL_forbid 12 = .ok (.iconst 1, 1) := by decide +kernel
theorem dL_forbid_13 : decode cL_forbid 13 = .ok (.ireturn, 1) := by decide +kernel
theorem dL_forbid_14 : decode cL_forbid 14 = .ok (.iconst 0, 1) := by decide +kernel
theorem dL_forbid_15 : decode cL_forbid 15 = .ok (.ireturn, 1) := by decide +kernel
theorem dL_bid_0 : decode cL_bid 0 = .ok (.aload_n 3, 1) := by decide +kernel
theorem dL_bid_1 : decode cL_bid 1 = .ok (.iconst 0, 1) := by decide +kernel
theorem dL_bid_2 : decode cL_bid 2 = .ok (.aload_n 0, 1) := by decide +kernel
theorem dL_bid_3 : decode cL_bid 3 = .ok (.iload_n 1, 1) := by decide +kernel
theorem dL_bid_4 : decode cL_bid 4 = .ok (.iload_n 2, 1) := by decide +kernel
theorem dL_bid_5 : decode cL_bid 5 = .ok (.invokevirtual 31, 3) := by decide +kernel
theorem dL_bid_8 : decode cL_bid 8 = .ok (.i2l, 1) := by decide +kernel
theorem dL_bid_9 : decode cL_bid 9 = .ok (.lastore, 1) := by decide +kernel
theorem dL_bid_10 : decode cL_bid 10 = .ok (.goto 11, 3) := by decide +kernel
theorem dL_bid_13 : decode cL_bid 13 = .ok (.astore 4, 2) := by decide +kernel
theorem dL_bid_15 : decode cL_bid 15 = .ok (.iconst 1, 1) := by decide +kernel
theorem dL_bid_16 : decode cL_bid 16 = .ok (.ireturn, 1) := by decide +kernel
theorem dL_bid_17 : decode cL_bid 17 = .ok (.astore 4, 2) := by decide +kernel
theorem dL_bid_19 : decode cL_bid 19 = .ok (.iconst 2, 1) := by decide +kernel
theorem dL_bid_20 : decode cL_bid 20 = .ok (.ireturn, 1) := by decide +kernel
theorem dL_bid_21 : decode cL_bid 21 = .ok (.iconst 0, 1) := by decide +kernel
theorem dL_bid_22 : decode cL_bid 22 = .ok (.ireturn, 1) := by decide +kernel
theorem dL_ask_0 : decode cL_ask 0 = .ok (.aload 4, 2) := by decide +kernel
theorem dL_ask_2 : decode cL_ask 2 = .ok (.iconst 0, 1) := by decide +kernel
theorem dL_ask_3 : decode cL_ask 3 = .ok (.aload_n 0, 1) := by decide +kernel
theorem dL_ask_4 : decode cL_ask 4 = .ok (.iload_n 1, 1) := by decide +kernel
theorem dL_ask_5 : decode cL_ask 5 = .ok (.iload_n 2, 1) := by decide +kernel
theorem dL_ask_6 : decode cL_ask 6 = .ok (.iload_n 3, 1) := by decide +kernel
theorem dL_ask_7 : decode cL_ask 7 = .ok (.invokevirtual 35, 3) := by decide +kernel
theorem dL_ask_10 : decode cL_ask 10 = .ok (.i2l, 1) := by decide +kernel
theorem dL_ask_11 : decode cL_ask 11 = .ok (.lastore, 1) := by decide +kernel
theorem dL_ask_12 : decode cL_ask 12 = .ok (.goto 15, 3) := by decide +kernel
theorem dL_ask_15 : decode cL_ask 15 = .ok (.astore 5, 2) := by decide +kernel
theorem dL_ask_17 : decode cL_ask 17 = .ok (.iconst 1, 1) := by decide +kernel
theorem dL_ask_18 : decode cL_ask 18 = .ok (.ireturn, 1) := by decide +kernel
theorem dL_ask_19 : decode cL_ask 19 = .ok (.astore 5, 2) := by decide +kernel
theorem dL_ask_21 : decode cL_ask 21 = .ok (.iconst 2, 1) := by decide +kernel
theorem dL_ask_22 : decode cL_ask 22 = .ok (.ireturn, 1) := by decide +kernel
theorem dL_ask_23 : decode cL_ask 23 = .ok (.astore 5, 2) := by decide +kernel
theorem dL_ask_25 : decode cL_ask 25 = .ok (.iconst 3, 1) := by decide +kernel
theorem dL_ask_26 : decode cL_ask 26 = .ok (.ireturn, 1) := by decide +kernel
theorem dL_ask_27 : decode cL_ask 27 = .ok (.iconst 0, 1) := by decide +kernel
theorem dL_ask_28 : decode cL_ask 28 = .ok (.ireturn, 1) := by decide +kernel
theorem dL_raise_0 : decode cL_raise 0 = .ok (.aload_n 3, 1) := by decide +kernel
theorem dL_raise_1 : decode cL_raise 1 = .ok (.iconst 0, 1) := by decide +kernel
theorem dL_raise_2 : decode cL_raise 2 = .ok (.aload_n 0, 1) := by decide +kernel
theorem dL_raise_3 : decode cL_raise 3 = .ok (.iload_n 1, 1) := by decide +kernel
theorem dL_raise_4 : decode cL_raise 4 = .ok (.iload_n 2, 1) := by decide +kernel
theorem dL_raise_5 : decode cL_raise 5 = .ok (.invokevirtual 39, 3) := by decide +kernel
theorem dL_raise_8 : decode cL_raise 8 = .ok (.i2l, 1) := by decide +kernel
theorem dL_raise_9 : decode cL_raise 9 = .ok (.lastore, 1) := by decide +kernel
theorem dL_raise_10 : decode cL_raise 10 = .ok (.goto 15, 3) := by decide +kernel
theorem dL_raise_13 : decode cL_raise 13 = .ok (.astore 4, 2) := by decide +kernel
theorem dL_raise_15 : decode cL_raise 15 = .ok (.iconst 1, 1) := by decide +kernel
theorem dL_raise_16 : decode cL_raise 16 = .ok (.ireturn, 1) := by decide +kernel
theorem dL_raise_17 : decode cL_raise 17 = .ok (.astore 4, 2) := by decide +kernel
theorem dL_raise_19 : decode cL_raise 19 = .ok (.iconst 2, 1) := by decide +kernel
theorem dL_raise_20 : decode cL_raise 20 = .ok (.ireturn, 1) := by decide +kernel
theorem dL_raise_21 : decode cL_raise 21 = .ok (.astore 4, 2) := by decide +kernel
theorem dL_raise_23 : decode cL_raise 23 = .ok (.iconst 3, 1) := by decide +kernel
theorem dL_raise_24 : decode cL_raise 24 = .ok (.ireturn, 1) := by decide +kernel
theorem dL_raise_25 : decode cL_raise 25 = .ok (.iconst 0, 1) := by decide +kernel
theorem dL_raise_26 : decode cL_raise 26 = .ok (.ireturn, 1) := by decide +kernel
theorem dL_cancel_0 : decode cL_cancel 0 = .ok (.aload_n 2, 1) := by decide +kernel
theorem dL_cancel_1 : decode cL_cancel 1 = .ok (.iconst 0, 1) := by decide +kernel
theorem dL_cancel_2 : decode cL_cancel 2 = .ok (.aload_n 0, 1) := by decide +kernel
theorem dL_cancel_3 : decode cL_cancel 3 = .ok (.iload_n 1, 1) := by decide +kernel
theorem dL_cancel_4 : decode cL_cancel 4 = .ok (.invokevirtual 42, 3) := by decide +kernel
theorem dL_cancel_7 : decode cL_cancel 7 = .ok (.i2l, 1) := by decide +kernel
theorem dL_cancel_8 : decode cL_cancel 8 = .ok (.lastore, 1) := by decide +kernel
theorem dL_cancel_9 : decode cL_cancel 9 = .ok (.goto 9, 3) := by decide +kernel
theorem dL_cancel_12 : decode cL_cancel 12 = .ok (.astore_n 3, 1) := by decide +kernel
theorem dL_cancel_13 : decode cL_cancel 13 = .ok (.iconst 1, 1) := by decide +kernel
theorem dL_cancel_14 : decode cL_cancel 14 = .ok (.ireturn, 1) := by decide +kernel
theorem dL_cancel_15 : decode cL_cancel 15 = .ok (.astore_n 3, 1) := by decide +kernel
theorem dL_cancel_16 : decode cL_cancel 16 = .ok (.iconst 2, 1) := by decide +kernel
theorem dL_cancel_17 : decode cL_cancel 17 = .ok (.ireturn, 1) := by decide +kernel
theorem dL_cancel_18 : decode cL_cancel 18 = .ok (.iconst 0, 1) := by decide +kernel
theorem dL_cancel_19 : decode cL_cancel 19 = .ok (.ireturn, 1) := by decide +kernel
theorem dL_close_0 : decode cL_close 0 = .ok (.aload_n 1, 1) := by decide +kernel
theorem dL_close_1 : decode cL_close 1 = .ok (.iconst 0, 1) := by decide +kernel
theorem dL_close_2 : decode cL_close 2 = .ok (.aload_n 0, 1) := by decide +kernel
theorem dL_close_3 : decode cL_close 3 = .ok (.invokevirtual 45, 3) := by decide +kernel
theorem dL_close_6 : decode cL_close 6 = .ok (.i2l, 1) := by decide +kernel
theorem dL_close_7 : decode cL_close 7 = .ok (.lastore, 1) := by decide +kernel
theorem dL_close_8 : decode cL_close 8 = .ok (.goto 6, 3) := by decide +kernel
theorem dL_close_11 : decode cL_close 11 = .ok (.astore_n 2, 1) := by decide +kernel
theorem dL_close_12 : decode cL_close 12 = .ok (.iconst 1, 1) := by decide +kernel
theorem dL_close_13 : decode cL_close 13 = .ok (.ireturn, 1) := by decide +kernel
theorem dL_close_14 : decode cL_close 14 = .ok (.iconst 0, 1) := by decide +kernel
theorem dL_close_15 : decode cL_close 15 = .ok (.ireturn, 1) := by decide +kernel
theorem dL_fibreOf_0 : decode cL_fibreOf 0 = .ok (.aload_n 2, 1) := by decide +kernel
theorem dL_fibreOf_1 : decode cL_fibreOf 1 = .ok (.iconst 0, 1) := by decide +kernel
theorem dL_fibreOf_2 : decode cL_fibreOf 2 = .ok (.aload_n 0, 1) := by decide +kernel
theorem dL_fibreOf_3 : decode cL_fibreOf 3 = .ok (.iload_n 1, 1) := by decide +kernel
theorem dL_fibreOf_4 : decode cL_fibreOf 4 = .ok (.invokevirtual 48, 3) := by decide +kernel
theorem dL_fibreOf_7 : decode cL_fibreOf 7 = .ok (.i2l, 1) := by decide +kernel
theorem dL_fibreOf_8 : decode cL_fibreOf 8 = .ok (.lastore, 1) := by decide +kernel
theorem dL_fibreOf_9 : decode cL_fibreOf 9 = .ok (.goto 6, 3) := by decide +kernel
theorem dL_fibreOf_12 : decode cL_fibreOf 12 = .ok (.astore_n 3, 1) := by decide +kernel
theorem dL_fibreOf_13 : decode cL_fibreOf 13 = .ok (.iconst 1, 1) := by decide +kernel
theorem dL_fibreOf_14 : decode cL_fibreOf 14 = .ok (.ireturn, 1) := by decide +kernel
theorem dL_fibreOf_15 : decode cL_fibreOf 15 = .ok (.iconst 0, 1) := by decide +kernel
theorem dL_fibreOf_16 : decode cL_fibreOf 16 = .ok (.ireturn, 1) := by decide +kernel
theorem dL_gradeOf_0 : decode cL_gradeOf 0 = .ok (.aload_n 2, 1) := by decide +kernel
theorem dL_gradeOf_1 : decode cL_gradeOf 1 = .ok (.iconst 0, 1) := by decide +kernel
theorem dL_gradeOf_2 : decode cL_gradeOf 2 = .ok (.aload_n 0, 1) := by decide +kernel
theorem dL_gradeOf_3 : decode cL_gradeOf 3 = .ok (.iload_n 1, 1) := by decide +kernel
theorem dL_gradeOf_4 : decode cL_gradeOf 4 = .ok (.invokevirtual 51, 3) := by decide +kernel
theorem dL_gradeOf_7 : decode cL_gradeOf 7 = .ok (.i2l, 1) := by decide +kernel
theorem dL_gradeOf_8 : decode cL_gradeOf 8 = .ok (.lastore, 1) := by decide +kernel
theorem dL_gradeOf_9 : decode cL_gradeOf 9 = .ok (.goto 6, 3) := by decide +kernel
theorem dL_gradeOf_12 : decode cL_gradeOf 12 = .ok (.astore_n 3, 1) := by decide +kernel
theorem dL_gradeOf_13 : decode cL_gradeOf 13 = .ok (.iconst 1, 1) := by decide +kernel
theorem dL_gradeOf_14 : decode cL_gradeOf 14 = .ok (.ireturn, 1) := by decide +kernel
theorem dL_gradeOf_15 : decode cL_gradeOf 15 = .ok (.iconst 0, 1) := by decide +kernel
theorem dL_gradeOf_16 : decode cL_gradeOf 16 = .ok (.ireturn, 1) := by decide +kernel
theorem dL_reserveOf_0 : decode cL_reserveOf 0 = .ok (.aload_n 2, 1) := by decide +kernel
theorem dL_reserveOf_1 : decode cL_reserveOf 1 = .ok (.iconst 0, 1) := by decide +kernel
theorem dL_reserveOf_2 : decode cL_reserveOf 2 = .ok (.aload_n 0, 1) := by decide +kernel
theorem dL_reserveOf_3 : decode cL_reserveOf 3 = .ok (.iload_n 1, 1) := by decide +kernel
theorem dL_reserveOf_4 : decode cL_reserveOf 4 = .ok (.invokevirtual 55, 3) := by decide +kernel
theorem dL_reserveOf_7 : decode cL_reserveOf 7 = .ok (.i2l, 1) := by decide +kernel
theorem dL_reserveOf_8 : decode cL_reserveOf 8 = .ok (.lastore, 1) := by decide +kernel
theorem dL_reserveOf_9 : decode cL_reserveOf 9 = .ok (.goto 6, 3) := by decide +kernel
theorem dL_reserveOf_12 : decode cL_reserveOf 12 = .ok (.astore_n 3, 1) := by decide +kernel
theorem dL_reserveOf_13 : decode cL_reserveOf 13 = .ok (.iconst 1, 1) := by decide +kernel
theorem dL_reserveOf_14 : decode cL_reserveOf 14 = .ok (.ireturn, 1) := by decide +kernel
theorem dL_reserveOf_15 : decode cL_reserveOf 15 = .ok (.iconst 0, 1) := by decide +kernel
theorem dL_reserveOf_16 : decode cL_reserveOf 16 = .ok (.ireturn, 1) := by decide +kernel
theorem dL_lotState_0 : decode cL_lotState 0 = .ok (.aload_n 2, 1) := by decide +kernel
theorem dL_lotState_1 : decode cL_lotState 1 = .ok (.iconst 0, 1) := by decide +kernel
theorem dL_lotState_2 : decode cL_lotState 2 = .ok (.aload_n 0, 1) := by decide +kernel
theorem dL_lotState_3 : decode cL_lotState 3 = .ok (.iload_n 1, 1) := by decide +kernel
theorem dL_lotState_4 : decode cL_lotState 4 = .ok (.invokevirtual 58, 3) := by decide +kernel
theorem dL_lotState_7 : decode cL_lotState 7 = .ok (.i2l, 1) := by decide +kernel
theorem dL_lotState_8 : decode cL_lotState 8 = .ok (.lastore, 1) := by decide +kernel
theorem dL_lotState_9 : decode cL_lotState 9 = .ok (.goto 6, 3) := by decide +kernel
theorem dL_lotState_12 : decode cL_lotState 12 = .ok (.astore_n 3, 1) := by decide +kernel
theorem dL_lotState_13 : decode cL_lotState 13 = .ok (.iconst 1, 1) := by decide +kernel
theorem dL_lotState_14 : decode cL_lotState 14 = .ok (.ireturn, 1) := by decide +kernel
theorem dL_lotState_15 : decode cL_lotState 15 = .ok (.iconst 0, 1) := by decide +kernel
theorem dL_lotState_16 : decode cL_lotState 16 = .ok (.ireturn, 1) := by decide +kernel
theorem dL_soldTo_0 : decode cL_soldTo 0 = .ok (.aload_n 2, 1) := by decide +kernel
theorem dL_soldTo_1 : decode cL_soldTo 1 = .ok (.iconst 0, 1) := by decide +kernel
theorem dL_soldTo_2 : decode cL_soldTo 2 = .ok (.aload_n 0, 1) := by decide +kernel
theorem dL_soldTo_3 : decode cL_soldTo 3 = .ok (.iload_n 1, 1) := by decide +kernel
theorem dL_soldTo_4 : decode cL_soldTo 4 = .ok (.invokevirtual 61, 3) := by decide +kernel
theorem dL_soldTo_7 : decode cL_soldTo 7 = .ok (.i2l, 1) := by decide +kernel
theorem dL_soldTo_8 : decode cL_soldTo 8 = .ok (.lastore, 1) := by decide +kernel
theorem dL_soldTo_9 : decode cL_soldTo 9 = .ok (.goto 9, 3) := by decide +kernel
theorem dL_soldTo_12 : decode cL_soldTo 12 = .ok (.astore_n 3, 1) := by decide +kernel
theorem dL_soldTo_13 : decode cL_soldTo 13 = .ok (.iconst 1, 1) := by decide +kernel
theorem dL_soldTo_14 : decode cL_soldTo 14 = .ok (.ireturn, 1) := by decide +kernel
theorem dL_soldTo_15 : decode cL_soldTo 15 = .ok (.astore_n 3, 1) := by decide +kernel
theorem dL_soldTo_16 : decode cL_soldTo 16 = .ok (.iconst 2, 1) := by decide +kernel
theorem dL_soldTo_17 : decode cL_soldTo 17 = .ok (.ireturn, 1) := by decide +kernel
theorem dL_soldTo_18 : decode cL_soldTo 18 = .ok (.iconst 0, 1) := by decide +kernel
theorem dL_soldTo_19 : decode cL_soldTo 19 = .ok (.ireturn, 1) := by decide +kernel
theorem dL_countOf_0 : decode cL_countOf 0 = .ok (.aload_n 3, 1) := by decide +kernel
theorem dL_countOf_1 : decode cL_countOf 1 = .ok (.iconst 0, 1) := by decide +kernel
theorem dL_countOf_2 : decode cL_countOf 2 = .ok (.aload_n 0, 1) := by decide +kernel
theorem dL_countOf_3 : decode cL_countOf 3 = .ok (.iload_n 1, 1) := by decide +kernel
theorem dL_countOf_4 : decode cL_countOf 4 = .ok (.iload_n 2, 1) := by decide +kernel
theorem dL_countOf_5 : decode cL_countOf 5 = .ok (.invokevirtual 64, 3) := by decide +kernel
theorem dL_countOf_8 : decode cL_countOf 8 = .ok (.i2l, 1) := by decide +kernel
theorem dL_countOf_9 : decode cL_countOf 9 = .ok (.lastore, 1) := by decide +kernel
theorem dL_countOf_10 : decode cL_countOf 10 = .ok (.goto 7, 3) := by decide +kernel
theorem dL_countOf_13 : decode cL_countOf 13 = .ok (.astore 4, 2) := by decide +kernel
theorem dL_countOf_15 : decode cL_countOf 15 = .ok (.iconst 1, 1) := by decide +kernel
theorem dL_countOf_16 : decode cL_countOf 16 = .ok (.ireturn, 1) := by decide +kernel
theorem dL_countOf_17 : decode cL_countOf 17 = .ok (.iconst 0, 1) := by decide +kernel
theorem dL_countOf_18 : decode cL_countOf 18 = .ok (.ireturn, 1) := by decide +kernel
theorem dL_items_0 : decode cL_items 0 = .ok (.aload_n 2, 1) := by decide +kernel
theorem dL_items_1 : decode cL_items 1 = .ok (.iconst 0, 1) := by decide +kernel
theorem dL_items_2 : decode cL_items 2 = .ok (.aload_n 0, 1) := by decide +kernel
theorem dL_items_3 : decode cL_items 3 = .ok (.iload_n 1, 1) := by decide +kernel
theorem dL_items_4 : decode cL_items 4 = .ok (.invokevirtual 68, 3) := by decide +kernel
theorem dL_items_7 : decode cL_items 7 = .ok (.i2l, 1) := by decide +kernel
theorem dL_items_8 : decode cL_items 8 = .ok (.lastore, 1) := by decide +kernel
theorem dL_items_9 : decode cL_items 9 = .ok (.goto 6, 3) := by decide +kernel
theorem dL_items_12 : decode cL_items 12 = .ok (.astore_n 3, 1) := by decide +kernel
theorem dL_items_13 : decode cL_items 13 = .ok (.iconst 1, 1) := by decide +kernel
theorem dL_items_14 : decode cL_items 14 = .ok (.ireturn, 1) := by decide +kernel
theorem dL_items_15 : decode cL_items 15 = .ok (.iconst 0, 1) := by decide +kernel
theorem dL_items_16 : decode cL_items 16 = .ok (.ireturn, 1) := by decide +kernel
theorem dL_fits_0 : decode cL_fits 0 = .ok (.aload 4, 2) := by decide +kernel
theorem dL_fits_2 : decode cL_fits 2 = .ok (.iconst 0, 1) := by decide +kernel
theorem dL_fits_3 : decode cL_fits 3 = .ok (.aload_n 0, 1) := by decide +kernel
theorem dL_fits_4 : decode cL_fits 4 = .ok (.iload_n 1, 1) := by decide +kernel
theorem dL_fits_5 : decode cL_fits 5 = .ok (.iload_n 2, 1) := by decide +kernel
theorem dL_fits_6 : decode cL_fits 6 = .ok (.iload_n 3, 1) := by decide +kernel
theorem dL_fits_7 : decode cL_fits 7 = .ok (.invokevirtual 71, 3) := by decide +kernel
theorem dL_fits_10 : decode cL_fits 10 = .ok (.ifCond .eq 7, 3) := by decide +kernel
theorem dL_fits_13 : decode cL_fits 13 = .ok (.lconst 1, 1) := by decide +kernel
theorem dL_fits_14 : decode cL_fits 14 = .ok (.goto 4, 3) := by decide +kernel
theorem dL_fits_17 : decode cL_fits 17 = .ok (.lconst 0, 1) := by decide +kernel
theorem dL_fits_18 : decode cL_fits 18 = .ok (.lastore, 1) := by decide +kernel
theorem dL_fits_19 : decode cL_fits 19 = .ok (.goto 11, 3) := by decide +kernel
theorem dL_fits_22 : decode cL_fits 22 = .ok (.astore 5, 2) := by decide +kernel
theorem dL_fits_24 : decode cL_fits 24 = .ok (.iconst 1, 1) := by decide +kernel
theorem dL_fits_25 : decode cL_fits 25 = .ok (.ireturn, 1) := by decide +kernel
theorem dL_fits_26 : decode cL_fits 26 = .ok (.astore 5, 2) := by decide +kernel
theorem dL_fits_28 : decode cL_fits 28 = .ok (.iconst 2, 1) := by decide +kernel
theorem dL_fits_29 : decode cL_fits 29 = .ok (.ireturn, 1) := by decide +kernel
theorem dL_fits_30 : decode cL_fits 30 = .ok (.iconst 0, 1) := by decide +kernel
theorem dL_fits_31 : decode cL_fits 31 = .ok (.ireturn, 1) := by decide +kernel
theorem dL_fitting_0 : decode cL_fitting 0 = .ok (.aload_n 3, 1) := by decide +kernel
theorem dL_fitting_1 : decode cL_fitting 1 = .ok (.iconst 0, 1) := by decide +kernel
theorem dL_fitting_2 : decode cL_fitting 2 = .ok (.aload_n 0, 1) := by decide +kernel
theorem dL_fitting_3 : decode cL_fitting 3 = .ok (.iload_n 1, 1) := by decide +kernel
theorem dL_fitting_4 : decode cL_fitting 4 = .ok (.iload_n 2, 1) := by decide +kernel
theorem dL_fitting_5 : decode cL_fitting 5 = .ok (.invokevirtual 77, 3) := by decide +kernel
theorem dL_fitting_8 : decode cL_fitting 8 = .ok (.i2l, 1) := by decide +kernel
theorem dL_fitting_9 : decode cL_fitting 9 = .ok (.lastore, 1) := by decide +kernel
theorem dL_fitting_10 : decode cL_fitting 10 = .ok (.goto 11, 3) := by decide +kernel
theorem dL_fitting_13 : decode cL_fitting 13 = .ok (.astore 4, 2) := by decide +kernel
theorem dL_fitting_15 : decode cL_fitting 15 = .ok (.iconst 1, 1) := by decide +kernel
theorem dL_fitting_16 : decode cL_fitting 16 = .ok (.ireturn, 1) := by decide +kernel
theorem dL_fitting_17 : decode cL_fitting 17 = .ok (.astore 4, 2) := by decide +kernel
theorem dL_fitting_19 : decode cL_fitting 19 = .ok (.iconst 2, 1) := by decide +kernel
theorem dL_fitting_20 : decode cL_fitting 20 = .ok (.ireturn, 1) := by decide +kernel
theorem dL_fitting_21 : decode cL_fitting 21 = .ok (.iconst 0, 1) := by decide +kernel
theorem dL_fitting_22 : decode cL_fitting 22 = .ok (.ireturn, 1) := by decide +kernel
theorem dL_priceOf_0 : decode cL_priceOf 0 = .ok (.aload_n 2, 1) := by decide +kernel
theorem dL_priceOf_1 : decode cL_priceOf 1 = .ok (.iconst 0, 1) := by decide +kernel
theorem dL_priceOf_2 : decode cL_priceOf 2 = .ok (.aload_n 0, 1) := by decide +kernel
theorem dL_priceOf_3 : decode cL_priceOf 3 = .ok (.iload_n 1, 1) := by decide +kernel
theorem dL_priceOf_4 : decode cL_priceOf 4 = .ok (.invokevirtual 80, 3) := by decide +kernel
theorem dL_priceOf_7 : decode cL_priceOf 7 = .ok (.i2l, 1) := by decide +kernel
theorem dL_priceOf_8 : decode cL_priceOf 8 = .ok (.lastore, 1) := by decide +kernel
theorem dL_priceOf_9 : decode cL_priceOf 9 = .ok (.goto 6, 3) := by decide +kernel
theorem dL_priceOf_12 : decode cL_priceOf 12 = .ok (.astore_n 3, 1) := by decide +kernel
theorem dL_priceOf_13 : decode cL_priceOf 13 = .ok (.iconst 1, 1) := by decide +kernel
theorem dL_priceOf_14 : decode cL_priceOf 14 = .ok (.ireturn, 1) := by decide +kernel
theorem dL_priceOf_15 : decode cL_priceOf 15 = .ok (.iconst 0, 1) := by decide +kernel
theorem dL_priceOf_16 : decode cL_priceOf 16 = .ok (.ireturn, 1) := by decide +kernel
theorem dL_stateOf_0 : decode cL_stateOf 0 = .ok (.aload_n 2, 1) := by decide +kernel
theorem dL_stateOf_1 : decode cL_stateOf 1 = .ok (.iconst 0, 1) := by decide +kernel
theorem dL_stateOf_2 : decode cL_stateOf 2 = .ok (.aload_n 0, 1) := by decide +kernel
theorem dL_stateOf_3 : decode cL_stateOf 3 = .ok (.iload_n 1, 1) := by decide +kernel
theorem dL_stateOf_4 : decode cL_stateOf 4 = .ok (.invokevirtual 83, 3) := by decide +kernel
theorem dL_stateOf_7 : decode cL_stateOf 7 = .ok (.i2l, 1) := by decide +kernel
theorem dL_stateOf_8 : decode cL_stateOf 8 = .ok (.lastore, 1) := by decide +kernel
theorem dL_stateOf_9 : decode cL_stateOf 9 = .ok (.goto 6, 3) := by decide +kernel
theorem dL_stateOf_12 : decode cL_stateOf 12 = .ok (.astore_n 3, 1) := by decide +kernel
theorem dL_stateOf_13 : decode cL_stateOf 13 = .ok (.iconst 1, 1) := by decide +kernel
theorem dL_stateOf_14 : decode cL_stateOf 14 = .ok (.ireturn, 1) := by decide +kernel
theorem dL_stateOf_15 : decode cL_stateOf 15 = .ok (.iconst 0, 1) := by decide +kernel
theorem dL_stateOf_16 : decode cL_stateOf 16 = .ok (.ireturn, 1) := by decide +kernel
theorem dL_reason_0 : decode cL_reason 0 = .ok (.aload_n 2, 1) := by decide +kernel
theorem dL_reason_1 : decode cL_reason 1 = .ok (.iconst 0, 1) := by decide +kernel
theorem dL_reason_2 : decode cL_reason 2 = .ok (.aload_n 0, 1) := by decide +kernel
theorem dL_reason_3 : decode cL_reason 3 = .ok (.iload_n 1, 1) := by decide +kernel
theorem dL_reason_4 : decode cL_reason 4 = .ok (.invokevirtual 86, 3) := by decide +kernel
theorem dL_reason_7 : decode cL_reason 7 = .ok (.i2l, 1) := by decide +kernel
theorem dL_reason_8 : decode cL_reason 8 = .ok (.lastore, 1) := by decide +kernel
theorem dL_reason_9 : decode cL_reason 9 = .ok (.goto 9, 3) := by decide +kernel
theorem dL_reason_12 : decode cL_reason 12 = .ok (.astore_n 3, 1) := by decide +kernel
theorem dL_reason_13 : decode cL_reason 13 = .ok (.iconst 1, 1) := by decide +kernel
theorem dL_reason_14 : decode cL_reason 14 = .ok (.ireturn, 1) := by decide +kernel
theorem dL_reason_15 : decode cL_reason 15 = .ok (.astore_n 3, 1) := by decide +kernel
theorem dL_reason_16 : decode cL_reason 16 = .ok (.iconst 2, 1) := by decide +kernel
theorem dL_reason_17 : decode cL_reason 17 = .ok (.ireturn, 1) := by decide +kernel
theorem dL_reason_18 : decode cL_reason 18 = .ok (.iconst 0, 1) := by decide +kernel
theorem dL_reason_19 : decode cL_reason 19 = .ok (.ireturn, 1) := by decide +kernel
theorem dL_rival_0 : decode cL_rival 0 = .ok (.aload_n 2, 1) := by decide +kernel
theorem dL_rival_1 : decode cL_rival 1 = .ok (.iconst 0, 1) := by decide +kernel
theorem dL_rival_2 : decode cL_rival 2 = .ok (.aload_n 0, 1) := by decide +kernel
theorem dL_rival_3 : decode cL_rival 3 = .ok (.iload_n 1, 1) := by decide +kernel
theorem dL_rival_4 : decode cL_rival 4 = .ok (.invokevirtual 89, 3) := by decide +kernel
theorem dL_rival_7 : decode cL_rival 7 = .ok (.i2l, 1) := by decide +kernel
theorem dL_rival_8 : decode cL_rival 8 = .ok (.lastore, 1) := by decide +kernel
theorem dL_rival_9 : decode cL_rival 9 = .ok (.goto 9, 3) := by decide +kernel
theorem dL_rival_12 : decode cL_rival 12 = .ok (.astore_n 3, 1) := by decide +kernel
theorem dL_rival_13 : decode cL_rival 13 = .ok (.iconst 1, 1) := by decide +kernel
theorem dL_rival_14 : decode cL_rival 14 = .ok (.ireturn, 1) := by decide +kernel
theorem dL_rival_15 : decode cL_rival 15 = .ok (.astore_n 3, 1) := by decide +kernel
theorem dL_rival_16 : decode cL_rival 16 = .ok (.iconst 2, 1) := by decide +kernel
theorem dL_rival_17 : decode cL_rival 17 = .ok (.ireturn, 1) := by decide +kernel
theorem dL_rival_18 : decode cL_rival 18 = .ok (.iconst 0, 1) := by decide +kernel
theorem dL_rival_19 : decode cL_rival 19 = .ok (.ireturn, 1) := by decide +kernel
theorem dL_lotOf_0 : decode cL_lotOf 0 = .ok (.aload_n 3, 1) := by decide +kernel
theorem dL_lotOf_1 : decode cL_lotOf 1 = .ok (.iconst 0, 1) := by decide +kernel
theorem dL_lotOf_2 : decode cL_lotOf 2 = .ok (.aload_n 0, 1) := by decide +kernel
theorem dL_lotOf_3 : decode cL_lotOf 3 = .ok (.iload_n 1, 1) := by decide +kernel
theorem dL_lotOf_4 : decode cL_lotOf 4 = .ok (.iload_n 2, 1) := by decide +kernel
theorem dL_lotOf_5 : decode cL_lotOf 5 = .ok (.invokevirtual 92, 3) := by decide +kernel
theorem dL_lotOf_8 : decode cL_lotOf 8 = .ok (.i2l, 1) := by decide +kernel
theorem dL_lotOf_9 : decode cL_lotOf 9 = .ok (.lastore, 1) := by decide +kernel
theorem dL_lotOf_10 : decode cL_lotOf 10 = .ok (.goto 15, 3) := by decide +kernel
theorem dL_lotOf_13 : decode cL_lotOf 13 = .ok (.astore 4, 2) := by decide +kernel
theorem dL_lotOf_15 : decode cL_lotOf 15 = .ok (.iconst 1, 1) := by decide +kernel
theorem dL_lotOf_16 : decode cL_lotOf 16 = .ok (.ireturn, 1) := by decide +kernel
theorem dL_lotOf_17 : decode cL_lotOf 17 = .ok (.astore 4, 2) := by decide +kernel
theorem dL_lotOf_19 : decode cL_lotOf 19 = .ok (.iconst 2, 1) := by decide +kernel
theorem dL_lotOf_20 : decode cL_lotOf 20 = .ok (.ireturn, 1) := by decide +kernel
theorem dL_lotOf_21 : decode cL_lotOf 21 = .ok (.astore 4, 2) := by decide +kernel
theorem dL_lotOf_23 : decode cL_lotOf 23 = .ok (.iconst 3, 1) := by decide +kernel
theorem dL_lotOf_24 : decode cL_lotOf 24 = .ok (.ireturn, 1) := by decide +kernel
theorem dL_lotOf_25 : decode cL_lotOf 25 = .ok (.iconst 0, 1) := by decide +kernel
theorem dL_lotOf_26 : decode cL_lotOf 26 = .ok (.ireturn, 1) := by decide +kernel
theorem dL_paid_0 : decode cL_paid 0 = .ok (.aload_n 2, 1) := by decide +kernel
theorem dL_paid_1 : decode cL_paid 1 = .ok (.iconst 0, 1) := by decide +kernel
theorem dL_paid_2 : decode cL_paid 2 = .ok (.aload_n 0, 1) := by decide +kernel
theorem dL_paid_3 : decode cL_paid 3 = .ok (.iload_n 1, 1) := by decide +kernel
theorem dL_paid_4 : decode cL_paid 4 = .ok (.invokevirtual 95, 3) := by decide +kernel
theorem dL_paid_7 : decode cL_paid 7 = .ok (.i2l, 1) := by decide +kernel
theorem dL_paid_8 : decode cL_paid 8 = .ok (.lastore, 1) := by decide +kernel
theorem dL_paid_9 : decode cL_paid 9 = .ok (.goto 9, 3) := by decide +kernel
theorem dL_paid_12 : decode cL_paid 12 = .ok (.astore_n 3, 1) := by decide +kernel
theorem dL_paid_13 : decode cL_paid 13 = .ok (.iconst 1, 1) := by decide +kernel
theorem dL_paid_14 : decode cL_paid 14 = .ok (.ireturn, 1) := by decide +kernel
theorem dL_paid_15 : decode cL_paid 15 = .ok (.astore_n 3, 1) := by decide +kernel
theorem dL_paid_16 : decode cL_paid 16 = .ok (.iconst 2, 1) := by decide +kernel
theorem dL_paid_17 : decode cL_paid 17 = .ok (.ireturn, 1) := by decide +kernel
theorem dL_paid_18 : decode cL_paid 18 = .ok (.iconst 0, 1) := by decide +kernel
theorem dL_paid_19 : decode cL_paid 19 = .ok (.ireturn, 1) := by decide +kernel
theorem dL_costOf_0 : decode cL_costOf 0 = .ok (.aload_n 2, 1) := by decide +kernel
theorem dL_costOf_1 : decode cL_costOf 1 = .ok (.iconst 0, 1) := by decide +kernel
theorem dL_costOf_2 : decode cL_costOf 2 = .ok (.aload_n 0, 1) := by decide +kernel
theorem dL_costOf_3 : decode cL_costOf 3 = .ok (.iload_n 1, 1) := by decide +kernel
theorem dL_costOf_4 : decode cL_costOf 4 = .ok (.invokevirtual 98, 3) := by decide +kernel
theorem dL_costOf_7 : decode cL_costOf 7 = .ok (.i2l, 1) := by decide +kernel
theorem dL_costOf_8 : decode cL_costOf 8 = .ok (.lastore, 1) := by decide +kernel
theorem dL_costOf_9 : decode cL_costOf 9 = .ok (.goto 12, 3) := by decide +kernel
theorem dL_costOf_12 : decode cL_costOf 12 = .ok (.astore_n 3, 1) := by decide +kernel
theorem dL_costOf_13 : decode cL_costOf 13 = .ok (.iconst 1, 1) := by decide +kernel
theorem dL_costOf_14 : decode cL_costOf 14 = .ok (.ireturn, 1) := by decide +kernel
theorem dL_costOf_15 : decode cL_costOf 15 = .ok (.astore_n 3, 1) := by decide +kernel
theorem dL_costOf_16 : decode cL_costOf 16 = .ok (.iconst 2, 1) := by decide +kernel
theorem dL_costOf_17 : decode cL_costOf 17 = .ok (.ireturn, 1) := by decide +kernel
theorem dL_costOf_18 : decode cL_costOf 18 = .ok (.astore_n 3, 1) := by decide +kernel
theorem dL_costOf_19 : decode cL_costOf 19 = .ok (.iconst 3, 1) := by decide +kernel
theorem dL_costOf_20 : decode cL_costOf 20 = .ok (.ireturn, 1) := by decide +kernel
theorem dL_costOf_21 : decode cL_costOf 21 = .ok (.iconst 0, 1) := by decide +kernel
theorem dL_costOf_22 : decode cL_costOf 22 = .ok (.ireturn, 1) := by decide +kernel
theorem dL_surplusWithout_0 : decode cL_surplusWithout 0 = .ok (.aload_n 2, 1) := by decide +kernel
theorem dL_surplusWithout_1 : decode cL_surplusWithout 1 = .ok (.iconst 0, 1) := by decide +kernel
theorem dL_surplusWithout_2 : decode cL_surplusWithout 2 = .ok (.aload_n 0, 1) := by decide +kernel
theorem dL_surplusWithout_3 : decode cL_surplusWithout 3 = .ok (.iload_n 1, 1) := by decide +kernel
theorem dL_surplusWithout_4 : decode cL_surplusWithout 4 = .ok (.invokevirtual 103, 3) := by decide +kernel
theorem dL_surplusWithout_7 : decode cL_surplusWithout 7 = .ok (.i2l, 1) := by decide +kernel
theorem dL_surplusWithout_8 : decode cL_surplusWithout 8 = .ok (.lastore, 1) := by decide +kernel
theorem dL_surplusWithout_9 : decode cL_surplusWithout 9 = .ok (.goto 6, 3) := by decide +kernel
theorem dL_surplusWithout_12 : decode cL_surplusWithout 12 = .ok (.astore_n 3, 1) := by decide +kernel
theorem dL_surplusWithout_13 : decode cL_surplusWithout 13 = .ok (.iconst 1, 1) := by decide +kernel
theorem dL_surplusWithout_14 : decode cL_surplusWithout 14 = .ok (.ireturn, 1) := by decide +kernel
theorem dL_surplusWithout_15 : decode cL_surplusWithout 15 = .ok (.iconst 0, 1) := by decide +kernel
theorem dL_surplusWithout_16 : decode cL_surplusWithout 16 = .ok (.ireturn, 1) := by decide +kernel
theorem dL_wouldWin_0 : decode cL_wouldWin 0 = .ok (.aload_n 2, 1) := by decide +kernel
theorem dL_wouldWin_1 : decode cL_wouldWin 1 = .ok (.iconst 0, 1) := by decide +kernel
theorem dL_wouldWin_2 : decode cL_wouldWin 2 = .ok (.aload_n 0, 1) := by decide +kernel
theorem dL_wouldWin_3 : decode cL_wouldWin 3 = .ok (.iload_n 1, 1) := by decide +kernel
theorem dL_wouldWin_4 : decode cL_wouldWin 4 = .ok (.invokevirtual 106, 3) := by decide +kernel
theorem dL_wouldWin_7 : decode cL_wouldWin 7 = .ok (.ifCond .eq 7, 3) := by decide +kernel
theorem dL_wouldWin_10 : decode cL_wouldWin 10 = .ok (.lconst 1, 1) := by decide +kernel
theorem dL_wouldWin_11 : decode cL_wouldWin 11 = .ok (.goto 4, 3) := by decide +kernel
theorem dL_wouldWin_14 : decode cL_wouldWin 14 = .ok (.lconst 0, 1) := by decide +kernel
theorem dL_wouldWin_15 : decode cL_wouldWin 15 = .ok (.lastore, 1) := by decide +kernel
theorem dL_wouldWin_16 : decode cL_wouldWin 16 = .ok (.goto 9, 3) := by decide +kernel
theorem dL_wouldWin_19 : decode cL_wouldWin 19 = .ok (.astore_n 3, 1) := by decide +kernel
theorem dL_wouldWin_20 : decode cL_wouldWin 20 = .ok (.iconst 1, 1) := by decide +kernel
theorem dL_wouldWin_21 : decode cL_wouldWin 21 = .ok (.ireturn, 1) := by decide +kernel
theorem dL_wouldWin_22 : decode cL_wouldWin 22 = .ok (.astore_n 3, 1) := by decide +kernel
theorem dL_wouldWin_23 : decode cL_wouldWin 23 = .ok (.iconst 2, 1) := by decide +kernel
theorem dL_wouldWin_24 : decode cL_wouldWin 24 = .ok (.ireturn, 1) := by decide +kernel
theorem dL_wouldWin_25 : decode cL_wouldWin 25 = .ok (.iconst 0, 1) := by decide +kernel
theorem dL_wouldWin_26 : decode cL_wouldWin 26 = .ok (.ireturn, 1) := by decide +kernel
theorem dL_wouldWinBySets_0 : decode cL_wouldWinBySets 0 = .ok (.aload_n 2, 1) := by decide +kernel
theorem dL_wouldWinBySets_1 : decode cL_wouldWinBySets 1 = .ok (.iconst 0, 1) := by decide +kernel
theorem dL_wouldWinBySets_2 : decode cL_wouldWinBySets 2 = .ok (.aload_n 0, 1) := by decide +kernel
theorem dL_wouldWinBySets_3 : decode cL_wouldWinBySets 3 = .ok (.iload_n 1, 1) := by decide +kernel
theorem dL_wouldWinBySets_4 : decode cL_wouldWinBySets 4 = .ok (.invokevirtual 110, 3) := by decide +kernel
theorem dL_wouldWinBySets_7 : decode cL_wouldWinBySets 7 = .ok (.ifCond .eq 7, 3) := by decide +kernel
theorem dL_wouldWinBySets_10 : decode cL_wouldWinBySets 10 = .ok (.lconst 1, 1) := by decide +kernel
theorem dL_wouldWinBySets_11 : decode cL_wouldWinBySets 11 = .ok (.goto 4, 3) := by decide +kernel
theorem dL_wouldWinBySets_14 : decode cL_wouldWinBySets 14 = .ok (.lconst 0, 1) := by decide +kernel
theorem dL_wouldWinBySets_15 : decode cL_wouldWinBySets 15 = .ok (.lastore, 1) := by decide +kernel
theorem dL_wouldWinBySets_16 : decode cL_wouldWinBySets 16 = .ok (.goto 9, 3) := by decide +kernel
theorem dL_wouldWinBySets_19 : decode cL_wouldWinBySets 19 = .ok (.astore_n 3, 1) := by decide +kernel
theorem dL_wouldWinBySets_20 : decode cL_wouldWinBySets 20 = .ok (.iconst 1, 1) := by decide +kernel
theorem dL_wouldWinBySets_21 : decode cL_wouldWinBySets 21 = .ok (.ireturn, 1) := by decide +kernel
theorem dL_wouldWinBySets_22 : decode cL_wouldWinBySets 22 = .ok (.astore_n 3, 1) := by decide +kernel
theorem dL_wouldWinBySets_23 : decode cL_wouldWinBySets 23 = .ok (.iconst 2, 1) := by decide +kernel
theorem dL_wouldWinBySets_24 : decode cL_wouldWinBySets 24 = .ok (.ireturn, 1) := by decide +kernel
theorem dL_wouldWinBySets_25 : decode cL_wouldWinBySets 25 = .ok (.iconst 0, 1) := by decide +kernel
theorem dL_wouldWinBySets_26 : decode cL_wouldWinBySets 26 = .ok (.ireturn, 1) := by decide +kernel
theorem dL_lotFor_0 : decode cL_lotFor 0 = .ok (.aload_n 3, 1) := by decide +kernel
theorem dL_lotFor_1 : decode cL_lotFor 1 = .ok (.iconst 0, 1) := by decide +kernel
theorem dL_lotFor_2 : decode cL_lotFor 2 = .ok (.aload_n 0, 1) := by decide +kernel
theorem dL_lotFor_3 : decode cL_lotFor 3 = .ok (.iload_n 1, 1) := by decide +kernel
theorem dL_lotFor_4 : decode cL_lotFor 4 = .ok (.iload_n 2, 1) := by decide +kernel
theorem dL_lotFor_5 : decode cL_lotFor 5 = .ok (.invokevirtual 113, 3) := by decide +kernel
theorem dL_lotFor_8 : decode cL_lotFor 8 = .ok (.i2l, 1) := by decide +kernel
theorem dL_lotFor_9 : decode cL_lotFor 9 = .ok (.lastore, 1) := by decide +kernel
theorem dL_lotFor_10 : decode cL_lotFor 10 = .ok (.goto 19, 3) := by decide +kernel
theorem dL_lotFor_13 : decode cL_lotFor 13 = .ok (.astore 4, 2) := by decide +kernel
theorem dL_lotFor_15 : decode cL_lotFor 15 = .ok (.iconst 1, 1) := by decide +kernel
theorem dL_lotFor_16 : decode cL_lotFor 16 = .ok (.ireturn, 1) := by decide +kernel
theorem dL_lotFor_17 : decode cL_lotFor 17 = .ok (.astore 4, 2) := by decide +kernel
theorem dL_lotFor_19 : decode cL_lotFor 19 = .ok (.iconst 2, 1) := by decide +kernel
theorem dL_lotFor_20 : decode cL_lotFor 20 = .ok (.ireturn, 1) := by decide +kernel
theorem dL_lotFor_21 : decode cL_lotFor 21 = .ok (.astore 4, 2) := by decide +kernel
theorem dL_lotFor_23 : decode cL_lotFor 23 = .ok (.iconst 3, 1) := by decide +kernel
theorem dL_lotFor_24 : decode cL_lotFor 24 = .ok (.ireturn, 1) := by decide +kernel
theorem dL_lotFor_25 : decode cL_lotFor 25 = .ok (.astore 4, 2) := by decide +kernel
theorem dL_lotFor_27 : decode cL_lotFor 27 = .ok (.iconst 4, 1) := by decide +kernel
theorem dL_lotFor_28 : decode cL_lotFor 28 = .ok (.ireturn, 1) := by decide +kernel
theorem dL_lotFor_29 : decode cL_lotFor 29 = .ok (.iconst 0, 1) := by decide +kernel
theorem dL_lotFor_30 : decode cL_lotFor 30 = .ok (.ireturn, 1) := by decide +kernel
theorem dL_payment_0 : decode cL_payment 0 = .ok (.aload_n 2, 1) := by decide +kernel
theorem dL_payment_1 : decode cL_payment 1 = .ok (.iconst 0, 1) := by decide +kernel
theorem dL_payment_2 : decode cL_payment 2 = .ok (.aload_n 0, 1) := by decide +kernel
theorem dL_payment_3 : decode cL_payment 3 = .ok (.iload_n 1, 1) := by decide +kernel
theorem dL_payment_4 : decode cL_payment 4 = .ok (.invokevirtual 116, 3) := by decide +kernel
theorem dL_payment_7 : decode cL_payment 7 = .ok (.i2l, 1) := by decide +kernel
theorem dL_payment_8 : decode cL_payment 8 = .ok (.lastore, 1) := by decide +kernel
theorem dL_payment_9 : decode cL_payment 9 = .ok (.goto 12, 3) := by decide +kernel
theorem dL_payment_12 : decode cL_payment 12 = .ok (.astore_n 3, 1) := by decide +kernel
theorem dL_payment_13 : decode cL_payment 13 = .ok (.iconst 1, 1) := by decide +kernel
theorem dL_payment_14 : decode cL_payment 14 = .ok (.ireturn, 1) := by decide +kernel
theorem dL_payment_15 : decode cL_payment 15 = .ok (.astore_n 3, 1) := by decide +kernel
theorem dL_payment_16 : decode cL_payment 16 = .ok (.iconst 2, 1) := by decide +kernel
theorem dL_payment_17 : decode cL_payment 17 = .ok (.ireturn, 1) := by decide +kernel
theorem dL_payment_18 : decode cL_payment 18 = .ok (.astore_n 3, 1) := by decide +kernel
theorem dL_payment_19 : decode cL_payment 19 = .ok (.iconst 3, 1) := by decide +kernel
theorem dL_payment_20 : decode cL_payment 20 = .ok (.ireturn, 1) := by decide +kernel
theorem dL_payment_21 : decode cL_payment 21 = .ok (.iconst 0, 1) := by decide +kernel
theorem dL_payment_22 : decode cL_payment 22 = .ok (.ireturn, 1) := by decide +kernel
theorem dL_soldShare_0 : decode cL_soldShare 0 = .ok (.aload_n 1, 1) := by decide +kernel
theorem dL_soldShare_1 : decode cL_soldShare 1 = .ok (.iconst 0, 1) := by decide +kernel
theorem dL_soldShare_2 : decode cL_soldShare 2 = .ok (.aload_n 0, 1) := by decide +kernel
theorem dL_soldShare_3 : decode cL_soldShare 3 = .ok (.invokevirtual 119, 3) := by decide +kernel
theorem dL_soldShare_6 : decode cL_soldShare 6 = .ok (.f2d, 1) := by decide +kernel
theorem dL_soldShare_7 : decode cL_soldShare 7 = .ok (.dastore, 1) := by decide +kernel
theorem dL_soldShare_8 : decode cL_soldShare 8 = .ok (.goto 6, 3) := by decide +kernel
theorem dL_soldShare_11 : decode cL_soldShare 11 = .ok (.astore_n 2, 1) := by decide +kernel
theorem dL_soldShare_12 : decode cL_soldShare 12 = .ok (.iconst 1, 1) := by decide +kernel
theorem dL_soldShare_13 : decode cL_soldShare 13 = .ok (.ireturn, 1) := by decide +kernel
theorem dL_soldShare_14 : decode cL_soldShare 14 = .ok (.iconst 0, 1) := by decide +kernel
theorem dL_soldShare_15 : decode cL_soldShare 15 = .ok (.ireturn, 1) := by decide +kernel
theorem dL_meanPaid_0 : decode cL_meanPaid 0 = .ok (.aload_n 1, 1) := by decide +kernel
theorem dL_meanPaid_1 : decode cL_meanPaid 1 = .ok (.iconst 0, 1) := by decide +kernel
theorem dL_meanPaid_2 : decode cL_meanPaid 2 = .ok (.aload_n 0, 1) := by decide +kernel
theorem dL_meanPaid_3 : decode cL_meanPaid 3 = .ok (.invokevirtual 125, 3) := by decide +kernel
theorem dL_meanPaid_6 : decode cL_meanPaid 6 = .ok (.dastore, 1) := by decide +kernel
theorem dL_meanPaid_7 : decode cL_meanPaid 7 = .ok (.goto 6, 3) := by decide +kernel
theorem dL_meanPaid_10 : decode cL_meanPaid 10 = .ok (.astore_n 2, 1) := by decide +kernel
theorem dL_meanPaid_11 : decode cL_meanPaid 11 = .ok (.iconst 1, 1) := by decide +kernel
theorem dL_meanPaid_12 : decode cL_meanPaid 12 = .ok (.ireturn, 1) := by decide +kernel
theorem dL_meanPaid_13 : decode cL_meanPaid 13 = .ok (.iconst 0, 1) := by decide +kernel
theorem dL_meanPaid_14 : decode cL_meanPaid 14 = .ok (.ireturn, 1) := by decide +kernel
theorem dL_law_0 : decode cL_law 0 = .ok (.new 8, 3) := by decide +kernel
theorem dL_law_3 : decode cL_law 3 = .ok (.dup, 1) := by decide +kernel
theorem dL_law_4 : decode cL_law 4 = .ok (.invokespecial 129, 3) := by decide +kernel
theorem dL_law_7 : decode cL_law 7 = .ok (.astore_n 1, 1) := by decide +kernel
theorem dL_law_8 : decode cL_law 8 = .ok (.new 130, 3) := by decide +kernel
theorem dL_law_11 : decode cL_law 11 = .ok (.dup, 1) := by decide +kernel
theorem dL_law_12 : decode cL_law 12 = .ok (.invokespecial 132, 3) := by decide +kernel
theorem dL_law_15 : decode cL_law 15 = .ok (.astore_n 2, 1) := by decide +kernel
theorem dL_law_16 : decode cL_law 16 = .ok (.iconst 1, 1) := by decide +kernel
theorem dL_law_17 : decode cL_law 17 = .ok (.newarray .long, 2) := by decide +kernel
theorem dL_law_19 : decode cL_law 19 = .ok (.astore_n 3, 1) := by decide +kernel
theorem dL_law_20 : decode cL_law 20 = .ok (.iconst 1, 1) := by decide +kernel
theorem dL_law_21 : decode cL_law 21 = .ok (.newarray .double, 2) := by decide +kernel
theorem dL_law_23 : decode cL_law 23 = .ok (.astore 4, 2) := by decide +kernel
theorem dL_law_25 : decode cL_law 25 = .ok (.iconst 0, 1) := by decide +kernel
theorem dL_law_26 : decode cL_law 26 = .ok (.istore 5, 2) := by decide +kernel
theorem dL_law_28 : decode cL_law 28 = .ok (.iload 5, 2) := by decide +kernel
theorem dL_law_30 : decode cL_law 30 = .ok (.aload_n 0, 1) := by decide +kernel
theorem dL_law_31 : decode cL_law 31 = .ok (.arraylength, 1) := by decide +kernel
theorem dL_law_32 : decode cL_law 32 = .ok (.iconst 4, 1) := by decide +kernel
theorem dL_law_33 : decode cL_law 33 = .ok (.isub, 1) := by decide +kernel
theorem dL_law_34 : decode cL_law 34 = .ok (.if_icmp .gt 2262, 3) := by decide +kernel
theorem dL_law_37 : decode cL_law 37 = .ok (.aload_n 0, 1) := by decide +kernel
theorem dL_law_38 : decode cL_law 38 = .ok (.iload 5, 2) := by decide +kernel
theorem dL_law_40 : decode cL_law 40 = .ok (.iaload, 1) := by decide +kernel
theorem dL_law_41 : decode cL_law 41 = .ok (.bipush 63, 2) := by decide +kernel
theorem dL_law_43 : decode cL_law 43 = .ok (.iand, 1) := by decide +kernel
theorem dL_law_44 : decode cL_law 44 = .ok (.tableswitch 2246 0 38 #[172, 254, 310, 390, 434, 502, 584, 652, 708, 752, 765, 778, 791, 804, 860, 916, 972, 1028, 1084, 1154, 1210, 1297, 1365, 1421, 1477, 1533, 1589, 1657, 1713, 1769, 1782, 1795, 1851, 1914, 1977, 2045, 2101, 2115, 2181], 172) := by decide +kernel
theorem dL_law_216 : decode cL_law 216 = .ok (.aload_n 1, 1) := by decide +kernel
theorem dL_law_217 : decode cL_law 217 = .ok (.aload_n 0, 1) := by decide +kernel
theorem dL_law_218 : decode cL_law 218 = .ok (.iload 5, 2) := by decide +kernel
theorem dL_law_220 : decode cL_law 220 = .ok (.iconst 1, 1) := by decide +kernel
theorem dL_law_221 : decode cL_law 221 = .ok (.iadd, 1) := by decide +kernel
theorem dL_law_222 : decode cL_law 222 = .ok (.iaload, 1) := by decide +kernel
theorem dL_law_223 : decode cL_law 223 = .ok (.aload_n 0, 1) := by decide +kernel
theorem dL_law_224 : decode cL_law 224 = .ok (.iload 5, 2) := by decide +kernel
theorem dL_law_226 : decode cL_law 226 = .ok (.iconst 2, 1) := by decide +kernel
theorem dL_law_227 : decode cL_law 227 = .ok (.iadd, 1) := by decide +kernel
theorem dL_law_228 : decode cL_law 228 = .ok (.iaload, 1) := by decide +kernel
theorem dL_law_229 : decode cL_law 229 = .ok (.i2c, 1) := by decide +kernel
theorem dL_law_230 : decode cL_law 230 = .ok (.aload_n 0, 1) := by decide +kernel
theorem dL_law_231 : decode cL_law 231 = .ok (.iload 5, 2) := by decide +kernel
theorem dL_law_233 : decode cL_law 233 = .ok (.iconst 3, 1) := by decide +kernel
theorem dL_law_234 : decode cL_law 234 = .ok (.iadd, 1) := by decide +kernel
theorem dL_law_235 : decode cL_law 235 = .ok (.iaload, 1) := by decide +kernel
theorem dL_law_236 : decode cL_law 236 = .ok (.aload_n 3, 1) := by decide +kernel
theorem dL_law_237 : decode cL_law 237 = .ok (.invokestatic 133, 3) := by decide +kernel
theorem dL_law_240 : decode cL_law 240 = .ok (.istore 6, 2) := by decide +kernel
theorem dL_law_242 : decode cL_law 242 = .ok (.aload_n 2, 1) := by decide +kernel
theorem dL_law_243 : decode cL_law 243 = .ok (.aload_n 0, 1) := by decide +kernel
theorem dL_law_244 : decode cL_law 244 = .ok (.iload 5, 2) := by decide +kernel
theorem dL_law_246 : decode cL_law 246 = .ok (.iconst 1, 1) := by decide +kernel
theorem dL_law_247 : decode cL_law 247 = .ok (.iadd, 1) := by decide +kernel
theorem dL_law_248 : decode cL_law 248 = .ok (.iaload, 1) := by decide +kernel
theorem dL_law_249 : decode cL_law 249 = .ok (.aload_n 0, 1) := by decide +kernel
theorem dL_law_250 : decode cL_law 250 = .ok (.iload 5, 2) := by decide +kernel
theorem dL_law_252 : decode cL_law 252 = .ok (.iconst 2, 1) := by decide +kernel
theorem dL_law_253 : decode cL_law 253 = .ok (.iadd, 1) := by decide +kernel
theorem dL_law_254 : decode cL_law 254 = .ok (.iaload, 1) := by decide +kernel
theorem dL_law_255 : decode cL_law 255 = .ok (.i2c, 1) := by decide +kernel
theorem dL_law_256 : decode cL_law 256 = .ok (.aload_n 0, 1) := by decide +kernel
theorem dL_law_257 : decode cL_law 257 = .ok (.iload 5, 2) := by decide +kernel
theorem dL_law_259 : decode cL_law 259 = .ok (.iconst 3, 1) := by decide +kernel
theorem dL_law_260 : decode cL_law 260 = .ok (.iadd, 1) := by decide +kernel
theorem dL_law_261 : decode cL_law 261 = .ok (.iaload, 1) := by decide +kernel
theorem dL_law_262 : decode cL_law 262 = .ok (.invokevirtual 138, 3) := by decide +kernel
theorem dL_law_265 : decode cL_law 265 = .ok (.istore 7, 2) := by decide +kernel
theorem dL_law_267 : decode cL_law 267 = .ok (.aload_n 2, 1) := by decide +kernel
theorem dL_law_268 : decode cL_law 268 = .ok (.invokevirtual 139, 3) := by decide +kernel
theorem dL_law_271 : decode cL_law 271 = .ok (.iload 6, 2) := by decide +kernel
theorem dL_law_273 : decode cL_law 273 = .ok (.if_icmp .eq 5, 3) := by decide +kernel
theorem dL_law_276 : decode cL_law 276 = .ok (.iconst 0, 1) := by decide +kernel
theorem dL_law_277 : decode cL_law 277 = .ok (.ireturn, 1) := by decide +kernel
theorem dL_law_278 : decode cL_law 278 = .ok (.iload 6, 2) := by decide +kernel
theorem dL_law_280 : decode cL_law 280 = .ok (.ifCond .ne 15, 3) := by decide +kernel
theorem dL_law_283 : decode cL_law 283 = .ok (.aload_n 3, 1) := by decide +kernel
theorem dL_law_284 : decode cL_law 284 = .ok (.iconst 0, 1) := by decide +kernel
theorem dL_law_285 : decode cL_law 285 = .ok (.laload, 1) := by decide +kernel
theorem dL_law_286 : decode cL_law 286 = .ok (.iload 7, 2) := by decide +kernel
theorem dL_law_288 : decode cL_law 288 = .ok (.i2l, 1) := by decide +kernel
theorem dL_law_289 : decode cL_law 289 = .ok (.lcmp, 1) := by decide +kernel
theorem dL_law_290 : decode cL_law 290 = .ok (.ifCond .eq 5, 3) := by decide +kernel
theorem dL_law_293 : decode cL_law 293 = .ok (.iconst 0, 1) := by decide +kernel
theorem dL_law_294 : decode cL_law 294 = .ok (.ireturn, 1) := by decide +kernel
theorem dL_law_295 : decode cL_law 295 = .ok (.goto 1995, 3) := by decide +kernel
theorem dL_law_298 : decode cL_law 298 = .ok (.aload_n 1, 1) := by decide +kernel
theorem dL_law_299 : decode cL_law 299 = .ok (.aload_n 0, 1) := by decide +kernel
theorem dL_law_300 : decode cL_law 300 = .ok (.iload 5, 2) := by decide +kernel
theorem dL_law_302 : decode cL_law 302 = .ok (.iconst 1, 1) := by decide +kernel
theorem dL_law_303 : decode cL_law 303 = .ok (.iadd, 1) := by decide +kernel
theorem dL_law_304 : decode cL_law 304 = .ok (.iaload, 1) := by decide +kernel
theorem dL_law_305 : decode cL_law 305 = .ok (.aload_n 3, 1) := by decide +kernel
theorem dL_law_306 : decode cL_law 306 = .ok (.invokestatic 142, 3) := by decide +kernel
