theorem dX6_offer_85 : decode cX6_offer 85 = .ok (.dup, 1) := by decide +kernel
theorem dX6_offer_86 : decode cX6_offer 86 = .ok (.getfield 51, 3) := by decide +kernel
theorem dX6_offer_89 : decode cX6_offer 89 = .ok (.iconst 1, 1) := by decide +kernel
theorem dX6_offer_90 : decode cX6_offer 90 = .ok (.iadd, 1) := by decide +kernel
theorem dX6_offer_91 : decode cX6_offer 91 = .ok (.putfield 51, 3) := by decide +kernel
theorem dX6_offer_94 : decode cX6_offer 94 = .ok (.aload_n 0, 1) := by decide +kernel
theorem dX6_offer_95 : decode cX6_offer 95 = .ok (.getfield 12, 3) := by decide +kernel
theorem dX6_offer_98 : decode cX6_offer 98 = .ok (.invokevirtual 55, 3) := by decide +kernel
theorem dX6_offer_101 : decode cX6_offer 101 = .ok (.iconst 1, 1) := by decide +kernel
theorem dX6_offer_102 : decode cX6_offer 102 = .ok (.isub, 1) := by decide +kernel
theorem dX6_offer_103 : decode cX6_offer 103 = .ok (.ireturn, 1) := by decide +kernel
theorem dX6_withdraw_0 : decode cX6_withdraw 0 = .ok (.aload_n 0, 1) := by decide +kernel
theorem dX6_withdraw_1 : decode cX6_withdraw 1 = .ok (.iload_n 1, 1) := by decide +kernel
theorem dX6_withdraw_2 : decode cX6_withdraw 2 = .ok (.invokevirtual 73, 3) := by decide +kernel
theorem dX6_withdraw_5 : decode cX6_withdraw 5 = .ok (.astore_n 2, 1) := by decide +kernel
theorem dX6_withdraw_6 : decode cX6_withdraw 6 = .ok (.aload_n 2, 1) := by decide +kernel
theorem dX6_withdraw_7 : decode cX6_withdraw 7 = .ok (.getfield 77, 3) := by decide +kernel
theorem dX6_withdraw_10 : decode cX6_withdraw 10 = .ok (.bipush 111, 2) := by decide +kernel
theorem dX6_withdraw_12 : decode cX6_withdraw 12 = .ok (.if_icmp .eq 13, 3) := by decide +kernel
theorem dX6_withdraw_15 : decode cX6_withdraw 15 = .ok (.new 59, 3) := by decide +kernel
theorem dX6_withdraw_18 : decode cX6_withdraw 18 = .ok (.dup, 1) := by decide +kernel
theorem dX6_withdraw_19 : decode cX6_withdraw 19 = .ok (.ldc 81, 2) := by decide +kernel
theorem dX6_withdraw_21 : decode cX6_withdraw 21 = .ok (.invokespecial 63, 3) := by decide +kernel
theorem dX6_withdraw_24 : decode cX6_withdraw 24 = .ok (.athrow, 1) := by decide +kernel
theorem dX6_withdraw_25 : decode cX6_withdraw 25 = .ok (.aload_n 2, 1) := by decide +kernel
theorem dX6_withdraw_26 : decode cX6_withdraw 26 = .ok (.bipush 119, 2) := by decide +kernel
theorem dX6_withdraw_28 : decode cX6_withdraw 28 = .ok (.putfield 77, 3) := by decide +kernel
theorem dX6_withdraw_31 : decode cX6_withdraw 31 = .ok (.aload_n 0, 1) := by decide +kernel
theorem dX6_withdraw_32 : decode cX6_withdraw 32 = .ok (.dup, 1) := by decide +kernel
theorem dX6_withdraw_33 : decode cX6_withdraw 33 = .ok (.getfield 51, 3) := by decide +kernel
theorem dX6_withdraw_36 : decode cX6_withdraw 36 = .ok (.iconst 1, 1) := by decide +kernel
theorem dX6_withdraw_37 : decode cX6_withdraw 37 = .ok (.isub, 1) := by decide +kernel
theorem dX6_withdraw_38 : decode cX6_withdraw 38 = .ok (.putfield 51, 3) := by decide +kernel
theorem dX6_withdraw_41 : decode cX6_withdraw 41 = .ok (.aload_n 0, 1) := by decide +kernel
theorem dX6_withdraw_42 : decode cX6_withdraw 42 = .ok (.getfield 51, 3) := by decide +kernel
theorem dX6_withdraw_45 : decode cX6_withdraw 45 = .ok (.ireturn, 1) := by decide +kernel
theorem dX6_allow_0 : decode cX6_allow 0 = .ok (.iload_n 1, 1) := by decide +kernel
theorem dX6_allow_1 : decode cX6_allow 1 = .ok (.invokestatic 36, 3) := by decide +kernel
theorem dX6_allow_4 : decode cX6_allow 4 = .ok (.ifCond .eq 19, 3) := by decide +kernel
theorem dX6_allow_7 : decode cX6_allow 7 = .ok (.iload_n 2, 1) := by decide +kernel
theorem dX6_allow_8 : decode cX6_allow 8 = .ok (.invokestatic 36, 3) := by decide +kernel
theorem dX6_allow_11 : decode cX6_allow 11 = .ok (.ifCond .eq 12, 3) := by decide +kernel
theorem dX6_allow_14 : decode cX6_allow 14 = .ok (.iload_n 3, 1) := by decide +kernel
theorem dX6_allow_15 : decode cX6_allow 15 = .ok (.ifCond .lt 8, 3) := by decide +kernel
theorem dX6_allow_18 : decode cX6_allow 18 = .ok (.iload_n 3, 1) := by decide +kernel
theorem dX6_allow_19 : decode cX6_allow 19 = .ok (.iconst 4, 1) := by decide +kernel
theorem dX6_allow_20 : decode cX6_allow 20 = .ok (.if_icmp .le 13, 3) := by decide +kernel
theorem dX6_allow_23 : decode cX6_allow 23 = .ok (.new 44, 3) := by decide +kernel
theorem dX6_allow_26 : decode cX6_allow 26 = .ok (.dup, 1) := by decide +kernel
theorem dX6_allow_27 : decode cX6_allow 27 = .ok (.ldc 83, 2) := by decide +kernel
theorem dX6_allow_29 : decode cX6_allow 29 = .ok (.invokespecial 48, 3) := by decide +kernel
theorem dX6_allow_32 : decode cX6_allow 32 = .ok (.athrow, 1) := by decide +kernel
theorem dX6_allow_33 : decode cX6_allow 33 = .ok (.aload_n 0, 1) := by decide +kernel
theorem dX6_allow_34 : decode cX6_allow 34 = .ok (.getfield 19, 3) := by decide +kernel
theorem dX6_allow_37 : decode cX6_allow 37 = .ok (.invokevirtual 55, 3) := by decide +kernel
theorem dX6_allow_40 : decode cX6_allow 40 = .ok (.bipush 6, 2) := by decide +kernel
theorem dX6_allow_42 : decode cX6_allow 42 = .ok (.if_icmp .lt 13, 3) := by decide +kernel
theorem dX6_allow_45 : decode cX6_allow 45 = .ok (.new 59, 3) := by decide +kernel
theorem dX6_allow_48 : decode cX6_allow 48 = .ok (.dup, 1) := by decide +kernel
theorem dX6_allow_49 : decode cX6_allow 49 = .ok (.ldc 85, 2) := by decide +kernel
theorem dX6_allow_51 : decode cX6_allow 51 = .ok (.invokespecial 63, 3) := by decide +kernel
theorem dX6_allow_54 : decode cX6_allow 54 = .ok (.athrow, 1) := by decide +kernel
theorem dX6_allow_55 : decode cX6_allow 55 = .ok (.aload_n 0, 1) := by decide +kernel
theorem dX6_allow_56 : decode cX6_allow 56 = .ok (.getfield 19, 3) := by decide +kernel
theorem dX6_allow_59 : decode cX6_allow 59 = .ok (.new 87, 3) := by decide +kernel
theorem dX6_allow_62 : decode cX6_allow 62 = .ok (.dup, 1) := by decide +kernel
theorem dX6_allow_63 : decode cX6_allow 63 = .ok (.iload_n 1, 1) := by decide +kernel
theorem dX6_allow_64 : decode cX6_allow 64 = .ok (.iload_n 2, 1) := by decide +kernel
theorem dX6_allow_65 : decode cX6_allow 65 = .ok (.iload_n 3, 1) := by decide +kernel
theorem dX6_allow_66 : decode cX6_allow 66 = .ok (.invokespecial 89, 3) := by decide +kernel
theorem dX6_allow_69 : decode cX6_allow 69 = .ok (.invokevirtual 69, 3) := by decide +kernel
theorem dX6_allow_72 : decode cX6_allow 72 = .ok (.pop, 1) := by decide +kernel
theorem dX6_allow_73 : decode cX6_allow 73 = .ok (.aload_n 0, 1) := by decide +kernel
theorem dX6_allow_74 : decode cX6_allow 74 = .ok (.getfield 19, 3) := by decide +kernel
theorem dX6_allow_77 : decode cX6_allow 77 = .ok (.invokevirtual 55, 3) := by decide +kernel
theorem dX6_allow_80 : decode cX6_allow 80 = .ok (.ireturn, 1) := by decide +kernel
theorem dX6_forbid_0 : decode cX6_forbid 0 = .ok (.aload_n 0, 1) := by decide +kernel
theorem dX6_forbid_1 : decode cX6_forbid 1 = .ok (.getfield 19, 3) := by decide +kernel
theorem dX6_forbid_4 : decode cX6_forbid 4 = .ok (.invokevirtual 92, 3) := by decide +kernel
theorem dX6_forbid_7 : decode cX6_forbid 7 = .ok (.ifCond .eq 13, 3) := by decide +kernel
theorem dX6_forbid_10 : decode cX6_forbid 10 = .ok (.new 59, 3) := by decide +kernel
theorem dX6_forbid_13 : decode cX6_forbid 13 = .ok (.dup, 1) := by decide +kernel
theorem dX6_forbid_14 : decode cX6_forbid 14 = .ok (.ldc 96, 2) := by decide +kernel
theorem dX6_forbid_16 : decode cX6_forbid 16 = .ok (.invokespecial 63, 3) := by decide +kernel
theorem dX6_forbid_19 : decode cX6_forbid 19 = .ok (.athrow, 1) := by decide +kernel
theorem dX6_forbid_20 : decode cX6_forbid 20 = .ok (.aload_n 0, 1) := by decide +kernel
theorem dX6_forbid_21 : decode cX6_forbid 21 = .ok (.getfield 19, 3) := by decide +kernel
theorem dX6_forbid_24 : decode cX6_forbid 24 = .ok (.aload_n 0, 1) := by decide +kernel
theorem dX6_forbid_25 : decode cX6_forbid 25 = .ok (.getfield 19, 3) := by decide +kernel
theorem dX6_forbid_28 : decode cX6_forbid 28 = .ok (.invokevirtual 55, 3) := by decide +kernel
theorem dX6_forbid_31 : decode cX6_forbid 31 = .ok (.iconst 1, 1) := by decide +kernel
theorem dX6_forbid_32 : decode cX6_forbid 32 = .ok (.isub, 1) := by decide +kernel
theorem dX6_forbid_33 : decode cX6_forbid 33 = .ok (.invokevirtual 98, 3) := by decide +kernel
theorem dX6_forbid_36 : decode cX6_forbid 36 = .ok (.pop, 1) := by decide +kernel
theorem dX6_forbid_37 : decode cX6_forbid 37 = .ok (.aload_n 0, 1) := by decide +kernel
theorem dX6_forbid_38 : decode cX6_forbid 38 = .ok (.getfield 19, 3) := by decide +kernel
theorem dX6_forbid_41 : decode cX6_forbid 41 = .ok (.invokevirtual 55, 3) := by decide +kernel
theorem dX6_forbid_44 : decode cX6_forbid 44 = .ok (.ireturn, 1) := by decide +kernel
theorem dX6_bid_0 : decode cX6_bid 0 = .ok (.iload_n 1, 1) := by decide +kernel
theorem dX6_bid_1 : decode cX6_bid 1 = .ok (.invokestatic 102, 3) := by decide +kernel
theorem dX6_bid_4 : decode cX6_bid 4 = .ok (.ifCond .eq 14, 3) := by decide +kernel
theorem dX6_bid_7 : decode cX6_bid 7 = .ok (.iload_n 2, 1) := by decide +kernel
theorem dX6_bid_8 : decode cX6_bid 8 = .ok (.ifCond .lt 10, 3) := by decide +kernel
theorem dX6_bid_11 : decode cX6_bid 11 = .ok (.iload_n 2, 1) := by decide +kernel
theorem dX6_bid_12 : decode cX6_bid 12 = .ok (.sipush 9999, 3) := by decide +kernel
theorem dX6_bid_15 : decode cX6_bid 15 = .ok (.if_icmp .le 13, 3) := by decide +kernel
theorem dX6_bid_18 : decode cX6_bid 18 = .ok (.new 44, 3) := by decide +kernel
theorem dX6_bid_21 : decode cX6_bid 21 = .ok (.dup, 1) := by decide +kernel
theorem dX6_bid_22 : decode cX6_bid 22 = .ok (.ldc 105, 2) := by decide +kernel
theorem dX6_bid_24 : decode cX6_bid 24 = .ok (.invokespecial 48, 3) := by decide +kernel
theorem dX6_bid_27 : decode cX6_bid 27 = .ok (.athrow, 1) := by decide +kernel
theorem dX6_bid_28 : decode cX6_bid 28 = .ok (.aload_n 0, 1) := by decide +kernel
theorem dX6_bid_29 : decode cX6_bid 29 = .ok (.getfield 107, 3) := by decide +kernel
theorem dX6_bid_32 : decode cX6_bid 32 = .ok (.bipush 8, 2) := by decide +kernel
theorem dX6_bid_34 : decode cX6_bid 34 = .ok (.if_icmp .ge 15, 3) := by decide +kernel
theorem dX6_bid_37 : decode cX6_bid 37 = .ok (.aload_n 0, 1) := by decide +kernel
theorem dX6_bid_38 : decode cX6_bid 38 = .ok (.getfield 16, 3) := by decide +kernel
theorem dX6_bid_41 : decode cX6_bid 41 = .ok (.invokevirtual 55, 3) := by decide +kernel
theorem dX6_bid_44 : decode cX6_bid 44 = .ok (.bipush 40, 2) := by decide +kernel
theorem dX6_bid_46 : decode cX6_bid 46 = .ok (.if_icmp .lt 13, 3) := by decide +kernel
theorem dX6_bid_49 : decode cX6_bid 49 = .ok (.new 59, 3) := by decide +kernel
theorem dX6_bid_52 : decode cX6_bid 52 = .ok (.dup, 1) := by decide +kernel
theorem dX6_bid_53 : decode cX6_bid 53 = .ok (.ldc 110, 2) := by decide +kernel
theorem dX6_bid_55 : decode cX6_bid 55 = .ok (.invokespecial 63, 3) := by decide +kernel
theorem dX6_bid_58 : decode cX6_bid 58 = .ok (.athrow, 1) := by decide +kernel
theorem dX6_bid_59 : decode cX6_bid 59 = .ok (.aload_n 0, 1) := by decide +kernel
theorem dX6_bid_60 : decode cX6_bid 60 = .ok (.getfield 16, 3) := by decide +kernel
theorem dX6_bid_63 : decode cX6_bid 63 = .ok (.new 112, 3) := by decide +kernel
theorem dX6_bid_66 : decode cX6_bid 66 = .ok (.dup, 1) := by decide +kernel
theorem dX6_bid_67 : decode cX6_bid 67 = .ok (.iload_n 1, 1) := by decide +kernel
theorem dX6_bid_68 : decode cX6_bid 68 = .ok (.iload_n 2, 1) := by decide +kernel
theorem dX6_bid_69 : decode cX6_bid 69 = .ok (.invokespecial 114, 3) := by decide +kernel
theorem dX6_bid_72 : decode cX6_bid 72 = .ok (.invokevirtual 69, 3) := by decide +kernel
theorem dX6_bid_75 : decode cX6_bid 75 = .ok (.pop, 1) := by decide +kernel
theorem dX6_bid_76 : decode cX6_bid 76 = .ok (.aload_n 0, 1) := by decide +kernel
theorem dX6_bid_77 : decode cX6_bid 77 = .ok (.dup, 1) := by decide +kernel
theorem dX6_bid_78 : decode cX6_bid 78 = .ok (.getfield 107, 3) := by decide +kernel
theorem dX6_bid_81 : decode cX6_bid 81 = .ok (.iconst 1, 1) := by decide +kernel
theorem dX6_bid_82 : decode cX6_bid 82 = .ok (.iadd, 1) := by decide +kernel
theorem dX6_bid_83 : decode cX6_bid 83 = .ok (.putfield 107, 3) := by decide +kernel
theorem dX6_bid_86 : decode cX6_bid 86 = .ok (.aload_n 0, 1) := by decide +kernel
theorem dX6_bid_87 : decode cX6_bid 87 = .ok (.getfield 16, 3) := by decide +kernel
theorem dX6_bid_90 : decode cX6_bid 90 = .ok (.invokevirtual 55, 3) := by decide +kernel
theorem dX6_bid_93 : decode cX6_bid 93 = .ok (.iconst 1, 1) := by decide +kernel
theorem dX6_bid_94 : decode cX6_bid 94 = .ok (.isub, 1) := by decide +kernel
theorem dX6_bid_95 : decode cX6_bid 95 = .ok (.ireturn, 1) := by decide +kernel
theorem dX6_ask_0 : decode cX6_ask 0 = .ok (.aload_n 0, 1) := by decide +kernel
theorem dX6_ask_1 : decode cX6_ask 1 = .ok (.iload_n 1, 1) := by decide +kernel
theorem dX6_ask_2 : decode cX6_ask 2 = .ok (.invokevirtual 117, 3) := by decide +kernel
theorem dX6_ask_5 : decode cX6_ask 5 = .ok (.astore 4, 2) := by decide +kernel
theorem dX6_ask_7 : decode cX6_ask 7 = .ok (.iload_n 2, 1) := by decide +kernel
theorem dX6_ask_8 : decode cX6_ask 8 = .ok (.invokestatic 36, 3) := by decide +kernel
theorem dX6_ask_11 : decode cX6_ask 11 = .ok (.ifCond .eq 10, 3) := by decide +kernel
theorem dX6_ask_14 : decode cX6_ask 14 = .ok (.iload_n 3, 1) := by decide +kernel
theorem dX6_ask_15 : decode cX6_ask 15 = .ok (.invokestatic 40, 3) := by decide +kernel
theorem dX6_ask_18 : decode cX6_ask 18 = .ok (.ifCond .ne 13, 3) := by decide +kernel
theorem dX6_ask_21 : decode cX6_ask 21 = .ok (.new 44, 3) := by decide +kernel
theorem dX6_ask_24 : decode cX6_ask 24 = .ok (.dup, 1) := by decide +kernel
theorem dX6_ask_25 : decode cX6_ask 25 = .ok (.ldc 121, 2) := by decide +kernel
theorem dX6_ask_27 : decode cX6_ask 27 = .ok (.invokespecial 48, 3) := by decide +kernel
theorem dX6_ask_30 : decode cX6_ask 30 = .ok (.athrow, 1) := by decide +kernel
theorem dX6_ask_31 : decode cX6_ask 31 = .ok (.aload 4, 2) := by decide +kernel
theorem dX6_ask_33 : decode cX6_ask 33 = .ok (.getfield 123, 3) := by decide +kernel
theorem dX6_ask_36 : decode cX6_ask 36 = .ok (.bipush 111, 2) := by decide +kernel
theorem dX6_ask_38 : decode cX6_ask 38 = .ok (.if_icmp .ne 15, 3) := by decide +kernel
theorem dX6_ask_41 : decode cX6_ask 41 = .ok (.aload 4, 2) := by decide +kernel
theorem dX6_ask_43 : decode cX6_ask 43 = .ok (.getfield 124, 3) := by decide +kernel
theorem dX6_ask_46 : decode cX6_ask 46 = .ok (.invokevirtual 55, 3) := by decide +kernel
theorem dX6_ask_49 : decode cX6_ask 49 = .ok (.iconst 3, 1) := by decide +kernel
theorem dX6_ask_50 : decode cX6_ask 50 = .ok (.if_icmp .lt 13, 3) := by decide +kernel
theorem dX6_ask_53 : decode cX6_ask 53 = .ok (.new 59, 3) := by decide +kernel
theorem dX6_ask_56 : decode cX6_ask 56 = .ok (.dup, 1) := by decide +kernel
theorem dX6_ask_57 : decode cX6_ask 57 = .ok (.ldc 127, 2) := by decide +kernel
theorem dX6_ask_59 : decode cX6_ask 59 = .ok (.invokespecial 63, 3) := by decide +kernel
theorem dX6_ask_62 : decode cX6_ask 62 = .ok (.athrow, 1) := by decide +kernel
theorem dX6_ask_63 : decode cX6_ask 63 = .ok (.aload 4, 2) := by decide +kernel
theorem dX6_ask_65 : decode cX6_ask 65 = .ok (.getfield 124, 3) := by decide +kernel
theorem dX6_ask_68 : decode cX6_ask 68 = .ok (.new 129, 3) := by decide +kernel
theorem dX6_ask_71 : decode cX6_ask 71 = .ok (.dup, 1) := by decide +kernel
theorem dX6_ask_72 : decode cX6_ask 72 = .ok (.iload_n 2, 1) := by decide +kernel
theorem dX6_ask_73 : decode cX6_ask 73 = .ok (.iload_n 3, 1) := by decide +kernel
theorem dX6_ask_74 : decode cX6_ask 74 = .ok (.invokespecial 131, 3) := by decide +kernel
theorem dX6_ask_77 : decode cX6_ask 77 = .ok (.invokevirtual 69, 3) := by decide +kernel
theorem dX6_ask_80 : decode cX6_ask 80 = .ok (.pop, 1) := by decide +kernel
theorem dX6_ask_81 : decode cX6_ask 81 = .ok (.aload 4, 2) := by decide +kernel
theorem dX6_ask_83 : decode cX6_ask 83 = .ok (.getfield 124, 3) := by decide +kernel
theorem dX6_ask_86 : decode cX6_ask 86 = .ok (.invokevirtual 55, 3) := by decide +kernel
theorem dX6_ask_89 : decode cX6_ask 89 = .ok (.ireturn, 1) := by decide +kernel
theorem dX6_raise_0 : decode cX6_raise 0 = .ok (.aload_n 0, 1) := by decide +kernel
theorem dX6_raise_1 : decode cX6_raise 1 = .ok (.iload_n 1, 1) := by decide +kernel
theorem dX6_raise_2 : decode cX6_raise 2 = .ok (.invokevirtual 134, 3) := by decide +kernel
theorem dX6_raise_5 : decode cX6_raise 5 = .ok (.astore_n 3, 1) := by decide +kernel
theorem dX6_raise_6 : decode cX6_raise 6 = .ok (.aload_n 3, 1) := by decide +kernel
theorem dX6_raise_7 : decode cX6_raise 7 = .ok (.getfield 137, 3) := by decide +kernel
theorem dX6_raise_10 : decode cX6_raise 10 = .ok (.istore 4, 2) := by decide +kernel
theorem dX6_raise_12 : decode cX6_raise 12 = .ok (.iload_n 2, 1) := by decide +kernel
theorem dX6_raise_13 : decode cX6_raise 13 = .ok (.iload 4, 2) := by decide +kernel
theorem dX6_raise_15 : decode cX6_raise 15 = .ok (.if_icmp .le 10, 3) := by decide +kernel
theorem dX6_raise_18 : decode cX6_raise 18 = .ok (.iload_n 2, 1) := by decide +kernel
theorem dX6_raise_19 : decode cX6_raise 19 = .ok (.sipush 9999, 3) := by decide +kernel
theorem dX6_raise_22 : decode cX6_raise 22 = .ok (.if_icmp .le 13, 3) := by decide +kernel
theorem dX6_raise_25 : decode cX6_raise 25 = .ok (.new 44, 3) := by decide +kernel
theorem dX6_raise_28 : decode cX6_raise 28 = .ok (.dup, 1) := by decide +kernel
theorem dX6_raise_29 : decode cX6_raise 29 = .ok (.ldc 140, 2) := by decide +kernel
theorem dX6_raise_31 : decode cX6_raise 31 = .ok (.invokespecial 48, 3) := by decide +kernel
theorem dX6_raise_34 : decode cX6_raise 34 = .ok (.athrow, 1) := by decide +kernel
theorem dX6_raise_35 : decode cX6_raise 35 = .ok (.aload_n 3, 1) := by decide +kernel
theorem dX6_raise_36 : decode cX6_raise 36 = .ok (.iload_n 2, 1) := by decide +kernel
theorem dX6_raise_37 : decode cX6_raise 37 = .ok (.putfield 137, 3) := by decide +kernel
theorem dX6_raise_40 : decode cX6_raise 40 = .ok (.iload 4, 2) := by decide +kernel
theorem dX6_raise_42 : decode cX6_raise 42 = .ok (.ireturn, 1) := by decide +kernel
theorem dX6_cancel_0 : decode cX6_cancel 0 = .ok (.aload_n 0, 1) := by decide +kernel
theorem dX6_cancel_1 : decode cX6_cancel 1 = .ok (.iload_n 1, 1) := by decide +kernel
theorem dX6_cancel_2 : decode cX6_cancel 2 = .ok (.invokevirtual 134, 3) := by decide +kernel
theorem dX6_cancel_5 : decode cX6_cancel 5 = .ok (.astore_n 2, 1) := by decide +kernel
theorem dX6_cancel_6 : decode cX6_cancel 6 = .ok (.aload_n 2, 1) := by decide +kernel
theorem dX6_cancel_7 : decode cX6_cancel 7 = .ok (.bipush 99, 2) := by decide +kernel
theorem dX6_cancel_9 : decode cX6_cancel 9 = .ok (.putfield 123, 3) := by decide +kernel
theorem dX6_cancel_12 : decode cX6_cancel 12 = .ok (.aload_n 0, 1) := by decide +kernel
theorem dX6_cancel_13 : decode cX6_cancel 13 = .ok (.dup, 1) := by decide +kernel
theorem dX6_cancel_14 : decode cX6_cancel 14 = .ok (.getfield 107, 3) := by decide +kernel
theorem dX6_cancel_17 : decode cX6_cancel 17 = .ok (.iconst 1, 1) := by decide +kernel
theorem dX6_cancel_18 : decode cX6_cancel 18 = .ok (.isub, 1) := by decide +kernel
theorem dX6_cancel_19 : decode cX6_cancel 19 = .ok (.putfield 107, 3) := by decide +kernel
theorem dX6_cancel_22 : decode cX6_cancel 22 = .ok (.aload_n 2, 1) := by decide +kernel
theorem dX6_cancel_23 : decode cX6_cancel 23 = .ok (.getfield 137, 3) := by decide +kernel
theorem dX6_cancel_26 : decode cX6_cancel 26 = .ok (.ireturn, 1) := by decide +kernel
theorem dX6_close_0 : decode cX6_close 0 = .ok (.aload_n 0, 1) := by decide +kernel
theorem dX6_close_1 : decode cX6_close 1 = .ok (.getfield 107, 3) := by decide +kernel
theorem dX6_close_4 : decode cX6_close 4 = .ok (.ifCond .gt 13, 3) := by decide +kernel
theorem dX6_close_7 : decode cX6_close 7 = .ok (.new 59, 3) := by decide +kernel
theorem dX6_close_10 : decode cX6_close 10 = .ok (.dup, 1) := by decide +kernel
theorem dX6_close_11 : decode cX6_close 11 = .ok (.ldc 142, 2) := by decide +kernel
theorem dX6_close_13 : decode cX6_close 13 = .ok (.invokespecial 63, 3) := by decide +kernel
theorem dX6_close_16 : decode cX6_close 16 = .ok (.athrow, 1) := by decide +kernel
theorem dX6_close_17 : decode cX6_close 17 = .ok (.aload_n 0, 1) := by decide +kernel
theorem dX6_close_18 : decode cX6_close 18 = .ok (.invokevirtual 144, 3) := by decide +kernel
theorem dX6_close_21 : decode cX6_close 21 = .ok (.aload_n 0, 1) := by decide +kernel
theorem dX6_close_22 : decode cX6_close 22 = .ok (.getfield 32, 3) := by decide +kernel
theorem dX6_close_25 : decode cX6_close 25 = .ok (.aload_n 0, 1) := by decide +kernel
theorem dX6_close_26 : decode cX6_close 26 = .ok (.getfield 25, 3) := by decide +kernel
theorem dX6_close_29 : decode cX6_close 29 = .ok (.iconst (-1), 1) := by decide +kernel
theorem dX6_close_30 : decode cX6_close 30 = .ok (.invokevirtual 147, 3) := by decide +kernel
theorem dX6_close_33 : decode cX6_close 33 = .ok (.aload_n 0, 1) := by decide +kernel
theorem dX6_close_34 : decode cX6_close 34 = .ok (.getfield 32, 3) := by decide +kernel
theorem dX6_close_37 : decode cX6_close 37 = .ok (.getfield 151, 3) := by decide +kernel
theorem dX6_close_40 : decode cX6_close 40 = .ok (.istore_n 1, 1) := by decide +kernel
theorem dX6_close_41 : decode cX6_close 41 = .ok (.aload_n 0, 1) := by decide +kernel
theorem dX6_close_42 : decode cX6_close 42 = .ok (.getfield 32, 3) := by decide +kernel
theorem dX6_close_45 : decode cX6_close 45 = .ok (.getfield 154, 3) := by decide +kernel
theorem dX6_close_48 : decode cX6_close 48 = .ok (.istore_n 2, 1) := by decide +kernel
theorem dX6_close_49 : decode cX6_close 49 = .ok (.aload_n 0, 1) := by decide +kernel
theorem dX6_close_50 : decode cX6_close 50 = .ok (.iload_n 1, 1) := by decide +kernel
theorem dX6_close_51 : decode cX6_close 51 = .ok (.iload_n 2, 1) := by decide +kernel
theorem dX6_close_52 : decode cX6_close 52 = .ok (.invokevirtual 157, 3) := by decide +kernel
theorem dX6_close_55 : decode cX6_close 55 = .ok (.aload_n 0, 1) := by decide +kernel
theorem dX6_close_56 : decode cX6_close 56 = .ok (.iload_n 1, 1) := by decide +kernel
theorem dX6_close_57 : decode cX6_close 57 = .ok (.invokevirtual 160, 3) := by decide +kernel
theorem dX6_close_60 : decode cX6_close 60 = .ok (.istore_n 3, 1) := by decide +kernel
theorem dX6_close_61 : decode cX6_close 61 = .ok (.aload_n 0, 1) := by decide +kernel
theorem dX6_close_62 : decode cX6_close 62 = .ok (.iload_n 1, 1) := by decide +kernel
theorem dX6_close_63 : decode cX6_close 63 = .ok (.invokevirtual 164, 3) := by decide +kernel
theorem dX6_close_66 : decode cX6_close 66 = .ok (.aload_n 0, 1) := by decide +kernel
theorem dX6_close_67 : decode cX6_close 67 = .ok (.dup, 1) := by decide +kernel
theorem dX6_close_68 : decode cX6_close 68 = .ok (.getfield 51, 3) := by decide +kernel
theorem dX6_close_71 : decode cX6_close 71 = .ok (.iload_n 3, 1) := by decide +kernel
theorem dX6_close_72 : decode cX6_close 72 = .ok (.isub, 1) := by decide +kernel
theorem dX6_close_73 : decode cX6_close 73 = .ok (.putfield 51, 3) := by decide +kernel
theorem dX6_close_76 : decode cX6_close 76 = .ok (.aload_n 0, 1) := by decide +kernel
theorem dX6_close_77 : decode cX6_close 77 = .ok (.dup, 1) := by decide +kernel
theorem dX6_close_78 : decode cX6_close 78 = .ok (.getfield 168, 3) := by decide +kernel
theorem dX6_close_81 : decode cX6_close 81 = .ok (.iload_n 3, 1) := by decide +kernel
theorem dX6_close_82 : decode cX6_close 82 = .ok (.iadd, 1) := by decide +kernel
theorem dX6_close_83 : decode cX6_close 83 = .ok (.putfield 168, 3) := by decide +kernel
theorem dX6_close_86 : decode cX6_close 86 = .ok (.aload_n 0, 1) := by decide +kernel
theorem dX6_close_87 : decode cX6_close 87 = .ok (.iconst 0, 1) := by decide +kernel
theorem dX6_close_88 : decode cX6_close 88 = .ok (.putfield 107, 3) := by decide +kernel
theorem dX6_close_91 : decode cX6_close 91 = .ok (.iload_n 3, 1) := by decide +kernel
theorem dX6_close_92 : decode cX6_close 92 = .ok (.ireturn, 1) := by decide +kernel
theorem dX6_lots_0 : decode cX6_lots 0 = .ok (.aload_n 0, 1) := by decide +kernel
theorem dX6_lots_1 : decode cX6_lots 1 = .ok (.getfield 12, 3) := by decide +kernel
theorem dX6_lots_4 : decode cX6_lots 4 = .ok (.invokevirtual 55, 3) := by decide +kernel
theorem dX6_lots_7 : decode cX6_lots 7 = .ok (.ireturn, 1) := by decide +kernel
theorem dX6_bids_0 : decode cX6_bids 0 = .ok (.aload_n 0, 1) := by decide +kernel
theorem dX6_bids_1 : decode cX6_bids 1 = .ok (.getfield 16, 3) := by decide +kernel
theorem dX6_bids_4 : decode cX6_bids 4 = .ok (.invokevirtual 55, 3) := by decide +kernel
theorem dX6_bids_7 : decode cX6_bids 7 = .ok (.ireturn, 1) := by decide +kernel
theorem dX6_openLots_0 : decode cX6_openLots 0 = .ok (.aload_n 0, 1) := by decide +kernel
theorem dX6_openLots_1 : decode cX6_openLots 1 = .ok (.getfield 51, 3) := by decide +kernel
theorem dX6_openLots_4 : decode cX6_openLots 4 = .ok (.ireturn, 1) := by decide +kernel
theorem dX6_openBids_0 : decode cX6_openBids 0 = .ok (.aload_n 0, 1) := by decide +kernel
theorem dX6_openBids_1 : decode cX6_openBids 1 = .ok (.getfield 107, 3) := by decide +kernel
theorem dX6_openBids_4 : decode cX6_openBids 4 = .ok (.ireturn, 1) := by decide +kernel
theorem dX6_fibreOf_0 : decode cX6_fibreOf 0 = .ok (.aload_n 0, 1) := by decide +kernel
theorem dX6_fibreOf_1 : decode cX6_fibreOf 1 = .ok (.iload_n 1, 1) := by decide +kernel
theorem dX6_fibreOf_2 : decode cX6_fibreOf 2 = .ok (.invokevirtual 73, 3) := by decide +kernel
theorem dX6_fibreOf_5 : decode cX6_fibreOf 5 = .ok (.getfield 171, 3) := by decide +kernel
theorem dX6_fibreOf_8 : decode cX6_fibreOf 8 = .ok (.ireturn, 1) := by decide +kernel
theorem dX6_gradeOf_0 : decode cX6_gradeOf 0 = .ok (.aload_n 0, 1) := by decide +kernel
theorem dX6_gradeOf_1 : decode cX6_gradeOf 1 = .ok (.iload_n 1, 1) := by decide +kernel
theorem dX6_gradeOf_2 : decode cX6_gradeOf 2 = .ok (.invokevirtual 73, 3) := by decide +kernel
theorem dX6_gradeOf_5 : decode cX6_gradeOf 5 = .ok (.getfield 174, 3) := by decide +kernel
theorem dX6_gradeOf_8 : decode cX6_gradeOf 8 = .ok (.ireturn, 1) := by decide +kernel
theorem dX6_reserveOf_0 : decode cX6_reserveOf 0 = .ok (.aload_n 0, 1) := by decide +kernel
theorem dX6_reserveOf_1 : decode cX6_reserveOf 1 = .ok (.iload_n 1, 1) := by decide +kernel
theorem dX6_reserveOf_2 : decode cX6_reserveOf 2 = .ok (.invokevirtual 73, 3) := by decide +kernel
theorem dX6_reserveOf_5 : decode cX6_reserveOf 5 = .ok (.getfield 177, 3) := by decide +kernel
theorem dX6_reserveOf_8 : decode cX6_reserveOf 8 = .ok (.ireturn, 1) := by decide +kernel
theorem dX6_lotState_0 : decode cX6_lotState 0 = .ok (.aload_n 0, 1) := by decide +kernel
theorem dX6_lotState_1 : decode cX6_lotState 1 = .ok (.iload_n 1, 1) := by decide +kernel
theorem dX6_lotState_2 : decode cX6_lotState 2 = .ok (.invokevirtual 73, 3) := by decide +kernel
theorem dX6_lotState_5 : decode cX6_lotState 5 = .ok (.getfield 77, 3) := by decide +kernel
theorem dX6_lotState_8 : decode cX6_lotState 8 = .ok (.ireturn, 1) := by decide +kernel
theorem dX6_soldTo_0 : decode cX6_soldTo 0 = .ok (.aload_n 0, 1) := by decide +kernel
theorem dX6_soldTo_1 : decode cX6_soldTo 1 = .ok (.iload_n 1, 1) := by decide +kernel
theorem dX6_soldTo_2 : decode cX6_soldTo 2 = .ok (.invokevirtual 73, 3) := by decide +kernel
theorem dX6_soldTo_5 : decode cX6_soldTo 5 = .ok (.astore_n 2, 1) := by decide +kernel
theorem dX6_soldTo_6 : decode cX6_soldTo 6 = .ok (.aload_n 2, 1) := by decide +kernel
theorem dX6_soldTo_7 : decode cX6_soldTo 7 = .ok (.getfield 77, 3) := by decide +kernel
theorem dX6_soldTo_10 : decode cX6_soldTo 10 = .ok (.bipush 115, 2) := by decide +kernel
theorem dX6_soldTo_12 : decode cX6_soldTo 12 = .ok (.if_icmp .eq 13, 3) := by decide +kernel
theorem dX6_soldTo_15 : decode cX6_soldTo 15 = .ok (.new 59, 3) := by decide +kernel
theorem dX6_soldTo_18 : decode cX6_soldTo 18 = .ok (.dup, 1) := by decide +kernel
theorem dX6_soldTo_19 : decode cX6_soldTo 19 = .ok (.ldc 180, 2) := by decide +kernel
theorem dX6_soldTo_21 : decode cX6_soldTo 21 = .ok (.invokespecial 63, 3) := by decide +kernel
theorem dX6_soldTo_24 : decode cX6_soldTo 24 = .ok (.athrow, 1) := by decide +kernel
theorem dX6_soldTo_25 : decode cX6_soldTo 25 = .ok (.aload_n 2, 1) := by decide +kernel
theorem dX6_soldTo_26 : decode cX6_soldTo 26 = .ok (.getfield 182, 3) := by decide +kernel
theorem dX6_soldTo_29 : decode cX6_soldTo 29 = .ok (.ireturn, 1) := by decide +kernel
theorem dX6_countOf_0 : decode cX6_countOf 0 = .ok (.iload_n 1, 1) := by decide +kernel
theorem dX6_countOf_1 : decode cX6_countOf 1 = .ok (.invokestatic 36, 3) := by decide +kernel
theorem dX6_countOf_4 : decode cX6_countOf 4 = .ok (.ifCond .eq 10, 3) := by decide +kernel
theorem dX6_countOf_7 : decode cX6_countOf 7 = .ok (.iload_n 2, 1) := by decide +kernel
theorem dX6_countOf_8 : decode cX6_countOf 8 = .ok (.invokestatic 40, 3) := by decide +kernel
theorem dX6_countOf_11 : decode cX6_countOf 11 = .ok (.ifCond .ne 13, 3) := by decide +kernel
theorem dX6_countOf_14 : decode cX6_countOf 14 = .ok (.new 44, 3) := by decide +kernel
theorem dX6_countOf_17 : decode cX6_countOf 17 = .ok (.dup, 1) := by decide +kernel
theorem dX6_countOf_18 : decode cX6_countOf 18 = .ok (.ldc 121, 2) := by decide +kernel
theorem dX6_countOf_20 : decode cX6_countOf 20 = .ok (.invokespecial 48, 3) := by decide +kernel
theorem dX6_countOf_23 : decode cX6_countOf 23 = .ok (.athrow, 1) := by decide +kernel
theorem dX6_countOf_24 : decode cX6_countOf 24 = .ok (.iconst 0, 1) := by decide +kernel
theorem dX6_countOf_25 : decode cX6_countOf 25 = .ok (.istore_n 3, 1) := by decide +kernel
theorem dX6_countOf_26 : decode cX6_countOf 26 = .ok (.iconst 0, 1) := by decide +kernel
theorem dX6_countOf_27 : decode cX6_countOf 27 = .ok (.istore 4, 2) := by decide +kernel
theorem dX6_countOf_29 : decode cX6_countOf 29 = .ok (.iload 4, 2) := by decide +kernel
theorem dX6_countOf_31 : decode cX6_countOf 31 = .ok (.aload_n 0, 1) := by decide +kernel
theorem dX6_countOf_32 : decode cX6_countOf 32 = .ok (.getfield 12, 3) := by decide +kernel
theorem dX6_countOf_35 : decode cX6_countOf 35 = .ok (.invokevirtual 55, 3) := by decide +kernel
theorem dX6_countOf_38 : decode cX6_countOf 38 = .ok (.if_icmp .ge 54, 3) := by decide +kernel
theorem dX6_countOf_41 : decode cX6_countOf 41 = .ok (.aload_n 0, 1) := by decide +kernel
theorem dX6_countOf_42 : decode cX6_countOf 42 = .ok (.getfield 12, 3) := by decide +kernel
theorem dX6_countOf_45 : decode cX6_countOf 45 = .ok (.iload 4, 2) := by decide +kernel
theorem dX6_countOf_47 : decode cX6_countOf 47 = .ok (.invokevirtual 185, 3) := by decide +kernel
theorem dX6_countOf_50 : decode cX6_countOf 50 = .ok (.checkcast 64, 3) := by decide +kernel
theorem dX6_countOf_53 : decode cX6_countOf 53 = .ok (.astore 5, 2) := by decide +kernel
theorem dX6_countOf_55 : decode cX6_countOf 55 = .ok (.aload 5, 2) := by decide +kernel
theorem dX6_countOf_57 : decode cX6_countOf 57 = .ok (.getfield 77, 3) := by decide +kernel
theorem dX6_countOf_60 : decode cX6_countOf 60 = .ok (.bipush 111, 2) := by decide +kernel
theorem dX6_countOf_62 : decode cX6_countOf 62 = .ok (.if_icmp .ne 24, 3) := by decide +kernel
theorem dX6_countOf_65 : decode cX6_countOf 65 = .ok (.aload 5, 2) := by decide +kernel
theorem dX6_countOf_67 : decode cX6_countOf 67 = .ok (.getfield 171, 3) := by decide +kernel
theorem dX6_countOf_70 : decode cX6_countOf 70 = .ok (.iload_n 1, 1) := by decide +kernel
theorem dX6_countOf_71 : decode cX6_countOf 71 = .ok (.if_icmp .ne 15, 3) := by decide +kernel
theorem dX6_countOf_74 : decode cX6_countOf 74 = .ok (.aload 5, 2) := by decide +kernel
theorem dX6_countOf_76 : decode cX6_countOf 76 = .ok (.getfield 174, 3) := by decide +kernel
theorem dX6_countOf_79 : decode cX6_countOf 79 = .ok (.iload_n 2, 1) := by decide +kernel
theorem dX6_countOf_80 : decode cX6_countOf 80 = .ok (.if_icmp .ne 6, 3) := by decide +kernel
theorem dX6_countOf_83 : decode cX6_countOf 83 = .ok (.iinc 3 1, 3) := by decide +kernel
theorem dX6_countOf_86 : decode cX6_countOf 86 = .ok (.iinc 4 1, 3) := by decide +kernel
theorem dX6_countOf_89 : decode cX6_countOf 89 = .ok (.goto (-60), 3) := by decide +kernel
theorem dX6_countOf_92 : decode cX6_countOf 92 = .ok (.iload_n 3, 1) := by decide +kernel
theorem dX6_countOf_93 : decode cX6_countOf 93 = .ok (.ireturn, 1) := by decide +kernel
theorem dX6_items_0 : decode cX6_items 0 = .ok (.aload_n 0, 1) := by decide +kernel
theorem dX6_items_1 : decode cX6_items 1 = .ok (.iload_n 1, 1) := by decide +kernel
theorem dX6_items_2 : decode cX6_items 2 = .ok (.invokevirtual 117, 3) := by decide +kernel
theorem dX6_items_5 : decode cX6_items 5 = .ok (.getfield 124, 3) := by decide +kernel
theorem dX6_items_8 : decode cX6_items 8 = .ok (.invokevirtual 55, 3) := by decide +kernel
theorem dX6_items_11 : decode cX6_items 11 = .ok (.ireturn, 1) := by decide +kernel
theorem dX6_fits_0 : decode cX6_fits 0 = .ok (.aload_n 0, 1) := by decide +kernel
theorem dX6_fits_1 : decode cX6_fits 1 = .ok (.iload_n 1, 1) := by decide +kernel
theorem dX6_fits_2 : decode cX6_fits 2 = .ok (.invokevirtual 73, 3) := by decide +kernel
theorem dX6_fits_5 : decode cX6_fits 5 = .ok (.astore 4, 2) := by decide +kernel
theorem dX6_fits_7 : decode cX6_fits 7 = .ok (.aload_n 0, 1) := by decide +kernel
theorem dX6_fits_8 : decode cX6_fits 8 = .ok (.aload 4, 2) := by decide +kernel
theorem dX6_fits_10 : decode cX6_fits 10 = .ok (.aload_n 0, 1) := by decide +kernel
theorem dX6_fits_11 : decode cX6_fits 11 = .ok (.iload_n 2, 1) := by decide +kernel
theorem dX6_fits_12 : decode cX6_fits 12 = .ok (.invokevirtual 117, 3) := by decide +kernel
theorem dX6_fits_15 : decode cX6_fits 15 = .ok (.iload_n 3, 1) := by decide +kernel
theorem dX6_fits_16 : decode cX6_fits 16 = .ok (.invokestatic 188, 3) := by decide +kernel
theorem dX6_fits_19 : decode cX6_fits 19 = .ok (.invokevirtual 192, 3) := by decide +kernel
theorem dX6_fits_22 : decode cX6_fits 22 = .ok (.ireturn, 1) := by decide +kernel
theorem dX6_fitting_0 : decode cX6_fitting 0 = .ok (.aload_n 0, 1) := by decide +kernel
theorem dX6_fitting_1 : decode cX6_fitting 1 = .ok (.iload_n 1, 1) := by decide +kernel
theorem dX6_fitting_2 : decode cX6_fitting 2 = .ok (.invokevirtual 117, 3) := by decide +kernel
theorem dX6_fitting_5 : decode cX6_fitting 5 = .ok (.iload_n 2, 1) := by decide +kernel
theorem dX6_fitting_6 : decode cX6_fitting 6 = .ok (.invokestatic 188, 3) := by decide +kernel
theorem dX6_fitting_9 : decode cX6_fitting 9 = .ok (.astore_n 3, 1) := by decide +kernel
theorem dX6_fitting_10 : decode cX6_fitting 10 = .ok (.iconst 0, 1) := by decide +kernel
theorem dX6_fitting_11 : decode cX6_fitting 11 = .ok (.istore 4, 2) := by decide +kernel
theorem dX6_fitting_13 : decode cX6_fitting 13 = .ok (.iconst 0, 1) := by decide +kernel
theorem dX6_fitting_14 : decode cX6_fitting 14 = .ok (.istore 5, 2) := by decide +kernel
theorem dX6_fitting_16 : decode cX6_fitting 16 = .ok (.iload 5, 2) := by decide +kernel
theorem dX6_fitting_18 : decode cX6_fitting 18 = .ok (.aload_n 0, 1) := by decide +kernel
theorem dX6_fitting_19 : decode cX6_fitting 19 = .ok (.getfield 12, 3) := by decide +kernel
theorem dX6_fitting_22 : decode cX6_fitting 22 = .ok (.invokevirtual 55, 3) := by decide +kernel
theorem dX6_fitting_25 : decode cX6_fitting 25 = .ok (.if_icmp .ge 46, 3) := by decide +kernel
theorem dX6_fitting_28 : decode cX6_fitting 28 = .ok (.aload_n 0, 1) := by decide +kernel
theorem dX6_fitting_29 : decode cX6_fitting 29 = .ok (.getfield 12, 3) := by decide +kernel
theorem dX6_fitting_32 : decode cX6_fitting 32 = .ok (.iload 5, 2) := by decide +kernel
theorem dX6_fitting_34 : decode cX6_fitting 34 = .ok (.invokevirtual 185, 3) := by decide +kernel
theorem dX6_fitting_37 : decode cX6_fitting 37 = .ok (.checkcast 64, 3) := by decide +kernel
theorem dX6_fitting_40 : decode cX6_fitting 40 = .ok (.astore 6, 2) := by decide +kernel
theorem dX6_fitting_42 : decode cX6_fitting 42 = .ok (.aload 6, 2) := by decide +kernel
theorem dX6_fitting_44 : decode cX6_fitting 44 = .ok (.getfield 77, 3) := by decide +kernel
theorem dX6_fitting_47 : decode cX6_fitting 47 = .ok (.bipush 111, 2) := by decide +kernel
theorem dX6_fitting_49 : decode cX6_fitting 49 = .ok (.if_icmp .ne 16, 3) := by decide +kernel
theorem dX6_fitting_52 : decode cX6_fitting 52 = .ok (.aload_n 0, 1) := by decide +kernel
theorem dX6_fitting_53 : decode cX6_fitting 53 = .ok (.aload 6, 2) := by decide +kernel
theorem dX6_fitting_55 : decode cX6_fitting 55 = .ok (.aload_n 3, 1) := by decide +kernel
theorem dX6_fitting_56 : decode cX6_fitting 56 = .ok (.invokevirtual 192, 3) := by decide +kernel
theorem dX6_fitting_59 : decode cX6_fitting 59 = .ok (.ifCond .eq 6, 3) := by decide +kernel
theorem dX6_fitting_62 : decode cX6_fitting 62 = .ok (.iinc 4 1, 3) := by decide +kernel
theorem dX6_fitting_65 : decode cX6_fitting 65 = .ok (.iinc 5 1, 3) := by decide +kernel
theorem dX6_fitting_68 : decode cX6_fitting 68 = .ok (.goto (-52), 3) := by decide +kernel
theorem dX6_fitting_71 : decode cX6_fitting 71 = .ok (.iload 4, 2) := by decide +kernel
theorem dX6_fitting_73 : decode cX6_fitting 73 = .ok (.ireturn, 1) := by decide +kernel
theorem dX6_priceOf_0 : decode cX6_priceOf 0 = .ok (.aload_n 0, 1) := by decide +kernel
theorem dX6_priceOf_1 : decode cX6_priceOf 1 = .ok (.iload_n 1, 1) := by decide +kernel
theorem dX6_priceOf_2 : decode cX6_priceOf 2 = .ok (.invokevirtual 117, 3) := by decide +kernel
theorem dX6_priceOf_5 : decode cX6_priceOf 5 = .ok (.getfield 137, 3) := by decide +kernel
theorem dX6_priceOf_8 : decode cX6_priceOf 8 = .ok (.ireturn, 1) := by decide +kernel
theorem dX6_stateOf_0 : decode cX6_stateOf 0 = .ok (.aload_n 0, 1) := by decide +kernel
theorem dX6_stateOf_1 : decode cX6_stateOf 1 = .ok (.iload_n 1, 1) := by decide +kernel
theorem dX6_stateOf_2 : decode cX6_stateOf 2 = .ok (.invokevirtual 117, 3) := by decide +kernel
theorem dX6_stateOf_5 : decode cX6_stateOf 5 = .ok (.getfield 123, 3) := by decide +kernel
theorem dX6_stateOf_8 : decode cX6_stateOf 8 = .ok (.ireturn, 1) := by decide +kernel
theorem dX6_reason_0 : decode cX6_reason 0 = .ok (.aload_n 0, 1) := by decide +kernel
theorem dX6_reason_1 : decode cX6_reason 1 = .ok (.iload_n 1, 1) := by decide +kernel
theorem dX6_reason_2 : decode cX6_reason 2 = .ok (.invokevirtual 117, 3) := by decide +kernel
theorem dX6_reason_5 : decode cX6_reason 5 = .ok (.astore_n 2, 1) := by decide +kernel
theorem dX6_reason_6 : decode cX6_reason 6 = .ok (.aload_n 2, 1) := by decide +kernel
theorem dX6_reason_7 : decode cX6_reason 7 = .ok (.getfield 123, 3) := by decide +kernel
theorem dX6_reason_10 : decode cX6_reason 10 = .ok (.bipush 108, 2) := by decide +kernel
theorem dX6_reason_12 : decode cX6_reason 12 = .ok (.if_icmp .eq 13, 3) := by decide +kernel
theorem dX6_reason_15 : decode cX6_reason 15 = .ok (.new 59, 3) := by decide +kernel
theorem dX6_reason_18 : decode cX6_reason 18 = .ok (.dup, 1) := by decide +kernel
theorem dX6_reason_19 : decode cX6_reason 19 = .ok (.ldc 196, 2) := by decide +kernel
theorem dX6_reason_21 : decode cX6_reason 21 = .ok (.invokespecial 63, 3) := by decide +kernel
theorem dX6_reason_24 : decode cX6_reason 24 = .ok (.athrow, 1) := by decide +kernel
theorem dX6_reason_25 : decode cX6_reason 25 = .ok (.aload_n 2, 1) := by decide +kernel
theorem dX6_reason_26 : decode cX6_reason 26 = .ok (.getfield 198, 3) := by decide +kernel
theorem dX6_reason_29 : decode cX6_reason 29 = .ok (.ireturn, 1) := by decide +kernel
theorem dX6_rival_0 : decode cX6_rival 0 = .ok (.aload_n 0, 1) := by decide +kernel
theorem dX6_rival_1 : decode cX6_rival 1 = .ok (.iload_n 1, 1) := by decide +kernel
theorem dX6_rival_2 : decode cX6_rival 2 = .ok (.invokevirtual 117, 3) := by decide +kernel
theorem dX6_rival_5 : decode cX6_rival 5 = .ok (.astore_n 2, 1) := by decide +kernel
theorem dX6_rival_6 : decode cX6_rival 6 = .ok (.aload_n 2, 1) := by decide +kernel
theorem dX6_rival_7 : decode cX6_rival 7 = .ok (.getfield 123, 3) := by decide +kernel
theorem dX6_rival_10 : decode cX6_rival 10 = .ok (.bipush 108, 2) := by decide +kernel
theorem dX6_rival_12 : decode cX6_rival 12 = .ok (.if_icmp .ne 12, 3) := by decide +kernel
theorem dX6_rival_15 : decode cX6_rival 15 = .ok (.aload_n 2, 1) := by decide +kernel
theorem dX6_rival_16 : decode cX6_rival 16 = .ok (.getfield 198, 3) := by decide +kernel
theorem dX6_rival_19 : decode cX6_rival 19 = .ok (.bipush 98, 2) := by decide +kernel
theorem dX6_rival_21 : decode cX6_rival 21 = .ok (.if_icmp .eq 13, 3) := by decide +kernel
theorem dX6_rival_24 : decode cX6_rival 24 = .ok (.new 59, 3) := by decide +kernel
theorem dX6_rival_27 : decode cX6_rival 27 = .ok (.dup, 1) := by decide +kernel
theorem dX6_rival_28 : decode cX6_rival 28 = .ok (.ldc 201, 2) := by decide +kernel
theorem dX6_rival_30 : decode cX6_rival 30 = .ok (.invokespecial 63, 3) := by decide +kernel
theorem dX6_rival_33 : decode cX6_rival 33 = .ok (.athrow, 1) := by decide +kernel
theorem dX6_rival_34 : decode cX6_rival 34 = .ok (.aload_n 2, 1) := by decide +kernel
theorem dX6_rival_35 : decode cX6_rival 35 = .ok (.getfield 203, 3) := by decide +kernel
theorem dX6_rival_38 : decode cX6_rival 38 = .ok (.ireturn, 1) := by decide +kernel
theorem dX6_lotOf_0 : decode cX6_lotOf 0 = .ok (.aload_n 0, 1) := by decide +kernel
theorem dX6_lotOf_1 : decode cX6_lotOf 1 = .ok (.iload_n 1, 1) := by decide +kernel
theorem dX6_lotOf_2 : decode cX6_lotOf 2 = .ok (.invokevirtual 117, 3) := by decide +kernel
theorem dX6_lotOf_5 : decode cX6_lotOf 5 = .ok (.astore_n 3, 1) := by decide +kernel
theorem dX6_lotOf_6 : decode cX6_lotOf 6 = .ok (.aload_n 3, 1) := by decide +kernel
theorem dX6_lotOf_7 : decode cX6_lotOf 7 = .ok (.iload_n 2, 1) := by decide +kernel
theorem dX6_lotOf_8 : decode cX6_lotOf 8 = .ok (.invokestatic 188, 3) := by decide +kernel
theorem dX6_lotOf_11 : decode cX6_lotOf 11 = .ok (.astore 4, 2) := by decide +kernel
theorem dX6_lotOf_13 : decode cX6_lotOf 13 = .ok (.aload_n 3, 1) := by decide +kernel
theorem dX6_lotOf_14 : decode cX6_lotOf 14 = .ok (.getfield 123, 3) := by decide +kernel
theorem dX6_lotOf_17 : decode cX6_lotOf 17 = .ok (.bipush 119, 2) := by decide +kernel
theorem dX6_lotOf_19 : decode cX6_lotOf 19 = .ok (.if_icmp .eq 13, 3) := by decide +kernel
theorem dX6_lotOf_22 : decode cX6_lotOf 22 = .ok (.new 59, 3) := by decide +kernel
theorem dX6_lotOf_25 : decode cX6_lotOf 25 = .ok (.dup, 1) := by decide +kernel
theorem dX6_lotOf_26 : decode cX6_lotOf 26 = .ok (.ldc 206, 2) := by decide +kernel
theorem dX6_lotOf_28 : decode cX6_lotOf 28 = .ok (.invokespecial 63, 3) := by decide +kernel
theorem dX6_lotOf_31 : decode cX6_lotOf 31 = .ok (.athrow, 1) := by decide +kernel
theorem dX6_lotOf_32 : decode cX6_lotOf 32 = .ok (.aload 4, 2) := by decide +kernel
theorem dX6_lotOf_34 : decode cX6_lotOf 34 = .ok (.getfield 208, 3) := by decide +kernel
theorem dX6_lotOf_37 : decode cX6_lotOf 37 = .ok (.ireturn, 1) := by decide +kernel
theorem dX6_paid_0 : decode cX6_paid 0 = .ok (.aload_n 0, 1) := by decide +kernel
theorem dX6_paid_1 : decode cX6_paid 1 = .ok (.iload_n 1, 1) := by decide +kernel
theorem dX6_paid_2 : decode cX6_paid 2 = .ok (.invokevirtual 117, 3) := by decide +kernel
theorem dX6_paid_5 : decode cX6_paid 5 = .ok (.astore_n 2, 1) := by decide +kernel
theorem dX6_paid_6 : decode cX6_paid 6 = .ok (.aload_n 2, 1) := by decide +kernel
theorem dX6_paid_7 : decode cX6_paid 7 = .ok (.getfield 123, 3) := by decide +kernel
theorem dX6_paid_10 : decode cX6_paid 10 = .ok (.bipush 119, 2) := by decide +kernel
theorem dX6_paid_12 : decode cX6_paid 12 = .ok (.if_icmp .eq 13, 3) := by decide +kernel
theorem dX6_paid_15 : decode cX6_paid 15 = .ok (.new 59, 3) := by decide +kernel
theorem dX6_paid_18 : decode cX6_paid 18 = .ok (.dup, 1) := by decide +kernel
theorem dX6_paid_19 : decode cX6_paid 19 = .ok (.ldc 206, 2) := by decide +kernel
theorem dX6_paid_21 : decode cX6_paid 21 = .ok (.invokespecial 63, 3) := by decide +kernel
theorem dX6_paid_24 : decode cX6_paid 24 = .ok (.athrow, 1) := by decide +kernel
theorem dX6_paid_25 : decode cX6_paid 25 = .ok (.aload_n 2, 1) := by decide +kernel
theorem dX6_paid_26 : decode cX6_paid 26 = .ok (.getfield 211, 3) := by decide +kernel
theorem dX6_paid_29 : decode cX6_paid 29 = .ok (.ireturn, 1) := by decide +kernel
theorem dX6_costOf_0 : decode cX6_costOf 0 = .ok (.aload_n 0, 1) := by decide +kernel
theorem dX6_costOf_1 : decode cX6_costOf 1 = .ok (.iload_n 1, 1) := by decide +kernel
theorem dX6_costOf_2 : decode cX6_costOf 2 = .ok (.invokevirtual 134, 3) := by decide +kernel
theorem dX6_costOf_5 : decode cX6_costOf 5 = .ok (.pop, 1) := by decide +kernel
theorem dX6_costOf_6 : decode cX6_costOf 6 = .ok (.aload_n 0, 1) := by decide +kernel
theorem dX6_costOf_7 : decode cX6_costOf 7 = .ok (.invokevirtual 144, 3) := by decide +kernel
theorem dX6_costOf_10 : decode cX6_costOf 10 = .ok (.aload_n 0, 1) := by decide +kernel
theorem dX6_costOf_11 : decode cX6_costOf 11 = .ok (.getfield 25, 3) := by decide +kernel
theorem dX6_costOf_14 : decode cX6_costOf 14 = .ok (.aload_n 0, 1) := by decide +kernel
theorem dX6_costOf_15 : decode cX6_costOf 15 = .ok (.getfield 25, 3) := by decide +kernel
theorem dX6_costOf_18 : decode cX6_costOf 18 = .ok (.iload_n 1, 1) := by decide +kernel
theorem dX6_costOf_19 : decode cX6_costOf 19 = .ok (.invokevirtual 214, 3) := by decide +kernel
theorem dX6_costOf_22 : decode cX6_costOf 22 = .ok (.invokevirtual 217, 3) := by decide +kernel
theorem dX6_costOf_25 : decode cX6_costOf 25 = .ok (.istore_n 2, 1) := by decide +kernel
theorem dX6_costOf_26 : decode cX6_costOf 26 = .ok (.iload_n 2, 1) := by decide +kernel
theorem dX6_costOf_27 : decode cX6_costOf 27 = .ok (.iconst (-1), 1) := by decide +kernel
theorem dX6_costOf_28 : decode cX6_costOf 28 = .ok (.if_icmp .ne 13, 3) := by decide +kernel
theorem dX6_costOf_31 : decode cX6_costOf 31 = .ok (.new 220, 3) := by decide +kernel
theorem dX6_costOf_34 : decode cX6_costOf 34 = .ok (.dup, 1) := by decide +kernel
theorem dX6_costOf_35 : decode cX6_costOf 35 = .ok (.ldc 222, 2) := by decide +kernel
theorem dX6_costOf_37 : decode cX6_costOf 37 = .ok (.invokespecial 224, 3) := by decide +kernel
theorem dX6_costOf_40 : decode cX6_costOf 40 = .ok (.athrow, 1) := by decide +kernel
theorem dX6_costOf_41 : decode cX6_costOf 41 = .ok (.iload_n 2, 1) := by decide +kernel
theorem dX6_costOf_42 : decode cX6_costOf 42 = .ok (.ireturn, 1) := by decide +kernel
theorem dX6_surplus_0 : decode cX6_surplus 0 = .ok (.aload_n 0, 1) := by decide +kernel
theorem dX6_surplus_1 : decode cX6_surplus 1 = .ok (.invokevirtual 144, 3) := by decide +kernel
theorem dX6_surplus_4 : decode cX6_surplus 4 = .ok (.aload_n 0, 1) := by decide +kernel
theorem dX6_surplus_5 : decode cX6_surplus 5 = .ok (.getfield 32, 3) := by decide +kernel
theorem dX6_surplus_8 : decode cX6_surplus 8 = .ok (.aload_n 0, 1) := by decide +kernel
theorem dX6_surplus_9 : decode cX6_surplus 9 = .ok (.getfield 25, 3) := by decide +kernel
theorem dX6_surplus_12 : decode cX6_surplus 12 = .ok (.iconst (-1), 1) := by decide +kernel
theorem dX6_surplus_13 : decode cX6_surplus 13 = .ok (.invokevirtual 147, 3) := by decide +kernel
theorem dX6_surplus_16 : decode cX6_surplus 16 = .ok (.aload_n 0, 1) := by decide +kernel
theorem dX6_surplus_17 : decode cX6_surplus 17 = .ok (.getfield 32, 3) := by decide +kernel
theorem dX6_surplus_20 : decode cX6_surplus 20 = .ok (.getfield 154, 3) := by decide +kernel
theorem dX6_surplus_23 : decode cX6_surplus 23 = .ok (.ireturn, 1) := by decide +kernel
theorem dX6_surplusBySets_0 : decode cX6_surplusBySets 0 = .ok (.aload_n 0, 1) := by decide +kernel
theorem dX6_surplusBySets_1 : decode cX6_surplusBySets 1 = .ok (.invokevirtual 144, 3) := by decide +kernel
theorem dX6_surplusBySets_4 : decode cX6_surplusBySets 4 = .ok (.aload_n 0, 1) := by decide +kernel
theorem dX6_surplusBySets_5 : decode cX6_surplusBySets 5 = .ok (.getfield 32, 3) := by decide +kernel
theorem dX6_surplusBySets_8 : decode cX6_surplusBySets 8 = .ok (.aload_n 0, 1) := by decide +kernel
theorem dX6_surplusBySets_9 : decode cX6_surplusBySets 9 = .ok (.getfield 25, 3) := by decide +kernel
theorem dX6_surplusBySets_12 : decode cX6_surplusBySets 12 = .ok (.invokevirtual 225, 3) := by decide +kernel
theorem dX6_surplusBySets_15 : decode cX6_surplusBySets 15 = .ok (.aload_n 0, 1) := by decide +kernel
theorem dX6_surplusBySets_16 : decode cX6_surplusBySets 16 = .ok (.getfield 32, 3) := by decide +kernel
theorem dX6_surplusBySets_19 : decode cX6_surplusBySets 19 = .ok (.getfield 154, 3) := by decide +kernel
theorem dX6_surplusBySets_22 : decode cX6_surplusBySets 22 = .ok (.ireturn, 1) := by decide +kernel
theorem dX6_surplusWithout_0 : decode cX6_surplusWithout 0 = .ok (.iload_n 1, 1) := by decide +kernel
theorem dX6_surplusWithout_1 : decode cX6_surplusWithout 1 = .ok (.invokestatic 102, 3) := by decide +kernel
theorem dX6_surplusWithout_4 : decode cX6_surplusWithout 4 = .ok (.ifCond .ne 13, 3) := by decide +kernel
theorem dX6_surplusWithout_7 : decode cX6_surplusWithout 7 = .ok (.new 44, 3) := by decide +kernel
theorem dX6_surplusWithout_10 : decode cX6_surplusWithout 10 = .ok (.dup, 1) := by decide +kernel
theorem dX6_surplusWithout_11 : decode cX6_surplusWithout 11 = .ok (.ldc 229, 2) := by decide +kernel
theorem dX6_surplusWithout_13 : decode cX6_surplusWithout 13 = .ok (.invokespecial 48, 3) := by decide +kernel
theorem dX6_surplusWithout_16 : decode cX6_surplusWithout 16 = .ok (.athrow, 1) := by decide +kernel
theorem dX6_surplusWithout_17 : decode cX6_surplusWithout 17 = .ok (.aload_n 0, 1) := by decide +kernel
theorem dX6_surplusWithout_18 : decode cX6_surplusWithout 18 = .ok (.invokevirtual 144, 3) := by decide +kernel
theorem dX6_surplusWithout_21 : decode cX6_surplusWithout 21 = .ok (.aload_n 0, 1) := by decide +kernel
theorem dX6_surplusWithout_22 : decode cX6_surplusWithout 22 = .ok (.getfield 32, 3) := by decide +kernel
theorem dX6_surplusWithout_25 : decode cX6_surplusWithout 25 = .ok (.aload_n 0, 1) := by decide +kernel
theorem dX6_surplusWithout_26 : decode cX6_surplusWithout 26 = .ok (.getfield 25, 3) := by decide +kernel
theorem dX6_surplusWithout_29 : decode cX6_surplusWithout 29 = .ok (.iload_n 1, 1) := by decide +kernel
theorem dX6_surplusWithout_30 : decode cX6_surplusWithout 30 = .ok (.invokevirtual 147, 3) := by decide +kernel
theorem dX6_surplusWithout_33 : decode cX6_surplusWithout 33 = .ok (.aload_n 0, 1) := by decide +kernel
theorem dX6_surplusWithout_34 : decode cX6_surplusWithout 34 = .ok (.getfield 32, 3) := by decide +kernel
theorem dX6_surplusWithout_37 : decode cX6_surplusWithout 37 = .ok (.getfield 154, 3) := by decide +kernel
theorem dX6_surplusWithout_40 : decode cX6_surplusWithout 40 = .ok (.ireturn, 1) := by decide +kernel
theorem dX6_wouldWin_0 : decode cX6_wouldWin 0 = .ok (.aload_n 0, 1) := by decide +kernel
theorem dX6_wouldWin_1 : decode cX6_wouldWin 1 = .ok (.iload_n 1, 1) := by decide +kernel
theorem dX6_wouldWin_2 : decode cX6_wouldWin 2 = .ok (.invokevirtual 134, 3) := by decide +kernel
theorem dX6_wouldWin_5 : decode cX6_wouldWin 5 = .ok (.pop, 1) := by decide +kernel
theorem dX6_wouldWin_6 : decode cX6_wouldWin 6 = .ok (.aload_n 0, 1) := by decide +kernel
theorem dX6_wouldWin_7 : decode cX6_wouldWin 7 = .ok (.iload_n 1, 1) := by decide +kernel
theorem dX6_wouldWin_8 : decode cX6_wouldWin 8 = .ok (.invokevirtual 231, 3) := by decide +kernel
theorem dX6_wouldWin_11 : decode cX6_wouldWin 11 = .ok (.ireturn, 1) := by decide +kernel
theorem dX6_wouldWinBySets_0 : decode cX6_wouldWinBySets 0 = .ok (.aload_n 0, 1) := by decide +kernel
theorem dX6_wouldWinBySets_1 : decode cX6_wouldWinBySets 1 = .ok (.iload_n 1, 1) := by decide +kernel
theorem dX6_wouldWinBySets_2 : decode cX6_wouldWinBySets 2 = .ok (.invokevirtual 134, 3) := by decide +kernel
theorem dX6_wouldWinBySets_5 : decode cX6_wouldWinBySets 5 = .ok (.pop, 1) := by decide +kernel
theorem dX6_wouldWinBySets_6 : decode cX6_wouldWinBySets 6 = .ok (.aload_n 0, 1) := by decide +kernel
theorem dX6_wouldWinBySets_7 : decode cX6_wouldWinBySets 7 = .ok (.invokevirtual 144, 3) := by decide +kernel
theorem dX6_wouldWinBySets_10 : decode cX6_wouldWinBySets 10 = .ok (.aload_n 0, 1) := by decide +kernel
theorem dX6_wouldWinBySets_11 : decode cX6_wouldWinBySets 11 = .ok (.getfield 32, 3) := by decide +kernel
theorem dX6_wouldWinBySets_14 : decode cX6_wouldWinBySets 14 = .ok (.aload_n 0, 1) := by decide +kernel
theorem dX6_wouldWinBySets_15 : decode cX6_wouldWinBySets 15 = .ok (.getfield 25, 3) := by decide +kernel
theorem dX6_wouldWinBySets_18 : decode cX6_wouldWinBySets 18 = .ok (.invokevirtual 225, 3) := by decide +kernel
theorem dX6_wouldWinBySets_21 : decode cX6_wouldWinBySets 21 = .ok (.aload_n 0, 1) := by decide +kernel
theorem dX6_wouldWinBySets_22 : decode cX6_wouldWinBySets 22 = .ok (.getfield 32, 3) := by decide +kernel
theorem dX6_wouldWinBySets_25 : decode cX6_wouldWinBySets 25 = .ok (.getfield 151, 3) := by decide +kernel
theorem dX6_wouldWinBySets_28 : decode cX6_wouldWinBySets 28 = .ok (.aload_n 0, 1) := by decide +kernel
theorem dX6_wouldWinBySets_29 : decode cX6_wouldWinBySets 29 = .ok (.getfield 25, 3) := by decide +kernel
theorem dX6_wouldWinBySets_32 : decode cX6_wouldWinBySets 32 = .ok (.iload_n 1, 1) := by decide +kernel
theorem dX6_wouldWinBySets_33 : decode cX6_wouldWinBySets 33 = .ok (.invokevirtual 214, 3) := by decide +kernel
theorem dX6_wouldWinBySets_36 : decode cX6_wouldWinBySets 36 = .ok (.iand, 1) := by decide +kernel
theorem dX6_wouldWinBySets_37 : decode cX6_wouldWinBySets 37 = .ok (.ifCond .eq 7, 3) := by decide +kernel
theorem dX6_wouldWinBySets_40 : decode cX6_wouldWinBySets 40 = .ok (.iconst 1, 1) := by decide +kernel
theorem dX6_wouldWinBySets_41 : decode cX6_wouldWinBySets 41 = .ok (.goto 4, 3) := by decide +kernel
theorem dX6_wouldWinBySets_44 : decode cX6_wouldWinBySets 44 = .ok (.iconst 0, 1) := by decide +kernel
theorem dX6_wouldWinBySets_45 : decode cX6_wouldWinBySets 45 = .ok (.ireturn, 1) := by decide +kernel
theorem dX6_lotFor_0 : decode cX6_lotFor 0 = .ok (.aload_n 0, 1) := by decide +kernel
theorem dX6_lotFor_1 : decode cX6_lotFor 1 = .ok (.iload_n 1, 1) := by decide +kernel
theorem dX6_lotFor_2 : decode cX6_lotFor 2 = .ok (.invokevirtual 117, 3) := by decide +kernel
theorem dX6_lotFor_5 : decode cX6_lotFor 5 = .ok (.iload_n 2, 1) := by decide +kernel
theorem dX6_lotFor_6 : decode cX6_lotFor 6 = .ok (.invokestatic 188, 3) := by decide +kernel
theorem dX6_lotFor_9 : decode cX6_lotFor 9 = .ok (.pop, 1) := by decide +kernel
theorem dX6_lotFor_10 : decode cX6_lotFor 10 = .ok (.aload_n 0, 1) := by decide +kernel
theorem dX6_lotFor_11 : decode cX6_lotFor 11 = .ok (.iload_n 1, 1) := by decide +kernel
theorem dX6_lotFor_12 : decode cX6_lotFor 12 = .ok (.invokevirtual 134, 3) := by decide +kernel
theorem dX6_lotFor_15 : decode cX6_lotFor 15 = .ok (.pop, 1) := by decide +kernel
theorem dX6_lotFor_16 : decode cX6_lotFor 16 = .ok (.aload_n 0, 1) := by decide +kernel
theorem dX6_lotFor_17 : decode cX6_lotFor 17 = .ok (.iload_n 1, 1) := by decide +kernel
theorem dX6_lotFor_18 : decode cX6_lotFor 18 = .ok (.invokevirtual 231, 3) := by decide +kernel
theorem dX6_lotFor_21 : decode cX6_lotFor 21 = .ok (.ifCond .ne 13, 3) := by decide +kernel
theorem dX6_lotFor_24 : decode cX6_lotFor 24 = .ok (.new 220, 3) := by decide +kernel
theorem dX6_lotFor_27 : decode cX6_lotFor 27 = .ok (.dup, 1) := by decide +kernel
theorem dX6_lotFor_28 : decode cX6_lotFor 28 = .ok (.ldc 234, 2) := by decide +kernel
theorem dX6_lotFor_30 : decode cX6_lotFor 30 = .ok (.invokespecial 224, 3) := by decide +kernel
theorem dX6_lotFor_33 : decode cX6_lotFor 33 = .ok (.athrow, 1) := by decide +kernel
theorem dX6_lotFor_34 : decode cX6_lotFor 34 = .ok (.aload_n 0, 1) := by decide +kernel
theorem dX6_lotFor_35 : decode cX6_lotFor 35 = .ok (.getfield 32, 3) := by decide +kernel
theorem dX6_lotFor_38 : decode cX6_lotFor 38 = .ok (.getfield 151, 3) := by decide +kernel
theorem dX6_lotFor_41 : decode cX6_lotFor 41 = .ok (.istore_n 3, 1) := by decide +kernel
theorem dX6_lotFor_42 : decode cX6_lotFor 42 = .ok (.aload_n 0, 1) := by decide +kernel
theorem dX6_lotFor_43 : decode cX6_lotFor 43 = .ok (.getfield 25, 3) := by decide +kernel
theorem dX6_lotFor_46 : decode cX6_lotFor 46 = .ok (.iload_n 3, 1) := by decide +kernel
theorem dX6_lotFor_47 : decode cX6_lotFor 47 = .ok (.invokevirtual 236, 3) := by decide +kernel
theorem dX6_lotFor_50 : decode cX6_lotFor 50 = .ok (.aload_n 0, 1) := by decide +kernel
theorem dX6_lotFor_51 : decode cX6_lotFor 51 = .ok (.getfield 25, 3) := by decide +kernel
theorem dX6_lotFor_54 : decode cX6_lotFor 54 = .ok (.iload_n 3, 1) := by decide +kernel
theorem dX6_lotFor_55 : decode cX6_lotFor 55 = .ok (.aload_n 0, 1) := by decide +kernel
theorem dX6_lotFor_56 : decode cX6_lotFor 56 = .ok (.getfield 25, 3) := by decide +kernel
theorem dX6_lotFor_59 : decode cX6_lotFor 59 = .ok (.iload_n 1, 1) := by decide +kernel
theorem dX6_lotFor_60 : decode cX6_lotFor 60 = .ok (.invokevirtual 239, 3) := by decide +kernel
theorem dX6_lotFor_63 : decode cX6_lotFor 63 = .ok (.iload_n 2, 1) := by decide +kernel
theorem dX6_lotFor_64 : decode cX6_lotFor 64 = .ok (.invokevirtual 242, 3) := by decide +kernel
theorem dX6_lotFor_67 : decode cX6_lotFor 67 = .ok (.ireturn, 1) := by decide +kernel
theorem dX6_payment_0 : decode cX6_payment 0 = .ok (.aload_n 0, 1) := by decide +kernel
theorem dX6_payment_1 : decode cX6_payment 1 = .ok (.iload_n 1, 1) := by decide +kernel
theorem dX6_payment_2 : decode cX6_payment 2 = .ok (.invokevirtual 134, 3) := by decide +kernel
theorem dX6_payment_5 : decode cX6_payment 5 = .ok (.astore_n 2, 1) := by decide +kernel
theorem dX6_payment_6 : decode cX6_payment 6 = .ok (.aload_n 0, 1) := by decide +kernel
theorem dX6_payment_7 : decode cX6_payment 7 = .ok (.iload_n 1, 1) := by decide +kernel
theorem dX6_payment_8 : decode cX6_payment 8 = .ok (.invokevirtual 231, 3) := by decide +kernel
theorem dX6_payment_11 : decode cX6_payment 11 = .ok (.ifCond .ne 13, 3) := by decide +kernel
theorem dX6_payment_14 : decode cX6_payment 14 = .ok (.new 220, 3) := by decide +kernel
theorem dX6_payment_17 : decode cX6_payment 17 = .ok (.dup, 1) := by decide +kernel
theorem dX6_payment_18 : decode cX6_payment 18 = .ok (.ldc 234, 2) := by decide +kernel
theorem dX6_payment_20 : decode cX6_payment 20 = .ok (.invokespecial 224, 3) := by decide +kernel
theorem dX6_payment_23 : decode cX6_payment 23 = .ok (.athrow, 1) := by decide +kernel
theorem dX6_payment_24 : decode cX6_payment 24 = .ok (.aload_n 0, 1) := by decide +kernel
theorem dX6_payment_25 : decode cX6_payment 25 = .ok (.getfield 32, 3) := by decide +kernel
theorem dX6_payment_28 : decode cX6_payment 28 = .ok (.getfield 154, 3) := by decide +kernel
theorem dX6_payment_31 : decode cX6_payment 31 = .ok (.istore_n 3, 1) := by decide +kernel
theorem dX6_payment_32 : decode cX6_payment 32 = .ok (.aload_n 0, 1) := by decide +kernel
theorem dX6_payment_33 : decode cX6_payment 33 = .ok (.getfield 32, 3) := by decide +kernel
theorem dX6_payment_36 : decode cX6_payment 36 = .ok (.aload_n 0, 1) := by decide +kernel
theorem dX6_payment_37 : decode cX6_payment 37 = .ok (.getfield 25, 3) := by decide +kernel
theorem dX6_payment_40 : decode cX6_payment 40 = .ok (.aload_n 2, 1) := by decide +kernel
theorem dX6_payment_41 : decode cX6_payment 41 = .ok (.getfield 246, 3) := by decide +kernel
theorem dX6_payment_44 : decode cX6_payment 44 = .ok (.invokevirtual 147, 3) := by decide +kernel
theorem dX6_payment_47 : decode cX6_payment 47 = .ok (.aload_n 2, 1) := by decide +kernel
theorem dX6_payment_48 : decode cX6_payment 48 = .ok (.getfield 137, 3) := by decide +kernel
theorem dX6_payment_51 : decode cX6_payment 51 = .ok (.iload_n 3, 1) := by decide +kernel
theorem dX6_payment_52 : decode cX6_payment 52 = .ok (.isub, 1) := by decide +kernel
theorem dX6_payment_53 : decode cX6_payment 53 = .ok (.aload_n 0, 1) := by decide +kernel
theorem dX6_payment_54 : decode cX6_payment 54 = .ok (.getfield 32, 3) := by decide +kernel
theorem dX6_payment_57 : decode cX6_payment 57 = .ok (.getfield 154, 3) := by decide +kernel
theorem dX6_payment_60 : decode cX6_payment 60 = .ok (.iadd, 1) := by decide +kernel
theorem dX6_payment_61 : decode cX6_payment 61 = .ok (.ireturn, 1) := by decide +kernel
theorem dX6_takings_0 : decode cX6_takings 0 = .ok (.aload_n 0, 1) := by decide +kernel
theorem dX6_takings_1 : decode cX6_takings 1 = .ok (.getfield 249, 3) := by decide +kernel
theorem dX6_takings_4 : decode cX6_takings 4 = .ok (.lreturn, 1) := by decide +kernel
theorem dX6_soldShare_0 : decode cX6_soldShare 0 = .ok (.aload_n 0, 1) := by decide +kernel
theorem dX6_soldShare_1 : decode cX6_soldShare 1 = .ok (.getfield 12, 3) := by decide +kernel
theorem dX6_soldShare_4 : decode cX6_soldShare 4 = .ok (.invokevirtual 92, 3) := by decide +kernel
theorem dX6_soldShare_7 : decode cX6_soldShare 7 = .ok (.ifCond .eq 13, 3) := by decide +kernel
theorem dX6_soldShare_10 : decode cX6_soldShare 10 = .ok (.new 253, 3) := by decide +kernel
theorem dX6_soldShare_13 : decode cX6_soldShare 13 = .ok (.dup, 1) := by decide +kernel
theorem dX6_soldShare_14 : decode cX6_soldShare 14 = .ok (.ldc 255, 2) := by decide +kernel
theorem dX6_soldShare_16 : decode cX6_soldShare 16 = .ok (.invokespecial 257, 3) := by decide +kernel
theorem dX6_soldShare_19 : decode cX6_soldShare 19 = .ok (.athrow, 1) := by decide +kernel
theorem dX6_soldShare_20 : decode cX6_soldShare 20 = .ok (.aload_n 0, 1) := by decide +kernel
theorem dX6_soldShare_21 : decode cX6_soldShare 21 = .ok (.getfield 168, 3) := by decide +kernel
theorem dX6_soldShare_24 : decode cX6_soldShare 24 = .ok (.i2f, 1) := by decide +kernel
theorem dX6_soldShare_25 : decode cX6_soldShare 25 = .ok (.aload_n 0, 1) := by decide +kernel
theorem dX6_soldShare_26 : decode cX6_soldShare 26 = .ok (.getfield 12, 3) := by decide +kernel
theorem dX6_soldShare_29 : decode cX6_soldShare 29 = .ok (.invokevirtual 55, 3) := by decide +kernel
theorem dX6_soldShare_32 : decode cX6_soldShare 32 = .ok (.i2f, 1) := by decide +kernel
theorem dX6_soldShare_33 : decode cX6_soldShare 33 = .ok (.fdiv, 1) := by decide +kernel
theorem dX6_soldShare_34 : decode cX6_soldShare 34 = .ok (.freturn, 1) := by decide +kernel
theorem dX6_meanPaid_0 : decode cX6_meanPaid 0 = .ok (.aload_n 0, 1) := by decide +kernel
theorem dX6_meanPaid_1 : decode cX6_meanPaid 1 = .ok (.getfield 258, 3) := by decide +kernel
theorem dX6_meanPaid_4 : decode cX6_meanPaid 4 = .ok (.ifCond .gt 14, 3) := by decide +kernel
theorem dX6_meanPaid_7 : decode cX6_meanPaid 7 = .ok (.new 253, 3) := by decide +kernel
theorem dX6_meanPaid_10 : decode cX6_meanPaid 10 = .ok (.dup, 1) := by decide +kernel
theorem dX6_meanPaid_11 : decode cX6_meanPaid 11 = .ok (.ldc_w 261, 3) := by decide +kernel
theorem dX6_meanPaid_14 : decode cX6_meanPaid 14 = .ok (.invokespecial 257, 3) := by decide +kernel
theorem dX6_meanPaid_17 : decode cX6_meanPaid 17 = .ok (.athrow, 1) := by decide +kernel
theorem dX6_meanPaid_18 : decode cX6_meanPaid 18 = .ok (.aload_n 0, 1) := by decide +kernel
theorem dX6_meanPaid_19 : decode cX6_meanPaid 19 = .ok (.getfield 249, 3) := by decide +kernel
theorem dX6_meanPaid_22 : decode cX6_meanPaid 22 = .ok (.l2d, 1) := by decide +kernel
theorem dX6_meanPaid_23 : decode cX6_meanPaid 23 = .ok (.aload_n 0, 1) := by decide +kernel
theorem dX6_meanPaid_24 : decode cX6_meanPaid 24 = .ok (.getfield 258, 3) := by decide +kernel
theorem dX6_meanPaid_27 : decode cX6_meanPaid 27 = .ok (.i2d, 1) := by decide +kernel
theorem dX6_meanPaid_28 : decode cX6_meanPaid 28 = .ok (.ddiv, 1) := by decide +kernel
theorem dX6_meanPaid_29 : decode cX6_meanPaid 29 = .ok (.dreturn, 1) := by decide +kernel
theorem dX6_isFibre_0 : decode cX6_isFibre 0 = .ok (.iload_n 0, 1) := by decide +kernel
theorem dX6_isFibre_1 : decode cX6_isFibre 1 = .ok (.ifCond .lt 12, 3) := by decide +kernel
theorem dX6_isFibre_4 : decode cX6_isFibre 4 = .ok (.iload_n 0, 1) := by decide +kernel
theorem dX6_isFibre_5 : decode cX6_isFibre 5 = .ok (.iconst 4, 1) := by decide +kernel
theorem dX6_isFibre_6 : decode cX6_isFibre 6 = .ok (.if_icmp .ge 7, 3) := by decide +kernel
theorem dX6_isFibre_9 : decode cX6_isFibre 9 = .ok (.iconst 1, 1) := by decide +kernel
theorem dX6_isFibre_10 : decode cX6_isFibre 10 = .ok (.goto 4, 3) := by decide +kernel
theorem dX6_isFibre_13 : decode cX6_isFibre 13 = .ok (.iconst 0, 1) := by decide +kernel
theorem dX6_isFibre_14 : decode cX6_isFibre 14 = .ok (.ireturn, 1) := by decide +kernel
theorem dX6_isGrade_0 : decode cX6_isGrade 0 = .ok (.iload_n 0, 1) := by decide +kernel
theorem dX6_isGrade_1 : decode cX6_isGrade 1 = .ok (.bipush 97, 2) := by decide +kernel
theorem dX6_isGrade_3 : decode cX6_isGrade 3 = .ok (.if_icmp .lt 13, 3) := by decide +kernel
theorem dX6_isGrade_6 : decode cX6_isGrade 6 = .ok (.iload_n 0, 1) := by decide +kernel
theorem dX6_isGrade_7 : decode cX6_isGrade 7 = .ok (.bipush 101, 2) := by decide +kernel
theorem dX6_isGrade_9 : decode cX6_isGrade 9 = .ok (.if_icmp .gt 7, 3) := by decide +kernel
theorem dX6_isGrade_12 : decode cX6_isGrade 12 = .ok (.iconst 1, 1) := by decide +kernel
theorem dX6_isGrade_13 : decode cX6_isGrade 13 = .ok (.goto 4, 3) := by decide +kernel
theorem dX6_isGrade_16 : decode cX6_isGrade 16 = .ok (.iconst 0, 1) := by decide +kernel
theorem dX6_isGrade_17 : decode cX6_isGrade 17 = .ok (.ireturn, 1) := by decide +kernel
theorem dX6_isBidder_0 : decode cX6_isBidder 0 = .ok (.iload_n 0, 1) := by decide +kernel
theorem dX6_isBidder_1 : decode cX6_isBidder 1 = .ok (.ifCond .lt 13, 3) := by decide +kernel
theorem dX6_isBidder_4 : decode cX6_isBidder 4 = .ok (.iload_n 0, 1) := by decide +kernel
theorem dX6_isBidder_5 : decode cX6_isBidder 5 = .ok (.bipush 8, 2) := by decide +kernel
theorem dX6_isBidder_7 : decode cX6_isBidder 7 = .ok (.if_icmp .ge 7, 3) := by decide +kernel
theorem dX6_isBidder_10 : decode cX6_isBidder 10 = .ok (.iconst 1, 1) := by decide +kernel
theorem dX6_isBidder_11 : decode cX6_isBidder 11 = .ok (.goto 4, 3) := by decide +kernel
theorem dX6_isBidder_14 : decode cX6_isBidder 14 = .ok (.iconst 0, 1) := by decide +kernel
theorem dX6_isBidder_15 : decode cX6_isBidder 15 = .ok (.ireturn, 1) := by decide +kernel
theorem dX6_isLot_0 : decode cX6_isLot 0 = .ok (.iload_n 1, 1) := by decide +kernel
theorem dX6_isLot_1 : decode cX6_isLot 1 = .ok (.ifCond .lt 18, 3) := by decide +kernel
theorem dX6_isLot_4 : decode cX6_isLot 4 = .ok (.iload_n 1, 1) := by decide +kernel
theorem dX6_isLot_5 : decode cX6_isLot 5 = .ok (.aload_n 0, 1) := by decide +kernel
theorem dX6_isLot_6 : decode cX6_isLot 6 = .ok (.getfield 12, 3) := by decide +kernel
theorem dX6_isLot_9 : decode cX6_isLot 9 = .ok (.invokevirtual 55, 3) := by decide +kernel
theorem dX6_isLot_12 : decode cX6_isLot 12 = .ok (.if_icmp .ge 7, 3) := by decide +kernel
theorem dX6_isLot_15 : decode cX6_isLot 15 = .ok (.iconst 1, 1) := by decide +kernel
theorem dX6_isLot_16 : decode cX6_isLot 16 = .ok (.goto 4, 3) := by decide +kernel
theorem dX6_isLot_19 : decode cX6_isLot 19 = .ok (.iconst 0, 1) := by decide +kernel
theorem dX6_isLot_20 : decode cX6_isLot 20 = .ok (.ireturn, 1) := by decide +kernel
theorem dX6_isBid_0 : decode cX6_isBid 0 = .ok (.iload_n 1, 1) := by decide +kernel
theorem dX6_isBid_1 : decode cX6_isBid 1 = .ok (.ifCond .lt 18, 3) := by decide +kernel
theorem dX6_isBid_4 : decode cX6_isBid 4 = .ok (.iload_n 1, 1) := by decide +kernel
theorem dX6_isBid_5 : decode cX6_isBid 5 = .ok (.aload_n 0, 1) := by decide +kernel
theorem dX6_isBid_6 : decode cX6_isBid 6 = .ok (.getfield 16, 3) := by decide +kernel
theorem dX6_isBid_9 : decode cX6_isBid 9 = .ok (.invokevirtual 55, 3) := by decide +kernel
theorem dX6_isBid_12 : decode cX6_isBid 12 = .ok (.if_icmp .ge 7, 3) := by decide +kernel
theorem dX6_isBid_15 : decode cX6_isBid 15 = .ok (.iconst 1, 1) := by decide +kernel
theorem dX6_isBid_16 : decode cX6_isBid 16 = .ok (.goto 4, 3) := by decide +kernel
theorem dX6_isBid_19 : decode cX6_isBid 19 = .ok (.iconst 0, 1) := by decide +kernel
theorem dX6_isBid_20 : decode cX6_isBid 20 = .ok (.ireturn, 1) := by decide +kernel
theorem dX6_knownLot_0 : decode cX6_knownLot 0 = .ok (.aload_n 0, 1) := by decide +kernel
theorem dX6_knownLot_1 : decode cX6_knownLot 1 = .ok (.iload_n 1, 1) := by decide +kernel
theorem dX6_knownLot_2 : decode cX6_knownLot 2 = .ok (.invokevirtual 263, 3) := by decide +kernel
theorem dX6_knownLot_5 : decode cX6_knownLot 5 = .ok (.ifCond .ne 14, 3) := by decide +kernel
theorem dX6_knownLot_8 : decode cX6_knownLot 8 = .ok (.new 266, 3) := by decide +kernel
theorem dX6_knownLot_11 : decode cX6_knownLot 11 = .ok (.dup, 1) := by decide +kernel
theorem dX6_knownLot_12 : decode cX6_knownLot 12 = .ok (.ldc_w 268, 3) := by decide +kernel
theorem dX6_knownLot_15 : decode cX6_knownLot 15 = .ok (.invokespecial 270, 3) := by decide +kernel
theorem dX6_knownLot_18 : decode cX6_knownLot 18 = .ok (.athrow, 1) := by decide +kernel
theorem dX6_knownLot_19 : decode cX6_knownLot 19 = .ok (.aload_n 0, 1) := by decide +kernel
theorem dX6_knownLot_20 : decode cX6_knownLot 20 = .ok (.getfield 12, 3) := by decide +kernel
theorem dX6_knownLot_23 : decode cX6_knownLot 23 = .ok (.iload_n 1, 1) := by decide +kernel
theorem dX6_knownLot_24 : decode cX6_knownLot 24 = .ok (.invokevirtual 185, 3) := by decide +kernel
theorem dX6_knownLot_27 : decode cX6_knownLot 27 = .ok (.checkcast 64, 3) := by decide +kernel
theorem dX6_knownLot_30 : decode cX6_knownLot 30 = .ok (.areturn, 1) := by decide +kernel
theorem dX6_knownBid_0 : decode cX6_knownBid 0 = .ok (.aload_n 0, 1) := by decide +kernel
theorem dX6_knownBid_1 : decode cX6_knownBid 1 = .ok (.iload_n 1, 1) := by decide +kernel
theorem dX6_knownBid_2 : decode cX6_knownBid 2 = .ok (.invokevirtual 271, 3) := by decide +kernel
theorem dX6_knownBid_5 : decode cX6_knownBid 5 = .ok (.ifCond .ne 14, 3) := by decide +kernel
theorem dX6_knownBid_8 : decode cX6_knownBid 8 = .ok (.new 266, 3) := by decide +kernel
theorem dX6_knownBid_11 : decode cX6_knownBid 11 = .ok (.dup, 1) := by decide +kernel
theorem dX6_knownBid_12 : decode cX6_knownBid 12 = .ok (.ldc_w 274, 3) := by decide +kernel
theorem dX6_knownBid_15 : decode cX6_knownBid 15 = .ok (.invokespecial 270, 3) := by decide +kernel
theorem dX6_knownBid_18 : decode cX6_knownBid 18 = .ok (.athrow, 1) := by decide +kernel
theorem dX6_knownBid_19 : decode cX6_knownBid 19 = .ok (.aload_n 0, 1) := by decide +kernel
theorem dX6_knownBid_20 : decode cX6_knownBid 20 = .ok (.getfield 16, 3) := by decide +kernel
theorem dX6_knownBid_23 : decode cX6_knownBid 23 = .ok (.iload_n 1, 1) := by decide +kernel
theorem dX6_knownBid_24 : decode cX6_knownBid 24 = .ok (.invokevirtual 185, 3) := by decide +kernel
theorem dX6_knownBid_27 : decode cX6_knownBid 27 = .ok (.checkcast 112, 3) := by decide +kernel
theorem dX6_knownBid_30 : decode cX6_knownBid 30 = .ok (.areturn, 1) := by decide +kernel
theorem dX6_knownOpenBid_0 : decode cX6_knownOpenBid 0 = .ok (.aload_n 0, 1) := by decide +kernel
theorem dX6_knownOpenBid_1 : decode cX6_knownOpenBid 1 = .ok (.iload_n 1, 1) := by decide +kernel
theorem dX6_knownOpenBid_2 : decode cX6_knownOpenBid 2 = .ok (.invokevirtual 117, 3) := by decide +kernel
theorem dX6_knownOpenBid_5 : decode cX6_knownOpenBid 5 = .ok (.astore_n 2, 1) := by decide +kernel
theorem dX6_knownOpenBid_6 : decode cX6_knownOpenBid 6 = .ok (.aload_n 2, 1) := by decide +kernel
theorem dX6_knownOpenBid_7 : decode cX6_knownOpenBid 7 = .ok (.getfield 123, 3) := by decide +kernel
theorem dX6_knownOpenBid_10 : decode cX6_knownOpenBid 10 = .ok (.bipush 111, 2) := by decide +kernel
theorem dX6_knownOpenBid_12 : decode cX6_knownOpenBid 12 = .ok (.if_icmp .eq 14, 3) := by decide +kernel
theorem dX6_knownOpenBid_15 : decode cX6_knownOpenBid 15 = .ok (.new 59, 3) := by decide +kernel
theorem dX6_knownOpenBid_18 : decode cX6_knownOpenBid 18 = .ok (.dup, 1) := by decide +kernel
theorem dX6_knownOpenBid_19 : decode cX6_knownOpenBid 19 = .ok (.ldc_w 276, 3) := by decide +kernel
theorem dX6_knownOpenBid_22 : decode cX6_knownOpenBid 22 = .ok (.invokespecial 63, 3) := by decide +kernel
theorem dX6_knownOpenBid_25 : decode cX6_knownOpenBid 25 = .ok (.athrow, 1) := by decide +kernel
theorem dX6_knownOpenBid_26 : decode cX6_knownOpenBid 26 = .ok (.aload_n 2, 1) := by decide +kernel
theorem dX6_knownOpenBid_27 : decode cX6_knownOpenBid 27 = .ok (.areturn, 1) := by decide +kernel
theorem dX6_knownItem_0 : decode cX6_knownItem 0 = .ok (.iload_n 1, 1) := by decide +kernel
theorem dX6_knownItem_1 : decode cX6_knownItem 1 = .ok (.ifCond .lt 14, 3) := by decide +kernel
theorem dX6_knownItem_4 : decode cX6_knownItem 4 = .ok (.iload_n 1, 1) := by decide +kernel
theorem dX6_knownItem_5 : decode cX6_knownItem 5 = .ok (.aload_n 0, 1) := by decide +kernel
theorem dX6_knownItem_6 : decode cX6_knownItem 6 = .ok (.getfield 124, 3) := by decide +kernel
theorem dX6_knownItem_9 : decode cX6_knownItem 9 = .ok (.invokevirtual 55, 3) := by decide +kernel
theorem dX6_knownItem_12 : decode cX6_knownItem 12 = .ok (.if_icmp .lt 14, 3) := by decide +kernel
theorem dX6_knownItem_15 : decode cX6_knownItem 15 = .ok (.new 278, 3) := by decide +kernel
theorem dX6_knownItem_18 : decode cX6_knownItem 18 = .ok (.dup, 1) := by decide +kernel
theorem dX6_knownItem_19 : decode cX6_knownItem 19 = .ok (.ldc_w 280, 3) := by decide +kernel
theorem dX6_knownItem_22 : decode cX6_knownItem 22 = .ok (.invokespecial 282, 3) := by decide +kernel
theorem dX6_knownItem_25 : decode cX6_knownItem 25 = .ok (.athrow, 1) := by decide +kernel
theorem dX6_knownItem_26 : decode cX6_knownItem 26 = .ok (.aload_n 0, 1) := by decide +kernel
theorem dX6_knownItem_27 : decode cX6_knownItem 27 = .ok (.getfield 124, 3) := by decide +kernel
theorem dX6_knownItem_30 : decode cX6_knownItem 30 = .ok (.iload_n 1, 1) := by decide +kernel
theorem dX6_knownItem_31 : decode cX6_knownItem 31 = .ok (.invokevirtual 185, 3) := by decide +kernel
theorem dX6_knownItem_34 : decode cX6_knownItem 34 = .ok (.checkcast 129, 3) := by decide +kernel
theorem dX6_knownItem_37 : decode cX6_knownItem 37 = .ok (.areturn, 1) := by decide +kernel
theorem dX6_isFit_0 : decode cX6_isFit 0 = .ok (.aload_n 2, 1) := by decide +kernel
theorem dX6_isFit_1 : decode cX6_isFit 1 = .ok (.getfield 283, 3) := by decide +kernel
theorem dX6_isFit_4 : decode cX6_isFit 4 = .ok (.aload_n 1, 1) := by decide +kernel
theorem dX6_isFit_5 : decode cX6_isFit 5 = .ok (.getfield 174, 3) := by decide +kernel
theorem dX6_isFit_8 : decode cX6_isFit 8 = .ok (.isub, 1) := by decide +kernel
theorem dX6_isFit_9 : decode cX6_isFit 9 = .ok (.istore_n 3, 1) := by decide +kernel
theorem dX6_isFit_10 : decode cX6_isFit 10 = .ok (.aload_n 1, 1) := by decide +kernel
theorem dX6_isFit_11 : decode cX6_isFit 11 = .ok (.getfield 171, 3) := by decide +kernel
theorem dX6_isFit_14 : decode cX6_isFit 14 = .ok (.aload_n 2, 1) := by decide +kernel
theorem dX6_isFit_15 : decode cX6_isFit 15 = .ok (.getfield 284, 3) := by decide +kernel
theorem dX6_isFit_18 : decode cX6_isFit 18 = .ok (.if_icmp .ne 9, 3) := by decide +kernel
theorem dX6_isFit_21 : decode cX6_isFit 21 = .ok (.iload_n 3, 1) := by decide +kernel
theorem dX6_isFit_22 : decode cX6_isFit 22 = .ok (.ifCond .lt 5, 3) := by decide +kernel
theorem dX6_isFit_25 : decode cX6_isFit 25 = .ok (.iconst 1, 1) := by decide +kernel
theorem dX6_isFit_26 : decode cX6_isFit 26 = .ok (.ireturn, 1) := by decide +kernel
theorem dX6_isFit_27 : decode cX6_isFit 27 = .ok (.iconst 0, 1) := by decide +kernel
theorem dX6_isFit_28 : decode cX6_isFit 28 = .ok (.istore 4, 2) := by decide +kernel
theorem dX6_isFit_30 : decode cX6_isFit 30 = .ok (.iload 4, 2) := by decide +kernel
theorem dX6_isFit_32 : decode cX6_isFit 32 = .ok (.aload_n 0, 1) := by decide +kernel
theorem dX6_isFit_33 : decode cX6_isFit 33 = .ok (.getfield 19, 3) := by decide +kernel
theorem dX6_isFit_36 : decode cX6_isFit 36 = .ok (.invokevirtual 55, 3) := by decide +kernel
theorem dX6_isFit_39 : decode cX6_isFit 39 = .ok (.if_icmp .ge 58, 3) := by decide +kernel
theorem dX6_isFit_42 : decode cX6_isFit 42 = .ok (.aload_n 0, 1) := by decide +kernel
theorem dX6_isFit_43 : decode cX6_isFit 43 = .ok (.getfield 19, 3) := by decide +kernel
theorem dX6_isFit_46 : decode cX6_isFit 46 = .ok (.iload 4, 2) := by decide +kernel
theorem dX6_isFit_48 : decode cX6_isFit 48 = .ok (.invokevirtual 185, 3) := by decide +kernel
theorem dX6_isFit_51 : decode cX6_isFit 51 = .ok (.checkcast 87, 3) := by decide +kernel
theorem dX6_isFit_54 : decode cX6_isFit 54 = .ok (.astore 5, 2) := by decide +kernel
theorem dX6_isFit_56 : decode cX6_isFit 56 = .ok (.aload 5, 2) := by decide +kernel
theorem dX6_isFit_58 : decode cX6_isFit 58 = .ok (.getfield 285, 3) := by decide +kernel
theorem dX6_isFit_61 : decode cX6_isFit 61 = .ok (.aload_n 2, 1) := by decide +kernel
theorem dX6_isFit_62 : decode cX6_isFit 62 = .ok (.getfield 284, 3) := by decide +kernel
theorem dX6_isFit_65 : decode cX6_isFit 65 = .ok (.if_icmp .ne 26, 3) := by decide +kernel
theorem dX6_isFit_68 : decode cX6_isFit 68 = .ok (.aload 5, 2) := by decide +kernel
theorem dX6_isFit_70 : decode cX6_isFit 70 = .ok (.getfield 286, 3) := by decide +kernel
theorem dX6_isFit_73 : decode cX6_isFit 73 = .ok (.aload_n 1, 1) := by decide +kernel
theorem dX6_isFit_74 : decode cX6_isFit 74 = .ok (.getfield 171, 3) := by decide +kernel
theorem dX6_isFit_77 : decode cX6_isFit 77 = .ok (.if_icmp .ne 14, 3) := by decide +kernel
theorem dX6_isFit_80 : decode cX6_isFit 80 = .ok (.iload_n 3, 1) := by decide +kernel
theorem dX6_isFit_81 : decode cX6_isFit 81 = .ok (.aload 5, 2) := by decide +kernel
theorem dX6_isFit_83 : decode cX6_isFit 83 = .ok (.getfield 289, 3) := by decide +kernel
theorem dX6_isFit_86 : decode cX6_isFit 86 = .ok (.if_icmp .lt 5, 3) := by decide +kernel
theorem dX6_isFit_89 : decode cX6_isFit 89 = .ok (.iconst 1, 1) := by decide +kernel
theorem dX6_isFit_90 : decode cX6_isFit 90 = .ok (.ireturn, 1) := by decide +kernel
theorem dX6_isFit_91 : decode cX6_isFit 91 = .ok (.iinc 4 1, 3) := by decide +kernel
theorem dX6_isFit_94 : decode cX6_isFit 94 = .ok (.goto (-64), 3) := by decide +kernel
theorem dX6_isFit_97 : decode cX6_isFit 97 = .ok (.iconst 0, 1) := by decide +kernel
theorem dX6_isFit_98 : decode cX6_isFit 98 = .ok (.ireturn, 1) := by decide +kernel
theorem dX6_fillFloor_0 : decode cX6_fillFloor 0 = .ok (.aload_n 0, 1) := by decide +kernel
theorem dX6_fillFloor_1 : decode cX6_fillFloor 1 = .ok (.getfield 25, 3) := by decide +kernel
theorem dX6_fillFloor_4 : decode cX6_fillFloor 4 = .ok (.invokevirtual 292, 3) := by decide +kernel
theorem dX6_fillFloor_7 : decode cX6_fillFloor 7 = .ok (.iconst 0, 1) := by decide +kernel
theorem dX6_fillFloor_8 : decode cX6_fillFloor 8 = .ok (.istore_n 1, 1) := by decide +kernel
theorem dX6_fillFloor_9 : decode cX6_fillFloor 9 = .ok (.iload_n 1, 1) := by decide +kernel
theorem dX6_fillFloor_10 : decode cX6_fillFloor 10 = .ok (.aload_n 0, 1) := by decide +kernel
theorem dX6_fillFloor_11 : decode cX6_fillFloor 11 = .ok (.getfield 12, 3) := by decide +kernel
theorem dX6_fillFloor_14 : decode cX6_fillFloor 14 = .ok (.invokevirtual 55, 3) := by decide +kernel
theorem dX6_fillFloor_17 : decode cX6_fillFloor 17 = .ok (.if_icmp .ge 42, 3) := by decide +kernel
theorem dX6_fillFloor_20 : decode cX6_fillFloor 20 = .ok (.aload_n 0, 1) := by decide +kernel
theorem dX6_fillFloor_21 : decode cX6_fillFloor 21 = .ok (.getfield 12, 3) := by decide +kernel
theorem dX6_fillFloor_24 : decode cX6_fillFloor 24 = .ok (.iload_n 1, 1) := by decide +kernel
theorem dX6_fillFloor_25 : decode cX6_fillFloor 25 = .ok (.invokevirtual 185, 3) := by decide +kernel
theorem dX6_fillFloor_28 : decode cX6_fillFloor 28 = .ok (.checkcast 64, 3) := by decide +kernel
theorem dX6_fillFloor_31 : decode cX6_fillFloor 31 = .ok (.astore_n 2, 1) := by decide +kernel
theorem dX6_fillFloor_32 : decode cX6_fillFloor 32 = .ok (.aload_n 2, 1) := by decide +kernel
theorem dX6_fillFloor_33 : decode cX6_fillFloor 33 = .ok (.getfield 77, 3) := by decide +kernel
theorem dX6_fillFloor_36 : decode cX6_fillFloor 36 = .ok (.bipush 111, 2) := by decide +kernel
theorem dX6_fillFloor_38 : decode cX6_fillFloor 38 = .ok (.if_icmp .ne 15, 3) := by decide +kernel
theorem dX6_fillFloor_41 : decode cX6_fillFloor 41 = .ok (.aload_n 0, 1) := by decide +kernel
theorem dX6_fillFloor_42 : decode cX6_fillFloor 42 = .ok (.getfield 25, 3) := by decide +kernel
theorem dX6_fillFloor_45 : decode cX6_fillFloor 45 = .ok (.iload_n 1, 1) := by decide +kernel
theorem dX6_fillFloor_46 : decode cX6_fillFloor 46 = .ok (.aload_n 2, 1) := by decide +kernel
theorem dX6_fillFloor_47 : decode cX6_fillFloor 47 = .ok (.getfield 177, 3) := by decide +kernel
theorem dX6_fillFloor_50 : decode cX6_fillFloor 50 = .ok (.invokevirtual 295, 3) := by decide +kernel
theorem dX6_fillFloor_53 : decode cX6_fillFloor 53 = .ok (.iinc 1 1, 3) := by decide +kernel
theorem dX6_fillFloor_56 : decode cX6_fillFloor 56 = .ok (.goto (-47), 3) := by decide +kernel
theorem dX6_fillFloor_59 : decode cX6_fillFloor 59 = .ok (.iconst 0, 1) := by decide +kernel
theorem dX6_fillFloor_60 : decode cX6_fillFloor 60 = .ok (.istore_n 1, 1) := by decide +kernel
theorem dX6_fillFloor_61 : decode cX6_fillFloor 61 = .ok (.iload_n 1, 1) := by decide +kernel
theorem dX6_fillFloor_62 : decode cX6_fillFloor 62 = .ok (.aload_n 0, 1) := by decide +kernel
theorem dX6_fillFloor_63 : decode cX6_fillFloor 63 = .ok (.getfield 16, 3) := by decide +kernel
theorem dX6_fillFloor_66 : decode cX6_fillFloor 66 = .ok (.invokevirtual 55, 3) := by decide +kernel
theorem dX6_fillFloor_69 : decode cX6_fillFloor 69 = .ok (.if_icmp .ge 51, 3) := by decide +kernel
theorem dX6_fillFloor_72 : decode cX6_fillFloor 72 = .ok (.aload_n 0, 1) := by decide +kernel
theorem dX6_fillFloor_73 : decode cX6_fillFloor 73 = .ok (.getfield 16, 3) := by decide +kernel
theorem dX6_fillFloor_76 : decode cX6_fillFloor 76 = .ok (.iload_n 1, 1) := by decide +kernel
theorem dX6_fillFloor_77 : decode cX6_fillFloor 77 = .ok (.invokevirtual 185, 3) := by decide +kernel
theorem dX6_fillFloor_80 : decode cX6_fillFloor 80 = .ok (.checkcast 112, 3) := by decide +kernel
theorem dX6_fillFloor_83 : decode cX6_fillFloor 83 = .ok (.astore_n 2, 1) := by decide +kernel
theorem dX6_fillFloor_84 : decode cX6_fillFloor 84 = .ok (.aload_n 2, 1) := by decide +kernel
theorem dX6_fillFloor_85 : decode cX6_fillFloor 85 = .ok (.getfield 123, 3) := by decide +kernel
theorem dX6_fillFloor_88 : decode cX6_fillFloor 88 = .ok (.bipush 111, 2) := by decide +kernel
theorem dX6_fillFloor_90 : decode cX6_fillFloor 90 = .ok (.if_icmp .ne 24, 3) := by decide +kernel
theorem dX6_fillFloor_93 : decode cX6_fillFloor 93 = .ok (.aload_n 0, 1) := by decide +kernel
theorem dX6_fillFloor_94 : decode cX6_fillFloor 94 = .ok (.getfield 25, 3) := by decide +kernel
theorem dX6_fillFloor_97 : decode cX6_fillFloor 97 = .ok (.iload_n 1, 1) := by decide +kernel
theorem dX6_fillFloor_98 : decode cX6_fillFloor 98 = .ok (.aload_n 2, 1) := by decide +kernel
theorem dX6_fillFloor_99 : decode cX6_fillFloor 99 = .ok (.getfield 246, 3) := by decide +kernel
theorem dX6_fillFloor_102 : decode cX6_fillFloor 102 = .ok (.aload_n 2, 1) := by decide +kernel
theorem dX6_fillFloor_103 : decode cX6_fillFloor 103 = .ok (.getfield 137, 3) := by decide +kernel
theorem dX6_fillFloor_106 : decode cX6_fillFloor 106 = .ok (.invokevirtual 298, 3) := by decide +kernel
theorem dX6_fillFloor_109 : decode cX6_fillFloor 109 = .ok (.aload_n 0, 1) := by decide +kernel
theorem dX6_fillFloor_110 : decode cX6_fillFloor 110 = .ok (.aload_n 2, 1) := by decide +kernel
theorem dX6_fillFloor_111 : decode cX6_fillFloor 111 = .ok (.invokevirtual 301, 3) := by decide +kernel
theorem dX6_fillFloor_114 : decode cX6_fillFloor 114 = .ok (.iinc 1 1, 3) := by decide +kernel
theorem dX6_fillFloor_117 : decode cX6_fillFloor 117 = .ok (.goto (-56), 3) := by decide +kernel
theorem dX6_fillFloor_120 : decode cX6_fillFloor 120 = .ok (.return_, 1) := by decide +kernel
theorem dX6_addItemsToFloor_0 : decode cX6_addItemsToFloor 0 = .ok (.iconst 0, 1) := by decide +kernel
theorem dX6_addItemsToFloor_1 : decode cX6_addItemsToFloor 1 = .ok (.istore_n 2, 1) := by decide +kernel
theorem dX6_addItemsToFloor_2 : decode cX6_addItemsToFloor 2 = .ok (.iload_n 2, 1) := by decide +kernel
theorem dX6_addItemsToFloor_3 : decode cX6_addItemsToFloor 3 = .ok (.aload_n 1, 1) := by decide +kernel
theorem dX6_addItemsToFloor_4 : decode cX6_addItemsToFloor 4 = .ok (.getfield 124, 3) := by decide +kernel
theorem dX6_addItemsToFloor_7 : decode cX6_addItemsToFloor 7 = .ok (.invokevirtual 55, 3) := by decide +kernel
theorem dX6_addItemsToFloor_10 : decode cX6_addItemsToFloor 10 = .ok (.if_icmp .ge 31, 3) := by decide +kernel
theorem dX6_addItemsToFloor_13 : decode cX6_addItemsToFloor 13 = .ok (.aload_n 0, 1) := by decide +kernel
theorem dX6_addItemsToFloor_14 : decode cX6_addItemsToFloor 14 = .ok (.getfield 25, 3) := by decide +kernel
theorem dX6_addItemsToFloor_17 : decode cX6_addItemsToFloor 17 = .ok (.aload_n 0, 1) := by decide +kernel
theorem dX6_addItemsToFloor_18 : decode cX6_addItemsToFloor 18 = .ok (.aload_n 1, 1) := by decide +kernel
theorem dX6_addItemsToFloor_19 : decode cX6_addItemsToFloor 19 = .ok (.getfield 124, 3) := by decide +kernel
theorem dX6_addItemsToFloor_22 : decode cX6_addItemsToFloor 22 = .ok (.iload_n 2, 1) := by decide +kernel
theorem dX6_addItemsToFloor_23 : decode cX6_addItemsToFloor 23 = .ok (.invokevirtual 185, 3) := by decide +kernel
theorem dX6_addItemsToFloor_26 : decode cX6_addItemsToFloor 26 = .ok (.checkcast 129, 3) := by decide +kernel
theorem dX6_addItemsToFloor_29 : decode cX6_addItemsToFloor 29 = .ok (.invokevirtual 305, 3) := by decide +kernel
theorem dX6_addItemsToFloor_32 : decode cX6_addItemsToFloor 32 = .ok (.invokevirtual 309, 3) := by decide +kernel
theorem dX6_addItemsToFloor_35 : decode cX6_addItemsToFloor 35 = .ok (.iinc 2 1, 3) := by decide +kernel
theorem dX6_addItemsToFloor_38 : decode cX6_addItemsToFloor 38 = .ok (.goto (-36), 3) := by decide +kernel
theorem dX6_addItemsToFloor_41 : decode cX6_addItemsToFloor 41 = .ok (.return_, 1) := by decide +kernel
theorem dX6_fittingOnFloor_0 : decode cX6_fittingOnFloor 0 = .ok (.iconst 0, 1) := by decide +kernel
theorem dX6_fittingOnFloor_1 : decode cX6_fittingOnFloor 1 = .ok (.istore_n 2, 1) := by decide +kernel
theorem dX6_fittingOnFloor_2 : decode cX6_fittingOnFloor 2 = .ok (.iconst 0, 1) := by decide +kernel
theorem dX6_fittingOnFloor_3 : decode cX6_fittingOnFloor 3 = .ok (.istore_n 3, 1) := by decide +kernel
theorem dX6_fittingOnFloor_4 : decode cX6_fittingOnFloor 4 = .ok (.iload_n 3, 1) := by decide +kernel
theorem dX6_fittingOnFloor_5 : decode cX6_fittingOnFloor 5 = .ok (.aload_n 0, 1) := by decide +kernel
theorem dX6_fittingOnFloor_6 : decode cX6_fittingOnFloor 6 = .ok (.getfield 25, 3) := by decide +kernel
theorem dX6_fittingOnFloor_9 : decode cX6_fittingOnFloor 9 = .ok (.getfield 312, 3) := by decide +kernel
theorem dX6_fittingOnFloor_12 : decode cX6_fittingOnFloor 12 = .ok (.if_icmp .ge 55, 3) := by decide +kernel
theorem dX6_fittingOnFloor_15 : decode cX6_fittingOnFloor 15 = .ok (.aload_n 0, 1) := by decide +kernel
theorem dX6_fittingOnFloor_16 : decode cX6_fittingOnFloor 16 = .ok (.getfield 25, 3) := by decide +kernel
theorem dX6_fittingOnFloor_19 : decode cX6_fittingOnFloor 19 = .ok (.getfield 315, 3) := by decide +kernel
theorem dX6_fittingOnFloor_22 : decode cX6_fittingOnFloor 22 = .ok (.iload_n 3, 1) := by decide +kernel
theorem dX6_fittingOnFloor_23 : decode cX6_fittingOnFloor 23 = .ok (.iaload, 1) := by decide +kernel
theorem dX6_fittingOnFloor_24 : decode cX6_fittingOnFloor 24 = .ok (.istore 4, 2) := by decide +kernel
theorem dX6_fittingOnFloor_26 : decode cX6_fittingOnFloor 26 = .ok (.aload_n 0, 1) := by decide +kernel
theorem dX6_fittingOnFloor_27 : decode cX6_fittingOnFloor 27 = .ok (.iload 4, 2) := by decide +kernel
theorem dX6_fittingOnFloor_29 : decode cX6_fittingOnFloor 29 = .ok (.invokevirtual 263, 3) := by decide +kernel
theorem dX6_fittingOnFloor_32 : decode cX6_fittingOnFloor 32 = .ok (.ifCond .eq 29, 3) := by decide +kernel
theorem dX6_fittingOnFloor_35 : decode cX6_fittingOnFloor 35 = .ok (.aload_n 0, 1) := by decide +kernel
theorem dX6_fittingOnFloor_36 : decode cX6_fittingOnFloor 36 = .ok (.aload_n 0, 1) := by decide +kernel
theorem dX6_fittingOnFloor_37 : decode cX6_fittingOnFloor 37 = .ok (.getfield 12, 3) := by decide +kernel
theorem dX6_fittingOnFloor_40 : decode cX6_fittingOnFloor 40 = .ok (.iload 4, 2) := by decide +kernel
theorem dX6_fittingOnFloor_42 : decode cX6_fittingOnFloor 42 = .ok (.invokevirtual 185, 3) := by decide +kernel
theorem dX6_fittingOnFloor_45 : decode cX6_fittingOnFloor 45 = .ok (.checkcast 64, 3) := by decide +kernel
theorem dX6_fittingOnFloor_48 : decode cX6_fittingOnFloor 48 = .ok (.aload_n 1, 1) := by decide +kernel
theorem dX6_fittingOnFloor_49 : decode cX6_fittingOnFloor 49 = .ok (.invokevirtual 192, 3) := by decide +kernel
theorem dX6_fittingOnFloor_52 : decode cX6_fittingOnFloor 52 = .ok (.ifCond .eq 9, 3) := by decide +kernel
theorem dX6_fittingOnFloor_55 : decode cX6_fittingOnFloor 55 = .ok (.iload_n 2, 1) := by decide +kernel
theorem dX6_fittingOnFloor_56 : decode cX6_fittingOnFloor 56 = .ok (.iconst 1, 1) := by decide +kernel
theorem dX6_fittingOnFloor_57 : decode cX6_fittingOnFloor 57 = .ok (.iload_n 3, 1) := by decide +kernel
theorem dX6_fittingOnFloor_58 : decode cX6_fittingOnFloor 58 = .ok (.ishl, 1) := by decide +kernel
theorem dX6_fittingOnFloor_59 : decode cX6_fittingOnFloor 59 = .ok (.ior, 1) := by decide +kernel
theorem dX6_fittingOnFloor_60 : decode cX6_fittingOnFloor 60 = .ok (.istore_n 2, 1) := by decide +kernel
theorem dX6_fittingOnFloor_61 : decode cX6_fittingOnFloor 61 = .ok (.iinc 3 1, 3) := by decide +kernel
theorem dX6_fittingOnFloor_64 : decode cX6_fittingOnFloor 64 = .ok (.goto (-60), 3) := by decide +kernel
theorem dX6_fittingOnFloor_67 : decode cX6_fittingOnFloor 67 = .ok (.iload_n 2, 1) := by decide +kernel
theorem dX6_fittingOnFloor_68 : decode cX6_fittingOnFloor 68 = .ok (.ireturn, 1) := by decide +kernel
theorem dX6_isInBestSet_0 : decode cX6_isInBestSet 0 = .ok (.aload_n 0, 1) := by decide +kernel
theorem dX6_isInBestSet_1 : decode cX6_isInBestSet 1 = .ok (.invokevirtual 144, 3) := by decide +kernel
theorem dX6_isInBestSet_4 : decode cX6_isInBestSet 4 = .ok (.aload_n 0, 1) := by decide +kernel
theorem dX6_isInBestSet_5 : decode cX6_isInBestSet 5 = .ok (.getfield 32, 3) := by decide +kernel
theorem dX6_isInBestSet_8 : decode cX6_isInBestSet 8 = .ok (.aload_n 0, 1) := by decide +kernel
theorem dX6_isInBestSet_9 : decode cX6_isInBestSet 9 = .ok (.getfield 25, 3) := by decide +kernel
theorem dX6_isInBestSet_12 : decode cX6_isInBestSet 12 = .ok (.iconst (-1), 1) := by decide +kernel
theorem dX6_isInBestSet_13 : decode cX6_isInBestSet 13 = .ok (.invokevirtual 147, 3) := by decide +kernel
theorem dX6_isInBestSet_16 : decode cX6_isInBestSet 16 = .ok (.aload_n 0, 1) := by decide +kernel
theorem dX6_isInBestSet_17 : decode cX6_isInBestSet 17 = .ok (.getfield 32, 3) := by decide +kernel
theorem dX6_isInBestSet_20 : decode cX6_isInBestSet 20 = .ok (.getfield 151, 3) := by decide +kernel
theorem dX6_isInBestSet_23 : decode cX6_isInBestSet 23 = .ok (.aload_n 0, 1) := by decide +kernel
theorem dX6_isInBestSet_24 : decode cX6_isInBestSet 24 = .ok (.getfield 25, 3) := by decide +kernel
theorem dX6_isInBestSet_27 : decode cX6_isInBestSet 27 = .ok (.iload_n 1, 1) := by decide +kernel
theorem dX6_isInBestSet_28 : decode cX6_isInBestSet 28 = .ok (.invokevirtual 214, 3) := by decide +kernel
theorem dX6_isInBestSet_31 : decode cX6_isInBestSet 31 = .ok (.iand, 1) := by decide +kernel
theorem dX6_isInBestSet_32 : decode cX6_isInBestSet 32 = .ok (.ifCond .eq 7, 3) := by decide +kernel
theorem dX6_isInBestSet_35 : decode cX6_isInBestSet 35 = .ok (.iconst 1, 1) := by decide +kernel
theorem dX6_isInBestSet_36 : decode cX6_isInBestSet 36 = .ok (.goto 4, 3) := by decide +kernel
theorem dX6_isInBestSet_39 : decode cX6_isInBestSet 39 = .ok (.iconst 0, 1) := by decide +kernel
theorem dX6_isInBestSet_40 : decode cX6_isInBestSet 40 = .ok (.ireturn, 1) := by decide +kernel
theorem dX6_settlePayments_0 : decode cX6_settlePayments 0 = .ok (.iconst 0, 1) := by decide +kernel
theorem dX6_settlePayments_1 : decode cX6_settlePayments 1 = .ok (.istore_n 3, 1) := by decide +kernel
theorem dX6_settlePayments_2 : decode cX6_settlePayments 2 = .ok (.iload_n 3, 1) := by decide +kernel
theorem dX6_settlePayments_3 : decode cX6_settlePayments 3 = .ok (.aload_n 0, 1) := by decide +kernel
theorem dX6_settlePayments_4 : decode cX6_settlePayments 4 = .ok (.getfield 25, 3) := by decide +kernel
theorem dX6_settlePayments_7 : decode cX6_settlePayments 7 = .ok (.getfield 319, 3) := by decide +kernel
theorem dX6_settlePayments_10 : decode cX6_settlePayments 10 = .ok (.if_icmp .ge 119, 3) := by decide +kernel
theorem dX6_settlePayments_13 : decode cX6_settlePayments 13 = .ok (.aload_n 0, 1) := by decide +kernel
theorem dX6_settlePayments_14 : decode cX6_settlePayments 14 = .ok (.getfield 25, 3) := by decide +kernel
theorem dX6_settlePayments_17 : decode cX6_settlePayments 17 = .ok (.getfield 322, 3) := by decide +kernel
theorem dX6_settlePayments_20 : decode cX6_settlePayments 20 = .ok (.iload_n 3, 1) := by decide +kernel
theorem dX6_settlePayments_21 : decode cX6_settlePayments 21 = .ok (.iaload, 1) := by decide +kernel
theorem dX6_settlePayments_22 : decode cX6_settlePayments 22 = .ok (.istore 4, 2) := by decide +kernel
theorem dX6_settlePayments_24 : decode cX6_settlePayments 24 = .ok (.iload_n 1, 1) := by decide +kernel
theorem dX6_settlePayments_25 : decode cX6_settlePayments 25 = .ok (.iconst 1, 1) := by decide +kernel
theorem dX6_settlePayments_26 : decode cX6_settlePayments 26 = .ok (.iload_n 3, 1) := by decide +kernel
theorem dX6_settlePayments_27 : decode cX6_settlePayments 27 = .ok (.ishl, 1) := by decide +kernel
theorem dX6_settlePayments_28 : decode cX6_settlePayments 28 = .ok (.iand, 1) := by decide +kernel
theorem dX6_settlePayments_29 : decode cX6_settlePayments 29 = .ok (.ifCond .eq 94, 3) := by decide +kernel
theorem dX6_settlePayments_32 : decode cX6_settlePayments 32 = .ok (.aload_n 0, 1) := by decide +kernel
theorem dX6_settlePayments_33 : decode cX6_settlePayments 33 = .ok (.iload 4, 2) := by decide +kernel
theorem dX6_settlePayments_35 : decode cX6_settlePayments 35 = .ok (.invokevirtual 271, 3) := by decide +kernel
theorem dX6_settlePayments_38 : decode cX6_settlePayments 38 = .ok (.ifCond .eq 85, 3) := by decide +kernel
theorem dX6_settlePayments_41 : decode cX6_settlePayments 41 = .ok (.aload_n 0, 1) := by decide +kernel
theorem dX6_settlePayments_42 : decode cX6_settlePayments 42 = .ok (.getfield 16, 3) := by decide +kernel
theorem dX6_settlePayments_45 : decode cX6_settlePayments 45 = .ok (.iload 4, 2) := by decide +kernel
theorem dX6_settlePayments_47 : decode cX6_settlePayments 47 = .ok (.invokevirtual 185, 3) := by decide +kernel
theorem dX6_settlePayments_50 : decode cX6_settlePayments 50 = .ok (.checkcast 112, 3) := by decide +kernel
theorem dX6_settlePayments_53 : decode cX6_settlePayments 53 = .ok (.astore 5, 2) := by decide +kernel
theorem dX6_settlePayments_55 : decode cX6_settlePayments 55 = .ok (.aload_n 0, 1) := by decide +kernel
theorem dX6_settlePayments_56 : decode cX6_settlePayments 56 = .ok (.getfield 32, 3) := by decide +kernel
theorem dX6_settlePayments_59 : decode cX6_settlePayments 59 = .ok (.aload_n 0, 1) := by decide +kernel
theorem dX6_settlePayments_60 : decode cX6_settlePayments 60 = .ok (.getfield 25, 3) := by decide +kernel
theorem dX6_settlePayments_63 : decode cX6_settlePayments 63 = .ok (.aload 5, 2) := by decide +kernel
theorem dX6_settlePayments_65 : decode cX6_settlePayments 65 = .ok (.getfield 246, 3) := by decide +kernel
theorem dX6_settlePayments_68 : decode cX6_settlePayments 68 = .ok (.invokevirtual 147, 3) := by decide +kernel
theorem dX6_settlePayments_71 : decode cX6_settlePayments 71 = .ok (.aload 5, 2) := by decide +kernel
theorem dX6_settlePayments_73 : decode cX6_settlePayments 73 = .ok (.aload 5, 2) := by decide +kernel
theorem dX6_settlePayments_75 : decode cX6_settlePayments 75 = .ok (.getfield 137, 3) := by decide +kernel
theorem dX6_settlePayments_78 : decode cX6_settlePayments 78 = .ok (.iload_n 2, 1) := by decide +kernel
theorem dX6_settlePayments_79 : decode cX6_settlePayments 79 = .ok (.isub, 1) := by decide +kernel
theorem dX6_settlePayments_80 : decode cX6_settlePayments 80 = .ok (.aload_n 0, 1) := by decide +kernel
theorem dX6_settlePayments_81 : decode cX6_settlePayments 81 = .ok (.getfield 32, 3) := by decide +kernel
theorem dX6_settlePayments_84 : decode cX6_settlePayments 84 = .ok (.getfield 154, 3) := by decide +kernel
theorem dX6_settlePayments_87 : decode cX6_settlePayments 87 = .ok (.iadd, 1) := by decide +kernel
theorem dX6_settlePayments_88 : decode cX6_settlePayments 88 = .ok (.putfield 211, 3) := by decide +kernel
theorem dX6_settlePayments_91 : decode cX6_settlePayments 91 = .ok (.aload 5, 2) := by decide +kernel
theorem dX6_settlePayments_93 : decode cX6_settlePayments 93 = .ok (.bipush 119, 2) := by decide +kernel
theorem dX6_settlePayments_95 : decode cX6_settlePayments 95 = .ok (.putfield 123, 3) := by decide +kernel
theorem dX6_settlePayments_98 : decode cX6_settlePayments 98 = .ok (.aload_n 0, 1) := by decide +kernel
theorem dX6_settlePayments_99 : decode cX6_settlePayments 99 = .ok (.dup, 1) := by decide +kernel
theorem dX6_settlePayments_100 : decode cX6_settlePayments 100 = .ok (.getfield 249, 3) := by decide +kernel
theorem dX6_settlePayments_103 : decode cX6_settlePayments 103 = .ok (.aload 5, 2) := by decide +kernel
theorem dX6_settlePayments_105 : decode cX6_settlePayments 105 = .ok (.getfield 211, 3) := by decide +kernel
theorem dX6_settlePayments_108 : decode cX6_settlePayments 108 = .ok (.i2l, 1) := by decide +kernel
theorem dX6_settlePayments_109 : decode cX6_settlePayments 109 = .ok (.ladd, 1) := by decide +kernel
theorem dX6_settlePayments_110 : decode cX6_settlePayments 110 = .ok (.putfield 249, 3) := by decide +kernel
theorem dX6_settlePayments_113 : decode cX6_settlePayments 113 = .ok (.aload_n 0, 1) := by decide +kernel
theorem dX6_settlePayments_114 : decode cX6_settlePayments 114 = .ok (.dup, 1) := by decide +kernel
theorem dX6_settlePayments_115 : decode cX6_settlePayments 115 = .ok (.getfield 258, 3) := by decide +kernel
theorem dX6_settlePayments_118 : decode cX6_settlePayments 118 = .ok (.iconst 1, 1) := by decide +kernel
theorem dX6_settlePayments_119 : decode cX6_settlePayments 119 = .ok (.iadd, 1) := by decide +kernel
theorem dX6_settlePayments_120 : decode cX6_settlePayments 120 = .ok (.putfield 258, 3) := by decide +kernel
theorem dX6_settlePayments_123 : decode cX6_settlePayments 123 = .ok (.iinc 3 1, 3) := by decide +kernel
theorem dX6_settlePayments_126 : decode cX6_settlePayments 126 = .ok (.goto (-124), 3) := by decide +kernel
theorem dX6_settlePayments_129 : decode cX6_settlePayments 129 = .ok (.return_, 1) := by decide +kernel
theorem dX6_handOutLots_0 : decode cX6_handOutLots 0 = .ok (.aload_n 0, 1) := by decide +kernel
theorem dX6_handOutLots_1 : decode cX6_handOutLots 1 = .ok (.getfield 25, 3) := by decide +kernel
theorem dX6_handOutLots_4 : decode cX6_handOutLots 4 = .ok (.iload_n 1, 1) := by decide +kernel
theorem dX6_handOutLots_5 : decode cX6_handOutLots 5 = .ok (.invokevirtual 236, 3) := by decide +kernel
theorem dX6_handOutLots_8 : decode cX6_handOutLots 8 = .ok (.iconst 0, 1) := by decide +kernel
theorem dX6_handOutLots_9 : decode cX6_handOutLots 9 = .ok (.istore_n 2, 1) := by decide +kernel
theorem dX6_handOutLots_10 : decode cX6_handOutLots 10 = .ok (.iconst 0, 1) := by decide +kernel
theorem dX6_handOutLots_11 : decode cX6_handOutLots 11 = .ok (.istore_n 3, 1) := by decide +kernel
theorem dX6_handOutLots_12 : decode cX6_handOutLots 12 = .ok (.iload_n 3, 1) := by decide +kernel
theorem dX6_handOutLots_13 : decode cX6_handOutLots 13 = .ok (.aload_n 0, 1) := by decide +kernel
theorem dX6_handOutLots_14 : decode cX6_handOutLots 14 = .ok (.getfield 25, 3) := by decide +kernel
theorem dX6_handOutLots_17 : decode cX6_handOutLots 17 = .ok (.getfield 319, 3) := by decide +kernel
theorem dX6_handOutLots_20 : decode cX6_handOutLots 20 = .ok (.if_icmp .ge 26, 3) := by decide +kernel
theorem dX6_handOutLots_23 : decode cX6_handOutLots 23 = .ok (.iload_n 1, 1) := by decide +kernel
theorem dX6_handOutLots_24 : decode cX6_handOutLots 24 = .ok (.iconst 1, 1) := by decide +kernel
theorem dX6_handOutLots_25 : decode cX6_handOutLots 25 = .ok (.iload_n 3, 1) := by decide +kernel
theorem dX6_handOutLots_26 : decode cX6_handOutLots 26 = .ok (.ishl, 1) := by decide +kernel
theorem dX6_handOutLots_27 : decode cX6_handOutLots 27 = .ok (.iand, 1) := by decide +kernel
theorem dX6_handOutLots_28 : decode cX6_handOutLots 28 = .ok (.ifCond .eq 12, 3) := by decide +kernel
theorem dX6_handOutLots_31 : decode cX6_handOutLots 31 = .ok (.iload_n 2, 1) := by decide +kernel
theorem dX6_handOutLots_32 : decode cX6_handOutLots 32 = .ok (.aload_n 0, 1) := by decide +kernel
