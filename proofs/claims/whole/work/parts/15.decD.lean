theorem dX11_rest_77 : decode cX11_rest 77 = .ok (.istore_n 1, 1) := by decide +kernel
theorem dX11_rest_78 : decode cX11_rest 78 = .ok (.iinc 2 1, 3) := by decide +kernel
theorem dX11_rest_81 : decode cX11_rest 81 = .ok (.goto (-31), 3) := by decide +kernel
theorem dX11_rest_84 : decode cX11_rest 84 = .ok (.iload_n 1, 1) := by decide +kernel
theorem dX11_rest_85 : decode cX11_rest 85 = .ok (.ireturn, 1) := by decide +kernel
theorem dX11_bought_0 : decode cX11_bought 0 = .ok (.aload_n 0, 1) := by decide +kernel
theorem dX11_bought_1 : decode cX11_bought 1 = .ok (.getfield 20, 3) := by decide +kernel
theorem dX11_bought_4 : decode cX11_bought 4 = .ok (.iconst 0, 1) := by decide +kernel
theorem dX11_bought_5 : decode cX11_bought 5 = .ok (.iaload, 1) := by decide +kernel
theorem dX11_bought_6 : decode cX11_bought 6 = .ok (.iload_n 3, 1) := by decide +kernel
theorem dX11_bought_7 : decode cX11_bought 7 = .ok (.isub, 1) := by decide +kernel
theorem dX11_bought_8 : decode cX11_bought 8 = .ok (.istore 5, 2) := by decide +kernel
theorem dX11_bought_10 : decode cX11_bought 10 = .ok (.iload_n 1, 1) := by decide +kernel
theorem dX11_bought_11 : decode cX11_bought 11 = .ok (.ifCond .ne 6, 3) := by decide +kernel
theorem dX11_bought_14 : decode cX11_bought 14 = .ok (.iload 5, 2) := by decide +kernel
theorem dX11_bought_16 : decode cX11_bought 16 = .ok (.ireturn, 1) := by decide +kernel
theorem dX11_bought_17 : decode cX11_bought 17 = .ok (.iload_n 1, 1) := by decide +kernel
theorem dX11_bought_18 : decode cX11_bought 18 = .ok (.iconst 2, 1) := by decide +kernel
theorem dX11_bought_19 : decode cX11_bought 19 = .ok (.if_icmp .le 22, 3) := by decide +kernel
theorem dX11_bought_22 : decode cX11_bought 22 = .ok (.iconst 2, 1) := by decide +kernel
theorem dX11_bought_23 : decode cX11_bought 23 = .ok (.iload_n 3, 1) := by decide +kernel
theorem dX11_bought_24 : decode cX11_bought 24 = .ok (.imul, 1) := by decide +kernel
theorem dX11_bought_25 : decode cX11_bought 25 = .ok (.aload_n 0, 1) := by decide +kernel
theorem dX11_bought_26 : decode cX11_bought 26 = .ok (.getfield 20, 3) := by decide +kernel
theorem dX11_bought_29 : decode cX11_bought 29 = .ok (.iconst 0, 1) := by decide +kernel
theorem dX11_bought_30 : decode cX11_bought 30 = .ok (.iaload, 1) := by decide +kernel
theorem dX11_bought_31 : decode cX11_bought 31 = .ok (.if_icmp .ge 8, 3) := by decide +kernel
theorem dX11_bought_34 : decode cX11_bought 34 = .ok (.iload 5, 2) := by decide +kernel
theorem dX11_bought_36 : decode cX11_bought 36 = .ok (.goto 4, 3) := by decide +kernel
theorem dX11_bought_39 : decode cX11_bought 39 = .ok (.iconst 0, 1) := by decide +kernel
theorem dX11_bought_40 : decode cX11_bought 40 = .ok (.ireturn, 1) := by decide +kernel
theorem dX11_bought_41 : decode cX11_bought 41 = .ok (.iload_n 2, 1) := by decide +kernel
theorem dX11_bought_42 : decode cX11_bought 42 = .ok (.iconst 1, 1) := by decide +kernel
theorem dX11_bought_43 : decode cX11_bought 43 = .ok (.iadd, 1) := by decide +kernel
theorem dX11_bought_44 : decode cX11_bought 44 = .ok (.istore 6, 2) := by decide +kernel
theorem dX11_bought_46 : decode cX11_bought 46 = .ok (.iload 6, 2) := by decide +kernel
theorem dX11_bought_48 : decode cX11_bought 48 = .ok (.aload_n 0, 1) := by decide +kernel
theorem dX11_bought_49 : decode cX11_bought 49 = .ok (.invokevirtual 254, 3) := by decide +kernel
theorem dX11_bought_52 : decode cX11_bought 52 = .ok (.if_icmp .ge 34, 3) := by decide +kernel
theorem dX11_bought_55 : decode cX11_bought 55 = .ok (.aload_n 0, 1) := by decide +kernel
theorem dX11_bought_56 : decode cX11_bought 56 = .ok (.iload 6, 2) := by decide +kernel
theorem dX11_bought_58 : decode cX11_bought 58 = .ok (.invokevirtual 281, 3) := by decide +kernel
theorem dX11_bought_61 : decode cX11_bought 61 = .ok (.ifCond .eq 19, 3) := by decide +kernel
theorem dX11_bought_64 : decode cX11_bought 64 = .ok (.iload_n 1, 1) := by decide +kernel
theorem dX11_bought_65 : decode cX11_bought 65 = .ok (.iconst 1, 1) := by decide +kernel
theorem dX11_bought_66 : decode cX11_bought 66 = .ok (.if_icmp .ne 20, 3) := by decide +kernel
theorem dX11_bought_69 : decode cX11_bought 69 = .ok (.aload_n 0, 1) := by decide +kernel
theorem dX11_bought_70 : decode cX11_bought 70 = .ok (.iload 6, 2) := by decide +kernel
theorem dX11_bought_72 : decode cX11_bought 72 = .ok (.invokevirtual 281, 3) := by decide +kernel
theorem dX11_bought_75 : decode cX11_bought 75 = .ok (.iload 4, 2) := by decide +kernel
theorem dX11_bought_77 : decode cX11_bought 77 = .ok (.if_icmp .lt 9, 3) := by decide +kernel
theorem dX11_bought_80 : decode cX11_bought 80 = .ok (.iinc 6 1, 3) := by decide +kernel
theorem dX11_bought_83 : decode cX11_bought 83 = .ok (.goto (-37), 3) := by decide +kernel
theorem dX11_bought_86 : decode cX11_bought 86 = .ok (.aload_n 0, 1) := by decide +kernel
theorem dX11_bought_87 : decode cX11_bought 87 = .ok (.iload_n 2, 1) := by decide +kernel
theorem dX11_bought_88 : decode cX11_bought 88 = .ok (.iload 6, 2) := by decide +kernel
theorem dX11_bought_90 : decode cX11_bought 90 = .ok (.invokevirtual 272, 3) := by decide +kernel
theorem dX11_bought_93 : decode cX11_bought 93 = .ok (.istore 7, 2) := by decide +kernel
theorem dX11_bought_95 : decode cX11_bought 95 = .ok (.iload 7, 2) := by decide +kernel
theorem dX11_bought_97 : decode cX11_bought 97 = .ok (.iload_n 3, 1) := by decide +kernel
theorem dX11_bought_98 : decode cX11_bought 98 = .ok (.if_icmp .gt 5, 3) := by decide +kernel
theorem dX11_bought_101 : decode cX11_bought 101 = .ok (.iconst 0, 1) := by decide +kernel
theorem dX11_bought_102 : decode cX11_bought 102 = .ok (.ireturn, 1) := by decide +kernel
theorem dX11_bought_103 : decode cX11_bought 103 = .ok (.iload 7, 2) := by decide +kernel
theorem dX11_bought_105 : decode cX11_bought 105 = .ok (.aload_n 0, 1) := by decide +kernel
theorem dX11_bought_106 : decode cX11_bought 106 = .ok (.getfield 20, 3) := by decide +kernel
theorem dX11_bought_109 : decode cX11_bought 109 = .ok (.iconst 0, 1) := by decide +kernel
theorem dX11_bought_110 : decode cX11_bought 110 = .ok (.iaload, 1) := by decide +kernel
theorem dX11_bought_111 : decode cX11_bought 111 = .ok (.if_icmp .gt 10, 3) := by decide +kernel
theorem dX11_bought_114 : decode cX11_bought 114 = .ok (.iload 7, 2) := by decide +kernel
theorem dX11_bought_116 : decode cX11_bought 116 = .ok (.iload_n 3, 1) := by decide +kernel
theorem dX11_bought_117 : decode cX11_bought 117 = .ok (.isub, 1) := by decide +kernel
theorem dX11_bought_118 : decode cX11_bought 118 = .ok (.goto 5, 3) := by decide +kernel
theorem dX11_bought_121 : decode cX11_bought 121 = .ok (.iload 5, 2) := by decide +kernel
theorem dX11_bought_123 : decode cX11_bought 123 = .ok (.ireturn, 1) := by decide +kernel
theorem dX11_pumpWhy_0 : decode cX11_pumpWhy 0 = .ok (.aload_n 0, 1) := by decide +kernel
theorem dX11_pumpWhy_1 : decode cX11_pumpWhy 1 = .ok (.iload_n 1, 1) := by decide +kernel
theorem dX11_pumpWhy_2 : decode cX11_pumpWhy 2 = .ok (.invokevirtual 275, 3) := by decide +kernel
theorem dX11_pumpWhy_5 : decode cX11_pumpWhy 5 = .ok (.ifCond .ne 5, 3) := by decide +kernel
theorem dX11_pumpWhy_8 : decode cX11_pumpWhy 8 = .ok (.iconst 1, 1) := by decide +kernel
theorem dX11_pumpWhy_9 : decode cX11_pumpWhy 9 = .ok (.ireturn, 1) := by decide +kernel
theorem dX11_pumpWhy_10 : decode cX11_pumpWhy 10 = .ok (.iload_n 2, 1) := by decide +kernel
theorem dX11_pumpWhy_11 : decode cX11_pumpWhy 11 = .ok (.iconst 0, 1) := by decide +kernel
theorem dX11_pumpWhy_12 : decode cX11_pumpWhy 12 = .ok (.aload_n 0, 1) := by decide +kernel
theorem dX11_pumpWhy_13 : decode cX11_pumpWhy 13 = .ok (.getfield 20, 3) := by decide +kernel
theorem dX11_pumpWhy_16 : decode cX11_pumpWhy 16 = .ok (.iconst 0, 1) := by decide +kernel
theorem dX11_pumpWhy_17 : decode cX11_pumpWhy 17 = .ok (.iaload, 1) := by decide +kernel
theorem dX11_pumpWhy_18 : decode cX11_pumpWhy 18 = .ok (.invokestatic 161, 3) := by decide +kernel
theorem dX11_pumpWhy_21 : decode cX11_pumpWhy 21 = .ok (.ifCond .ne 5, 3) := by decide +kernel
theorem dX11_pumpWhy_24 : decode cX11_pumpWhy 24 = .ok (.iconst 2, 1) := by decide +kernel
theorem dX11_pumpWhy_25 : decode cX11_pumpWhy 25 = .ok (.ireturn, 1) := by decide +kernel
theorem dX11_pumpWhy_26 : decode cX11_pumpWhy 26 = .ok (.aload_n 0, 1) := by decide +kernel
theorem dX11_pumpWhy_27 : decode cX11_pumpWhy 27 = .ok (.aload_n 0, 1) := by decide +kernel
theorem dX11_pumpWhy_28 : decode cX11_pumpWhy 28 = .ok (.iload_n 1, 1) := by decide +kernel
theorem dX11_pumpWhy_29 : decode cX11_pumpWhy 29 = .ok (.invokevirtual 257, 3) := by decide +kernel
theorem dX11_pumpWhy_32 : decode cX11_pumpWhy 32 = .ok (.iload_n 3, 1) := by decide +kernel
theorem dX11_pumpWhy_33 : decode cX11_pumpWhy 33 = .ok (.ifCond .eq 7, 3) := by decide +kernel
theorem dX11_pumpWhy_36 : decode cX11_pumpWhy 36 = .ok (.iconst 1, 1) := by decide +kernel
theorem dX11_pumpWhy_37 : decode cX11_pumpWhy 37 = .ok (.goto 4, 3) := by decide +kernel
theorem dX11_pumpWhy_40 : decode cX11_pumpWhy 40 = .ok (.iconst 0, 1) := by decide +kernel
theorem dX11_pumpWhy_41 : decode cX11_pumpWhy 41 = .ok (.invokevirtual 260, 3) := by decide +kernel
theorem dX11_pumpWhy_44 : decode cX11_pumpWhy 44 = .ok (.ifCond .ne 8, 3) := by decide +kernel
theorem dX11_pumpWhy_47 : decode cX11_pumpWhy 47 = .ok (.bipush 6, 2) := by decide +kernel
theorem dX11_pumpWhy_49 : decode cX11_pumpWhy 49 = .ok (.goto 4, 3) := by decide +kernel
theorem dX11_pumpWhy_52 : decode cX11_pumpWhy 52 = .ok (.iconst 0, 1) := by decide +kernel
theorem dX11_pumpWhy_53 : decode cX11_pumpWhy 53 = .ok (.ireturn, 1) := by decide +kernel
theorem dX11_buys_0 : decode cX11_buys 0 = .ok (.aload_n 0, 1) := by decide +kernel
theorem dX11_buys_1 : decode cX11_buys 1 = .ok (.invokevirtual 176, 3) := by decide +kernel
theorem dX11_buys_4 : decode cX11_buys 4 = .ok (.aload_n 0, 1) := by decide +kernel
theorem dX11_buys_5 : decode cX11_buys 5 = .ok (.iload_n 1, 1) := by decide +kernel
theorem dX11_buys_6 : decode cX11_buys 6 = .ok (.invokevirtual 299, 3) := by decide +kernel
theorem dX11_buys_9 : decode cX11_buys 9 = .ok (.ifCond .ne 9, 3) := by decide +kernel
theorem dX11_buys_12 : decode cX11_buys 12 = .ok (.aload_n 0, 1) := by decide +kernel
theorem dX11_buys_13 : decode cX11_buys 13 = .ok (.iconst 1, 1) := by decide +kernel
theorem dX11_buys_14 : decode cX11_buys 14 = .ok (.invokevirtual 179, 3) := by decide +kernel
theorem dX11_buys_17 : decode cX11_buys 17 = .ok (.ireturn, 1) := by decide +kernel
theorem dX11_buys_18 : decode cX11_buys 18 = .ok (.aload_n 0, 1) := by decide +kernel
theorem dX11_buys_19 : decode cX11_buys 19 = .ok (.iload_n 2, 1) := by decide +kernel
theorem dX11_buys_20 : decode cX11_buys 20 = .ok (.iload_n 3, 1) := by decide +kernel
theorem dX11_buys_21 : decode cX11_buys 21 = .ok (.iload 4, 2) := by decide +kernel
theorem dX11_buys_23 : decode cX11_buys 23 = .ok (.invokevirtual 302, 3) := by decide +kernel
theorem dX11_buys_26 : decode cX11_buys 26 = .ok (.istore 5, 2) := by decide +kernel
theorem dX11_buys_28 : decode cX11_buys 28 = .ok (.iload 5, 2) := by decide +kernel
theorem dX11_buys_30 : decode cX11_buys 30 = .ok (.ifCond .eq 12, 3) := by decide +kernel
theorem dX11_buys_33 : decode cX11_buys 33 = .ok (.aload_n 0, 1) := by decide +kernel
theorem dX11_buys_34 : decode cX11_buys 34 = .ok (.iload 5, 2) := by decide +kernel
theorem dX11_buys_36 : decode cX11_buys 36 = .ok (.invokevirtual 179, 3) := by decide +kernel
theorem dX11_buys_39 : decode cX11_buys 39 = .ok (.goto 29, 3) := by decide +kernel
theorem dX11_buys_42 : decode cX11_buys 42 = .ok (.aload_n 0, 1) := by decide +kernel
theorem dX11_buys_43 : decode cX11_buys 43 = .ok (.iload_n 1, 1) := by decide +kernel
theorem dX11_buys_44 : decode cX11_buys 44 = .ok (.iload_n 2, 1) := by decide +kernel
theorem dX11_buys_45 : decode cX11_buys 45 = .ok (.iload_n 3, 1) := by decide +kernel
theorem dX11_buys_46 : decode cX11_buys 46 = .ok (.aload_n 0, 1) := by decide +kernel
theorem dX11_buys_47 : decode cX11_buys 47 = .ok (.aload_n 0, 1) := by decide +kernel
theorem dX11_buys_48 : decode cX11_buys 48 = .ok (.iload_n 2, 1) := by decide +kernel
theorem dX11_buys_49 : decode cX11_buys 49 = .ok (.invokevirtual 257, 3) := by decide +kernel
theorem dX11_buys_52 : decode cX11_buys 52 = .ok (.iload 4, 2) := by decide +kernel
theorem dX11_buys_54 : decode cX11_buys 54 = .ok (.ifCond .eq 7, 3) := by decide +kernel
theorem dX11_buys_57 : decode cX11_buys 57 = .ok (.iconst 1, 1) := by decide +kernel
theorem dX11_buys_58 : decode cX11_buys 58 = .ok (.goto 4, 3) := by decide +kernel
theorem dX11_buys_61 : decode cX11_buys 61 = .ok (.iconst 0, 1) := by decide +kernel
theorem dX11_buys_62 : decode cX11_buys 62 = .ok (.invokevirtual 260, 3) := by decide +kernel
theorem dX11_buys_65 : decode cX11_buys 65 = .ok (.invokevirtual 306, 3) := by decide +kernel
theorem dX11_buys_68 : decode cX11_buys 68 = .ok (.ireturn, 1) := by decide +kernel
theorem dX11_paidBy_0 : decode cX11_paidBy 0 = .ok (.aload_n 0, 1) := by decide +kernel
theorem dX11_paidBy_1 : decode cX11_paidBy 1 = .ok (.getfield 20, 3) := by decide +kernel
theorem dX11_paidBy_4 : decode cX11_paidBy 4 = .ok (.iconst 1, 1) := by decide +kernel
theorem dX11_paidBy_5 : decode cX11_paidBy 5 = .ok (.iaload, 1) := by decide +kernel
theorem dX11_paidBy_6 : decode cX11_paidBy 6 = .ok (.istore_n 2, 1) := by decide +kernel
theorem dX11_paidBy_7 : decode cX11_paidBy 7 = .ok (.iconst 0, 1) := by decide +kernel
theorem dX11_paidBy_8 : decode cX11_paidBy 8 = .ok (.istore_n 3, 1) := by decide +kernel
theorem dX11_paidBy_9 : decode cX11_paidBy 9 = .ok (.aload_n 0, 1) := by decide +kernel
theorem dX11_paidBy_10 : decode cX11_paidBy 10 = .ok (.iconst (-1), 1) := by decide +kernel
theorem dX11_paidBy_11 : decode cX11_paidBy 11 = .ok (.putfield 310, 3) := by decide +kernel
theorem dX11_paidBy_14 : decode cX11_paidBy 14 = .ok (.iconst 0, 1) := by decide +kernel
theorem dX11_paidBy_15 : decode cX11_paidBy 15 = .ok (.istore 4, 2) := by decide +kernel
theorem dX11_paidBy_17 : decode cX11_paidBy 17 = .ok (.iload 4, 2) := by decide +kernel
theorem dX11_paidBy_19 : decode cX11_paidBy 19 = .ok (.aload_n 0, 1) := by decide +kernel
theorem dX11_paidBy_20 : decode cX11_paidBy 20 = .ok (.invokevirtual 254, 3) := by decide +kernel
theorem dX11_paidBy_23 : decode cX11_paidBy 23 = .ok (.if_icmp .ge 94, 3) := by decide +kernel
theorem dX11_paidBy_26 : decode cX11_paidBy 26 = .ok (.aload_n 0, 1) := by decide +kernel
theorem dX11_paidBy_27 : decode cX11_paidBy 27 = .ok (.iload 4, 2) := by decide +kernel
theorem dX11_paidBy_29 : decode cX11_paidBy 29 = .ok (.invokevirtual 281, 3) := by decide +kernel
theorem dX11_paidBy_32 : decode cX11_paidBy 32 = .ok (.ifCond .ne 7, 3) := by decide +kernel
theorem dX11_paidBy_35 : decode cX11_paidBy 35 = .ok (.iconst 0, 1) := by decide +kernel
theorem dX11_paidBy_36 : decode cX11_paidBy 36 = .ok (.goto 17, 3) := by decide +kernel
theorem dX11_paidBy_39 : decode cX11_paidBy 39 = .ok (.aload_n 0, 1) := by decide +kernel
theorem dX11_paidBy_40 : decode cX11_paidBy 40 = .ok (.iload_n 1, 1) := by decide +kernel
theorem dX11_paidBy_41 : decode cX11_paidBy 41 = .ok (.iload 4, 2) := by decide +kernel
theorem dX11_paidBy_43 : decode cX11_paidBy 43 = .ok (.iload_n 2, 1) := by decide +kernel
theorem dX11_paidBy_44 : decode cX11_paidBy 44 = .ok (.aload_n 0, 1) := by decide +kernel
theorem dX11_paidBy_45 : decode cX11_paidBy 45 = .ok (.iload 4, 2) := by decide +kernel
theorem dX11_paidBy_47 : decode cX11_paidBy 47 = .ok (.invokevirtual 281, 3) := by decide +kernel
theorem dX11_paidBy_50 : decode cX11_paidBy 50 = .ok (.invokevirtual 306, 3) := by decide +kernel
theorem dX11_paidBy_53 : decode cX11_paidBy 53 = .ok (.istore 5, 2) := by decide +kernel
theorem dX11_paidBy_55 : decode cX11_paidBy 55 = .ok (.iload_n 3, 1) := by decide +kernel
theorem dX11_paidBy_56 : decode cX11_paidBy 56 = .ok (.iload 5, 2) := by decide +kernel
theorem dX11_paidBy_58 : decode cX11_paidBy 58 = .ok (.ifCond .ne 7, 3) := by decide +kernel
theorem dX11_paidBy_61 : decode cX11_paidBy 61 = .ok (.iconst 0, 1) := by decide +kernel
theorem dX11_paidBy_62 : decode cX11_paidBy 62 = .ok (.goto 19, 3) := by decide +kernel
theorem dX11_paidBy_65 : decode cX11_paidBy 65 = .ok (.iload 5, 2) := by decide +kernel
theorem dX11_paidBy_67 : decode cX11_paidBy 67 = .ok (.aload_n 0, 1) := by decide +kernel
theorem dX11_paidBy_68 : decode cX11_paidBy 68 = .ok (.iload 4, 2) := by decide +kernel
theorem dX11_paidBy_70 : decode cX11_paidBy 70 = .ok (.invokevirtual 281, 3) := by decide +kernel
theorem dX11_paidBy_73 : decode cX11_paidBy 73 = .ok (.imul, 1) := by decide +kernel
theorem dX11_paidBy_74 : decode cX11_paidBy 74 = .ok (.aload_n 0, 1) := by decide +kernel
theorem dX11_paidBy_75 : decode cX11_paidBy 75 = .ok (.getfield 20, 3) := by decide +kernel
theorem dX11_paidBy_78 : decode cX11_paidBy 78 = .ok (.iconst 2, 1) := by decide +kernel
theorem dX11_paidBy_79 : decode cX11_paidBy 79 = .ok (.iaload, 1) := by decide +kernel
theorem dX11_paidBy_80 : decode cX11_paidBy 80 = .ok (.iadd, 1) := by decide +kernel
theorem dX11_paidBy_81 : decode cX11_paidBy 81 = .ok (.iadd, 1) := by decide +kernel
theorem dX11_paidBy_82 : decode cX11_paidBy 82 = .ok (.istore_n 3, 1) := by decide +kernel
theorem dX11_paidBy_83 : decode cX11_paidBy 83 = .ok (.iload_n 2, 1) := by decide +kernel
theorem dX11_paidBy_84 : decode cX11_paidBy 84 = .ok (.iload 5, 2) := by decide +kernel
theorem dX11_paidBy_86 : decode cX11_paidBy 86 = .ok (.aload_n 0, 1) := by decide +kernel
theorem dX11_paidBy_87 : decode cX11_paidBy 87 = .ok (.iload 4, 2) := by decide +kernel
theorem dX11_paidBy_89 : decode cX11_paidBy 89 = .ok (.invokevirtual 266, 3) := by decide +kernel
theorem dX11_paidBy_92 : decode cX11_paidBy 92 = .ok (.isub, 1) := by decide +kernel
theorem dX11_paidBy_93 : decode cX11_paidBy 93 = .ok (.iadd, 1) := by decide +kernel
theorem dX11_paidBy_94 : decode cX11_paidBy 94 = .ok (.istore_n 2, 1) := by decide +kernel
theorem dX11_paidBy_95 : decode cX11_paidBy 95 = .ok (.iload_n 2, 1) := by decide +kernel
theorem dX11_paidBy_96 : decode cX11_paidBy 96 = .ok (.ifCond .lt 6, 3) := by decide +kernel
theorem dX11_paidBy_99 : decode cX11_paidBy 99 = .ok (.goto 12, 3) := by decide +kernel
theorem dX11_paidBy_102 : decode cX11_paidBy 102 = .ok (.aload_n 0, 1) := by decide +kernel
theorem dX11_paidBy_103 : decode cX11_paidBy 103 = .ok (.iload 4, 2) := by decide +kernel
theorem dX11_paidBy_105 : decode cX11_paidBy 105 = .ok (.putfield 310, 3) := by decide +kernel
theorem dX11_paidBy_108 : decode cX11_paidBy 108 = .ok (.bipush (-2), 2) := by decide +kernel
theorem dX11_paidBy_110 : decode cX11_paidBy 110 = .ok (.ireturn, 1) := by decide +kernel
theorem dX11_paidBy_111 : decode cX11_paidBy 111 = .ok (.iinc 4 1, 3) := by decide +kernel
theorem dX11_paidBy_114 : decode cX11_paidBy 114 = .ok (.goto (-97), 3) := by decide +kernel
theorem dX11_paidBy_117 : decode cX11_paidBy 117 = .ok (.iload_n 3, 1) := by decide +kernel
theorem dX11_paidBy_118 : decode cX11_paidBy 118 = .ok (.ireturn, 1) := by decide +kernel
theorem dX11_byRule_0 : decode cX11_byRule 0 = .ok (.aload_n 0, 1) := by decide +kernel
theorem dX11_byRule_1 : decode cX11_byRule 1 = .ok (.invokevirtual 176, 3) := by decide +kernel
theorem dX11_byRule_4 : decode cX11_byRule 4 = .ok (.aload_n 0, 1) := by decide +kernel
theorem dX11_byRule_5 : decode cX11_byRule 5 = .ok (.iload_n 1, 1) := by decide +kernel
theorem dX11_byRule_6 : decode cX11_byRule 6 = .ok (.invokevirtual 299, 3) := by decide +kernel
theorem dX11_byRule_9 : decode cX11_byRule 9 = .ok (.ifCond .eq 11, 3) := by decide +kernel
theorem dX11_byRule_12 : decode cX11_byRule 12 = .ok (.aload_n 0, 1) := by decide +kernel
theorem dX11_byRule_13 : decode cX11_byRule 13 = .ok (.iload_n 1, 1) := by decide +kernel
theorem dX11_byRule_14 : decode cX11_byRule 14 = .ok (.invokevirtual 312, 3) := by decide +kernel
theorem dX11_byRule_17 : decode cX11_byRule 17 = .ok (.goto 8, 3) := by decide +kernel
theorem dX11_byRule_20 : decode cX11_byRule 20 = .ok (.aload_n 0, 1) := by decide +kernel
theorem dX11_byRule_21 : decode cX11_byRule 21 = .ok (.iconst 1, 1) := by decide +kernel
theorem dX11_byRule_22 : decode cX11_byRule 22 = .ok (.invokevirtual 179, 3) := by decide +kernel
theorem dX11_byRule_25 : decode cX11_byRule 25 = .ok (.ireturn, 1) := by decide +kernel
theorem dX11_stuckAt_0 : decode cX11_stuckAt 0 = .ok (.aload_n 0, 1) := by decide +kernel
theorem dX11_stuckAt_1 : decode cX11_stuckAt 1 = .ok (.invokevirtual 176, 3) := by decide +kernel
theorem dX11_stuckAt_4 : decode cX11_stuckAt 4 = .ok (.aload_n 0, 1) := by decide +kernel
theorem dX11_stuckAt_5 : decode cX11_stuckAt 5 = .ok (.iload_n 1, 1) := by decide +kernel
theorem dX11_stuckAt_6 : decode cX11_stuckAt 6 = .ok (.invokevirtual 299, 3) := by decide +kernel
theorem dX11_stuckAt_9 : decode cX11_stuckAt 9 = .ok (.ifCond .ne 9, 3) := by decide +kernel
theorem dX11_stuckAt_12 : decode cX11_stuckAt 12 = .ok (.aload_n 0, 1) := by decide +kernel
theorem dX11_stuckAt_13 : decode cX11_stuckAt 13 = .ok (.iconst 1, 1) := by decide +kernel
theorem dX11_stuckAt_14 : decode cX11_stuckAt 14 = .ok (.invokevirtual 179, 3) := by decide +kernel
theorem dX11_stuckAt_17 : decode cX11_stuckAt 17 = .ok (.ireturn, 1) := by decide +kernel
theorem dX11_stuckAt_18 : decode cX11_stuckAt 18 = .ok (.aload_n 0, 1) := by decide +kernel
theorem dX11_stuckAt_19 : decode cX11_stuckAt 19 = .ok (.iload_n 1, 1) := by decide +kernel
theorem dX11_stuckAt_20 : decode cX11_stuckAt 20 = .ok (.invokevirtual 312, 3) := by decide +kernel
theorem dX11_stuckAt_23 : decode cX11_stuckAt 23 = .ok (.pop, 1) := by decide +kernel
theorem dX11_stuckAt_24 : decode cX11_stuckAt 24 = .ok (.aload_n 0, 1) := by decide +kernel
theorem dX11_stuckAt_25 : decode cX11_stuckAt 25 = .ok (.getfield 310, 3) := by decide +kernel
theorem dX11_stuckAt_28 : decode cX11_stuckAt 28 = .ok (.ifCond .ge 8, 3) := by decide +kernel
theorem dX11_stuckAt_31 : decode cX11_stuckAt 31 = .ok (.bipush (-2), 2) := by decide +kernel
theorem dX11_stuckAt_33 : decode cX11_stuckAt 33 = .ok (.goto 7, 3) := by decide +kernel
theorem dX11_stuckAt_36 : decode cX11_stuckAt 36 = .ok (.aload_n 0, 1) := by decide +kernel
theorem dX11_stuckAt_37 : decode cX11_stuckAt 37 = .ok (.getfield 310, 3) := by decide +kernel
theorem dX11_stuckAt_40 : decode cX11_stuckAt 40 = .ok (.ireturn, 1) := by decide +kernel
theorem dX11_twenties_0 : decode cX11_twenties 0 = .ok (.lconst 1, 1) := by decide +kernel
theorem dX11_twenties_1 : decode cX11_twenties 1 = .ok (.lstore_n 2, 1) := by decide +kernel
theorem dX11_twenties_2 : decode cX11_twenties 2 = .ok (.iload_n 1, 1) := by decide +kernel
theorem dX11_twenties_3 : decode cX11_twenties 3 = .ok (.istore 4, 2) := by decide +kernel
theorem dX11_twenties_5 : decode cX11_twenties 5 = .ok (.iload 4, 2) := by decide +kernel
theorem dX11_twenties_7 : decode cX11_twenties 7 = .ok (.aload_n 0, 1) := by decide +kernel
theorem dX11_twenties_8 : decode cX11_twenties 8 = .ok (.invokevirtual 254, 3) := by decide +kernel
theorem dX11_twenties_11 : decode cX11_twenties 11 = .ok (.if_icmp .ge 15, 3) := by decide +kernel
theorem dX11_twenties_14 : decode cX11_twenties 14 = .ok (.lload_n 2, 1) := by decide +kernel
theorem dX11_twenties_15 : decode cX11_twenties 15 = .ok (.ldc2_w 315, 3) := by decide +kernel
theorem dX11_twenties_18 : decode cX11_twenties 18 = .ok (.lmul, 1) := by decide +kernel
theorem dX11_twenties_19 : decode cX11_twenties 19 = .ok (.lstore_n 2, 1) := by decide +kernel
theorem dX11_twenties_20 : decode cX11_twenties 20 = .ok (.iinc 4 1, 3) := by decide +kernel
theorem dX11_twenties_23 : decode cX11_twenties 23 = .ok (.goto (-18), 3) := by decide +kernel
theorem dX11_twenties_26 : decode cX11_twenties 26 = .ok (.lload_n 2, 1) := by decide +kernel
theorem dX11_twenties_27 : decode cX11_twenties 27 = .ok (.lreturn, 1) := by decide +kernel
theorem dX11_behind_0 : decode cX11_behind 0 = .ok (.iload_n 2, 1) := by decide +kernel
theorem dX11_behind_1 : decode cX11_behind 1 = .ok (.aload_n 0, 1) := by decide +kernel
theorem dX11_behind_2 : decode cX11_behind 2 = .ok (.iload_n 1, 1) := by decide +kernel
theorem dX11_behind_3 : decode cX11_behind 3 = .ok (.invokevirtual 266, 3) := by decide +kernel
theorem dX11_behind_6 : decode cX11_behind 6 = .ok (.if_icmp .lt 25, 3) := by decide +kernel
theorem dX11_behind_9 : decode cX11_behind 9 = .ok (.aload_n 0, 1) := by decide +kernel
theorem dX11_behind_10 : decode cX11_behind 10 = .ok (.getfield 47, 3) := by decide +kernel
theorem dX11_behind_13 : decode cX11_behind 13 = .ok (.bipush 41, 2) := by decide +kernel
theorem dX11_behind_15 : decode cX11_behind 15 = .ok (.iload_n 1, 1) := by decide +kernel
theorem dX11_behind_16 : decode cX11_behind 16 = .ok (.iconst 1, 1) := by decide +kernel
theorem dX11_behind_17 : decode cX11_behind 17 = .ok (.iadd, 1) := by decide +kernel
theorem dX11_behind_18 : decode cX11_behind 18 = .ok (.imul, 1) := by decide +kernel
theorem dX11_behind_19 : decode cX11_behind 19 = .ok (.iload_n 2, 1) := by decide +kernel
theorem dX11_behind_20 : decode cX11_behind 20 = .ok (.iadd, 1) := by decide +kernel
theorem dX11_behind_21 : decode cX11_behind 21 = .ok (.aload_n 0, 1) := by decide +kernel
theorem dX11_behind_22 : decode cX11_behind 22 = .ok (.iload_n 1, 1) := by decide +kernel
theorem dX11_behind_23 : decode cX11_behind 23 = .ok (.invokevirtual 266, 3) := by decide +kernel
theorem dX11_behind_26 : decode cX11_behind 26 = .ok (.isub, 1) := by decide +kernel
theorem dX11_behind_27 : decode cX11_behind 27 = .ok (.laload, 1) := by decide +kernel
theorem dX11_behind_28 : decode cX11_behind 28 = .ok (.goto 26, 3) := by decide +kernel
theorem dX11_behind_31 : decode cX11_behind 31 = .ok (.iload_n 3, 1) := by decide +kernel
theorem dX11_behind_32 : decode cX11_behind 32 = .ok (.ifCond .eq 7, 3) := by decide +kernel
theorem dX11_behind_35 : decode cX11_behind 35 = .ok (.lconst 0, 1) := by decide +kernel
theorem dX11_behind_36 : decode cX11_behind 36 = .ok (.goto 18, 3) := by decide +kernel
theorem dX11_behind_39 : decode cX11_behind 39 = .ok (.aload_n 0, 1) := by decide +kernel
theorem dX11_behind_40 : decode cX11_behind 40 = .ok (.getfield 20, 3) := by decide +kernel
theorem dX11_behind_43 : decode cX11_behind 43 = .ok (.iconst 4, 1) := by decide +kernel
theorem dX11_behind_44 : decode cX11_behind 44 = .ok (.iaload, 1) := by decide +kernel
theorem dX11_behind_45 : decode cX11_behind 45 = .ok (.i2l, 1) := by decide +kernel
theorem dX11_behind_46 : decode cX11_behind 46 = .ok (.aload_n 0, 1) := by decide +kernel
theorem dX11_behind_47 : decode cX11_behind 47 = .ok (.iload_n 1, 1) := by decide +kernel
theorem dX11_behind_48 : decode cX11_behind 48 = .ok (.iconst 1, 1) := by decide +kernel
theorem dX11_behind_49 : decode cX11_behind 49 = .ok (.iadd, 1) := by decide +kernel
theorem dX11_behind_50 : decode cX11_behind 50 = .ok (.invokevirtual 317, 3) := by decide +kernel
theorem dX11_behind_53 : decode cX11_behind 53 = .ok (.lmul, 1) := by decide +kernel
theorem dX11_behind_54 : decode cX11_behind 54 = .ok (.lreturn, 1) := by decide +kernel
theorem dX11_comes1_0 : decode cX11_comes1 0 = .ok (.iload_n 1, 1) := by decide +kernel
theorem dX11_comes1_1 : decode cX11_comes1 1 = .ok (.iconst 5, 1) := by decide +kernel
theorem dX11_comes1_2 : decode cX11_comes1 2 = .ok (.if_icmp .lt 7, 3) := by decide +kernel
theorem dX11_comes1_5 : decode cX11_comes1 5 = .ok (.iconst 1, 1) := by decide +kernel
theorem dX11_comes1_6 : decode cX11_comes1 6 = .ok (.goto 4, 3) := by decide +kernel
theorem dX11_comes1_9 : decode cX11_comes1 9 = .ok (.iconst 0, 1) := by decide +kernel
theorem dX11_comes1_10 : decode cX11_comes1 10 = .ok (.istore 6, 2) := by decide +kernel
theorem dX11_comes1_12 : decode cX11_comes1 12 = .ok (.aload_n 0, 1) := by decide +kernel
theorem dX11_comes1_13 : decode cX11_comes1 13 = .ok (.iload_n 2, 1) := by decide +kernel
theorem dX11_comes1_14 : decode cX11_comes1 14 = .ok (.iload_n 3, 1) := by decide +kernel
theorem dX11_comes1_15 : decode cX11_comes1 15 = .ok (.iload 4, 2) := by decide +kernel
theorem dX11_comes1_17 : decode cX11_comes1 17 = .ok (.iadd, 1) := by decide +kernel
theorem dX11_comes1_18 : decode cX11_comes1 18 = .ok (.iload 6, 2) := by decide +kernel
theorem dX11_comes1_20 : decode cX11_comes1 20 = .ok (.invokevirtual 321, 3) := by decide +kernel
theorem dX11_comes1_23 : decode cX11_comes1 23 = .ok (.iload 6, 2) := by decide +kernel
theorem dX11_comes1_25 : decode cX11_comes1 25 = .ok (.ifCond .ne 8, 3) := by decide +kernel
theorem dX11_comes1_28 : decode cX11_comes1 28 = .ok (.iload 4, 2) := by decide +kernel
theorem dX11_comes1_30 : decode cX11_comes1 30 = .ok (.ifCond .ne 7, 3) := by decide +kernel
theorem dX11_comes1_33 : decode cX11_comes1 33 = .ok (.lconst 0, 1) := by decide +kernel
theorem dX11_comes1_34 : decode cX11_comes1 34 = .ok (.goto 24, 3) := by decide +kernel
theorem dX11_comes1_37 : decode cX11_comes1 37 = .ok (.iload 4, 2) := by decide +kernel
theorem dX11_comes1_39 : decode cX11_comes1 39 = .ok (.iload 5, 2) := by decide +kernel
theorem dX11_comes1_41 : decode cX11_comes1 41 = .ok (.imul, 1) := by decide +kernel
theorem dX11_comes1_42 : decode cX11_comes1 42 = .ok (.aload_n 0, 1) := by decide +kernel
theorem dX11_comes1_43 : decode cX11_comes1 43 = .ok (.getfield 20, 3) := by decide +kernel
theorem dX11_comes1_46 : decode cX11_comes1 46 = .ok (.iconst 2, 1) := by decide +kernel
theorem dX11_comes1_47 : decode cX11_comes1 47 = .ok (.iaload, 1) := by decide +kernel
theorem dX11_comes1_48 : decode cX11_comes1 48 = .ok (.iadd, 1) := by decide +kernel
theorem dX11_comes1_49 : decode cX11_comes1 49 = .ok (.i2l, 1) := by decide +kernel
theorem dX11_comes1_50 : decode cX11_comes1 50 = .ok (.aload_n 0, 1) := by decide +kernel
theorem dX11_comes1_51 : decode cX11_comes1 51 = .ok (.iload_n 2, 1) := by decide +kernel
theorem dX11_comes1_52 : decode cX11_comes1 52 = .ok (.iconst 1, 1) := by decide +kernel
theorem dX11_comes1_53 : decode cX11_comes1 53 = .ok (.iadd, 1) := by decide +kernel
theorem dX11_comes1_54 : decode cX11_comes1 54 = .ok (.invokevirtual 317, 3) := by decide +kernel
theorem dX11_comes1_57 : decode cX11_comes1 57 = .ok (.lmul, 1) := by decide +kernel
theorem dX11_comes1_58 : decode cX11_comes1 58 = .ok (.ladd, 1) := by decide +kernel
theorem dX11_comes1_59 : decode cX11_comes1 59 = .ok (.lreturn, 1) := by decide +kernel
theorem dX11_bestBuy_0 : decode cX11_bestBuy 0 = .ok (.iconst 0, 1) := by decide +kernel
theorem dX11_bestBuy_1 : decode cX11_bestBuy 1 = .ok (.istore 5, 2) := by decide +kernel
theorem dX11_bestBuy_3 : decode cX11_bestBuy 3 = .ok (.iconst 1, 1) := by decide +kernel
theorem dX11_bestBuy_4 : decode cX11_bestBuy 4 = .ok (.istore 6, 2) := by decide +kernel
theorem dX11_bestBuy_6 : decode cX11_bestBuy 6 = .ok (.iload_n 3, 1) := by decide +kernel
theorem dX11_bestBuy_7 : decode cX11_bestBuy 7 = .ok (.iload 6, 2) := by decide +kernel
theorem dX11_bestBuy_9 : decode cX11_bestBuy 9 = .ok (.iadd, 1) := by decide +kernel
theorem dX11_bestBuy_10 : decode cX11_bestBuy 10 = .ok (.aload_n 0, 1) := by decide +kernel
theorem dX11_bestBuy_11 : decode cX11_bestBuy 11 = .ok (.getfield 20, 3) := by decide +kernel
theorem dX11_bestBuy_14 : decode cX11_bestBuy 14 = .ok (.iconst 0, 1) := by decide +kernel
theorem dX11_bestBuy_15 : decode cX11_bestBuy 15 = .ok (.iaload, 1) := by decide +kernel
theorem dX11_bestBuy_16 : decode cX11_bestBuy 16 = .ok (.if_icmp .gt 63, 3) := by decide +kernel
theorem dX11_bestBuy_19 : decode cX11_bestBuy 19 = .ok (.aload_n 0, 1) := by decide +kernel
theorem dX11_bestBuy_20 : decode cX11_bestBuy 20 = .ok (.iload_n 1, 1) := by decide +kernel
theorem dX11_bestBuy_21 : decode cX11_bestBuy 21 = .ok (.iload_n 2, 1) := by decide +kernel
theorem dX11_bestBuy_22 : decode cX11_bestBuy 22 = .ok (.iload_n 3, 1) := by decide +kernel
theorem dX11_bestBuy_23 : decode cX11_bestBuy 23 = .ok (.iload 6, 2) := by decide +kernel
theorem dX11_bestBuy_25 : decode cX11_bestBuy 25 = .ok (.iload 4, 2) := by decide +kernel
theorem dX11_bestBuy_27 : decode cX11_bestBuy 27 = .ok (.invokevirtual 325, 3) := by decide +kernel
theorem dX11_bestBuy_30 : decode cX11_bestBuy 30 = .ok (.lstore 7, 2) := by decide +kernel
theorem dX11_bestBuy_32 : decode cX11_bestBuy 32 = .ok (.aload_n 0, 1) := by decide +kernel
theorem dX11_bestBuy_33 : decode cX11_bestBuy 33 = .ok (.iload_n 1, 1) := by decide +kernel
theorem dX11_bestBuy_34 : decode cX11_bestBuy 34 = .ok (.iload_n 2, 1) := by decide +kernel
theorem dX11_bestBuy_35 : decode cX11_bestBuy 35 = .ok (.iload_n 3, 1) := by decide +kernel
theorem dX11_bestBuy_36 : decode cX11_bestBuy 36 = .ok (.iload 5, 2) := by decide +kernel
theorem dX11_bestBuy_38 : decode cX11_bestBuy 38 = .ok (.iload 4, 2) := by decide +kernel
theorem dX11_bestBuy_40 : decode cX11_bestBuy 40 = .ok (.invokevirtual 325, 3) := by decide +kernel
theorem dX11_bestBuy_43 : decode cX11_bestBuy 43 = .ok (.lstore 9, 2) := by decide +kernel
theorem dX11_bestBuy_45 : decode cX11_bestBuy 45 = .ok (.iload_n 1, 1) := by decide +kernel
theorem dX11_bestBuy_46 : decode cX11_bestBuy 46 = .ok (.iconst 5, 1) := by decide +kernel
theorem dX11_bestBuy_47 : decode cX11_bestBuy 47 = .ok (.if_icmp .ne 14, 3) := by decide +kernel
theorem dX11_bestBuy_50 : decode cX11_bestBuy 50 = .ok (.lload 7, 2) := by decide +kernel
theorem dX11_bestBuy_52 : decode cX11_bestBuy 52 = .ok (.lload 9, 2) := by decide +kernel
theorem dX11_bestBuy_54 : decode cX11_bestBuy 54 = .ok (.lcmp, 1) := by decide +kernel
theorem dX11_bestBuy_55 : decode cX11_bestBuy 55 = .ok (.ifCond .le 18, 3) := by decide +kernel
theorem dX11_bestBuy_58 : decode cX11_bestBuy 58 = .ok (.goto 11, 3) := by decide +kernel
theorem dX11_bestBuy_61 : decode cX11_bestBuy 61 = .ok (.lload 7, 2) := by decide +kernel
theorem dX11_bestBuy_63 : decode cX11_bestBuy 63 = .ok (.lload 9, 2) := by decide +kernel
theorem dX11_bestBuy_65 : decode cX11_bestBuy 65 = .ok (.lcmp, 1) := by decide +kernel
theorem dX11_bestBuy_66 : decode cX11_bestBuy 66 = .ok (.ifCond .ge 7, 3) := by decide +kernel
theorem dX11_bestBuy_69 : decode cX11_bestBuy 69 = .ok (.iload 6, 2) := by decide +kernel
theorem dX11_bestBuy_71 : decode cX11_bestBuy 71 = .ok (.istore 5, 2) := by decide +kernel
theorem dX11_bestBuy_73 : decode cX11_bestBuy 73 = .ok (.iinc 6 1, 3) := by decide +kernel
theorem dX11_bestBuy_76 : decode cX11_bestBuy 76 = .ok (.goto (-70), 3) := by decide +kernel
theorem dX11_bestBuy_79 : decode cX11_bestBuy 79 = .ok (.iload 5, 2) := by decide +kernel
theorem dX11_bestBuy_81 : decode cX11_bestBuy 81 = .ok (.ireturn, 1) := by decide +kernel
theorem dX11_atPrice_0 : decode cX11_atPrice 0 = .ok (.iload_n 1, 1) := by decide +kernel
theorem dX11_atPrice_1 : decode cX11_atPrice 1 = .ok (.iconst 4, 1) := by decide +kernel
theorem dX11_atPrice_2 : decode cX11_atPrice 2 = .ok (.if_icmp .eq 8, 3) := by decide +kernel
theorem dX11_atPrice_5 : decode cX11_atPrice 5 = .ok (.iload_n 1, 1) := by decide +kernel
theorem dX11_atPrice_6 : decode cX11_atPrice 6 = .ok (.iconst 5, 1) := by decide +kernel
theorem dX11_atPrice_7 : decode cX11_atPrice 7 = .ok (.if_icmp .ne 15, 3) := by decide +kernel
theorem dX11_atPrice_10 : decode cX11_atPrice 10 = .ok (.aload_n 0, 1) := by decide +kernel
theorem dX11_atPrice_11 : decode cX11_atPrice 11 = .ok (.iload_n 1, 1) := by decide +kernel
theorem dX11_atPrice_12 : decode cX11_atPrice 12 = .ok (.iload_n 2, 1) := by decide +kernel
theorem dX11_atPrice_13 : decode cX11_atPrice 13 = .ok (.iload_n 3, 1) := by decide +kernel
theorem dX11_atPrice_14 : decode cX11_atPrice 14 = .ok (.iload 4, 2) := by decide +kernel
theorem dX11_atPrice_16 : decode cX11_atPrice 16 = .ok (.invokevirtual 329, 3) := by decide +kernel
theorem dX11_atPrice_19 : decode cX11_atPrice 19 = .ok (.goto 25, 3) := by decide +kernel
theorem dX11_atPrice_22 : decode cX11_atPrice 22 = .ok (.aload_n 0, 1) := by decide +kernel
theorem dX11_atPrice_23 : decode cX11_atPrice 23 = .ok (.iload_n 1, 1) := by decide +kernel
theorem dX11_atPrice_24 : decode cX11_atPrice 24 = .ok (.iconst 5, 1) := by decide +kernel
theorem dX11_atPrice_25 : decode cX11_atPrice 25 = .ok (.if_icmp .le 11, 3) := by decide +kernel
theorem dX11_atPrice_28 : decode cX11_atPrice 28 = .ok (.iload_n 1, 1) := by decide +kernel
theorem dX11_atPrice_29 : decode cX11_atPrice 29 = .ok (.iconst 5, 1) := by decide +kernel
theorem dX11_atPrice_30 : decode cX11_atPrice 30 = .ok (.isub, 1) := by decide +kernel
theorem dX11_atPrice_31 : decode cX11_atPrice 31 = .ok (.iconst 1, 1) := by decide +kernel
theorem dX11_atPrice_32 : decode cX11_atPrice 32 = .ok (.isub, 1) := by decide +kernel
theorem dX11_atPrice_33 : decode cX11_atPrice 33 = .ok (.goto 4, 3) := by decide +kernel
theorem dX11_atPrice_36 : decode cX11_atPrice 36 = .ok (.iload_n 1, 1) := by decide +kernel
theorem dX11_atPrice_37 : decode cX11_atPrice 37 = .ok (.iload_n 2, 1) := by decide +kernel
theorem dX11_atPrice_38 : decode cX11_atPrice 38 = .ok (.iload_n 3, 1) := by decide +kernel
theorem dX11_atPrice_39 : decode cX11_atPrice 39 = .ok (.iload 4, 2) := by decide +kernel
theorem dX11_atPrice_41 : decode cX11_atPrice 41 = .ok (.invokevirtual 306, 3) := by decide +kernel
theorem dX11_atPrice_44 : decode cX11_atPrice 44 = .ok (.istore 5, 2) := by decide +kernel
theorem dX11_atPrice_46 : decode cX11_atPrice 46 = .ok (.aload_n 0, 1) := by decide +kernel
theorem dX11_atPrice_47 : decode cX11_atPrice 47 = .ok (.iload_n 1, 1) := by decide +kernel
theorem dX11_atPrice_48 : decode cX11_atPrice 48 = .ok (.iload_n 2, 1) := by decide +kernel
theorem dX11_atPrice_49 : decode cX11_atPrice 49 = .ok (.iload_n 3, 1) := by decide +kernel
theorem dX11_atPrice_50 : decode cX11_atPrice 50 = .ok (.iload 5, 2) := by decide +kernel
theorem dX11_atPrice_52 : decode cX11_atPrice 52 = .ok (.iload 4, 2) := by decide +kernel
theorem dX11_atPrice_54 : decode cX11_atPrice 54 = .ok (.invokevirtual 325, 3) := by decide +kernel
theorem dX11_atPrice_57 : decode cX11_atPrice 57 = .ok (.lreturn, 1) := by decide +kernel
theorem dX11_layMeans_0 : decode cX11_layMeans 0 = .ok (.iconst 0, 1) := by decide +kernel
theorem dX11_layMeans_1 : decode cX11_layMeans 1 = .ok (.istore_n 2, 1) := by decide +kernel
theorem dX11_layMeans_2 : decode cX11_layMeans 2 = .ok (.iload_n 2, 1) := by decide +kernel
theorem dX11_layMeans_3 : decode cX11_layMeans 3 = .ok (.aload_n 0, 1) := by decide +kernel
theorem dX11_layMeans_4 : decode cX11_layMeans 4 = .ok (.getfield 20, 3) := by decide +kernel
theorem dX11_layMeans_7 : decode cX11_layMeans 7 = .ok (.iconst 0, 1) := by decide +kernel
theorem dX11_layMeans_8 : decode cX11_layMeans 8 = .ok (.iaload, 1) := by decide +kernel
theorem dX11_layMeans_9 : decode cX11_layMeans 9 = .ok (.if_icmp .gt 33, 3) := by decide +kernel
theorem dX11_layMeans_12 : decode cX11_layMeans 12 = .ok (.aload_n 0, 1) := by decide +kernel
theorem dX11_layMeans_13 : decode cX11_layMeans 13 = .ok (.getfield 47, 3) := by decide +kernel
theorem dX11_layMeans_16 : decode cX11_layMeans 16 = .ok (.bipush 41, 2) := by decide +kernel
theorem dX11_layMeans_18 : decode cX11_layMeans 18 = .ok (.aload_n 0, 1) := by decide +kernel
theorem dX11_layMeans_19 : decode cX11_layMeans 19 = .ok (.invokevirtual 254, 3) := by decide +kernel
theorem dX11_layMeans_22 : decode cX11_layMeans 22 = .ok (.imul, 1) := by decide +kernel
theorem dX11_layMeans_23 : decode cX11_layMeans 23 = .ok (.iload_n 2, 1) := by decide +kernel
theorem dX11_layMeans_24 : decode cX11_layMeans 24 = .ok (.iadd, 1) := by decide +kernel
theorem dX11_layMeans_25 : decode cX11_layMeans 25 = .ok (.iload_n 1, 1) := by decide +kernel
theorem dX11_layMeans_26 : decode cX11_layMeans 26 = .ok (.iconst 5, 1) := by decide +kernel
theorem dX11_layMeans_27 : decode cX11_layMeans 27 = .ok (.if_icmp .lt 7, 3) := by decide +kernel
theorem dX11_layMeans_30 : decode cX11_layMeans 30 = .ok (.lconst 1, 1) := by decide +kernel
theorem dX11_layMeans_31 : decode cX11_layMeans 31 = .ok (.goto 4, 3) := by decide +kernel
theorem dX11_layMeans_34 : decode cX11_layMeans 34 = .ok (.lconst 0, 1) := by decide +kernel
theorem dX11_layMeans_35 : decode cX11_layMeans 35 = .ok (.lastore, 1) := by decide +kernel
theorem dX11_layMeans_36 : decode cX11_layMeans 36 = .ok (.iinc 2 1, 3) := by decide +kernel
theorem dX11_layMeans_39 : decode cX11_layMeans 39 = .ok (.goto (-37), 3) := by decide +kernel
theorem dX11_layMeans_42 : decode cX11_layMeans 42 = .ok (.aload_n 0, 1) := by decide +kernel
theorem dX11_layMeans_43 : decode cX11_layMeans 43 = .ok (.invokevirtual 254, 3) := by decide +kernel
theorem dX11_layMeans_46 : decode cX11_layMeans 46 = .ok (.iconst 1, 1) := by decide +kernel
theorem dX11_layMeans_47 : decode cX11_layMeans 47 = .ok (.isub, 1) := by decide +kernel
theorem dX11_layMeans_48 : decode cX11_layMeans 48 = .ok (.istore_n 2, 1) := by decide +kernel
theorem dX11_layMeans_49 : decode cX11_layMeans 49 = .ok (.iload_n 2, 1) := by decide +kernel
theorem dX11_layMeans_50 : decode cX11_layMeans 50 = .ok (.ifCond .lt 45, 3) := by decide +kernel
theorem dX11_layMeans_53 : decode cX11_layMeans 53 = .ok (.iconst 0, 1) := by decide +kernel
theorem dX11_layMeans_54 : decode cX11_layMeans 54 = .ok (.istore_n 3, 1) := by decide +kernel
theorem dX11_layMeans_55 : decode cX11_layMeans 55 = .ok (.iload_n 3, 1) := by decide +kernel
theorem dX11_layMeans_56 : decode cX11_layMeans 56 = .ok (.aload_n 0, 1) := by decide +kernel
theorem dX11_layMeans_57 : decode cX11_layMeans 57 = .ok (.getfield 20, 3) := by decide +kernel
theorem dX11_layMeans_60 : decode cX11_layMeans 60 = .ok (.iconst 0, 1) := by decide +kernel
theorem dX11_layMeans_61 : decode cX11_layMeans 61 = .ok (.iaload, 1) := by decide +kernel
theorem dX11_layMeans_62 : decode cX11_layMeans 62 = .ok (.if_icmp .gt 27, 3) := by decide +kernel
theorem dX11_layMeans_65 : decode cX11_layMeans 65 = .ok (.aload_n 0, 1) := by decide +kernel
theorem dX11_layMeans_66 : decode cX11_layMeans 66 = .ok (.getfield 47, 3) := by decide +kernel
theorem dX11_layMeans_69 : decode cX11_layMeans 69 = .ok (.bipush 41, 2) := by decide +kernel
theorem dX11_layMeans_71 : decode cX11_layMeans 71 = .ok (.iload_n 2, 1) := by decide +kernel
theorem dX11_layMeans_72 : decode cX11_layMeans 72 = .ok (.imul, 1) := by decide +kernel
theorem dX11_layMeans_73 : decode cX11_layMeans 73 = .ok (.iload_n 3, 1) := by decide +kernel
theorem dX11_layMeans_74 : decode cX11_layMeans 74 = .ok (.iadd, 1) := by decide +kernel
theorem dX11_layMeans_75 : decode cX11_layMeans 75 = .ok (.aload_n 0, 1) := by decide +kernel
theorem dX11_layMeans_76 : decode cX11_layMeans 76 = .ok (.iload_n 1, 1) := by decide +kernel
theorem dX11_layMeans_77 : decode cX11_layMeans 77 = .ok (.iload_n 2, 1) := by decide +kernel
theorem dX11_layMeans_78 : decode cX11_layMeans 78 = .ok (.iload_n 3, 1) := by decide +kernel
theorem dX11_layMeans_79 : decode cX11_layMeans 79 = .ok (.invokevirtual 332, 3) := by decide +kernel
theorem dX11_layMeans_82 : decode cX11_layMeans 82 = .ok (.lastore, 1) := by decide +kernel
theorem dX11_layMeans_83 : decode cX11_layMeans 83 = .ok (.iinc 3 1, 3) := by decide +kernel
theorem dX11_layMeans_86 : decode cX11_layMeans 86 = .ok (.goto (-31), 3) := by decide +kernel
theorem dX11_layMeans_89 : decode cX11_layMeans 89 = .ok (.iinc 2 (-1), 3) := by decide +kernel
theorem dX11_layMeans_92 : decode cX11_layMeans 92 = .ok (.goto (-43), 3) := by decide +kernel
theorem dX11_layMeans_95 : decode cX11_layMeans 95 = .ok (.return_, 1) := by decide +kernel
theorem dX11_meanAt_0 : decode cX11_meanAt 0 = .ok (.aload_n 0, 1) := by decide +kernel
theorem dX11_meanAt_1 : decode cX11_meanAt 1 = .ok (.iload_n 2, 1) := by decide +kernel
theorem dX11_meanAt_2 : decode cX11_meanAt 2 = .ok (.invokevirtual 257, 3) := by decide +kernel
theorem dX11_meanAt_5 : decode cX11_meanAt 5 = .ok (.istore 4, 2) := by decide +kernel
theorem dX11_meanAt_7 : decode cX11_meanAt 7 = .ok (.aload_n 0, 1) := by decide +kernel
theorem dX11_meanAt_8 : decode cX11_meanAt 8 = .ok (.iload_n 1, 1) := by decide +kernel
theorem dX11_meanAt_9 : decode cX11_meanAt 9 = .ok (.iload_n 2, 1) := by decide +kernel
theorem dX11_meanAt_10 : decode cX11_meanAt 10 = .ok (.iload_n 3, 1) := by decide +kernel
theorem dX11_meanAt_11 : decode cX11_meanAt 11 = .ok (.iconst 0, 1) := by decide +kernel
theorem dX11_meanAt_12 : decode cX11_meanAt 12 = .ok (.iconst 0, 1) := by decide +kernel
theorem dX11_meanAt_13 : decode cX11_meanAt 13 = .ok (.invokevirtual 325, 3) := by decide +kernel
theorem dX11_meanAt_16 : decode cX11_meanAt 16 = .ok (.lstore 5, 2) := by decide +kernel
theorem dX11_meanAt_18 : decode cX11_meanAt 18 = .ok (.aload_n 0, 1) := by decide +kernel
theorem dX11_meanAt_19 : decode cX11_meanAt 19 = .ok (.iload_n 2, 1) := by decide +kernel
theorem dX11_meanAt_20 : decode cX11_meanAt 20 = .ok (.invokevirtual 281, 3) := by decide +kernel
theorem dX11_meanAt_23 : decode cX11_meanAt 23 = .ok (.ifCond .ne 10, 3) := by decide +kernel
theorem dX11_meanAt_26 : decode cX11_meanAt 26 = .ok (.ldc2_w 315, 3) := by decide +kernel
theorem dX11_meanAt_29 : decode cX11_meanAt 29 = .ok (.lload 5, 2) := by decide +kernel
theorem dX11_meanAt_31 : decode cX11_meanAt 31 = .ok (.lmul, 1) := by decide +kernel
theorem dX11_meanAt_32 : decode cX11_meanAt 32 = .ok (.lreturn, 1) := by decide +kernel
theorem dX11_meanAt_33 : decode cX11_meanAt 33 = .ok (.aload_n 0, 1) := by decide +kernel
theorem dX11_meanAt_34 : decode cX11_meanAt 34 = .ok (.iload 4, 2) := by decide +kernel
theorem dX11_meanAt_36 : decode cX11_meanAt 36 = .ok (.iconst 2, 1) := by decide +kernel
theorem dX11_meanAt_37 : decode cX11_meanAt 37 = .ok (.invokevirtual 260, 3) := by decide +kernel
theorem dX11_meanAt_40 : decode cX11_meanAt 40 = .ok (.istore 7, 2) := by decide +kernel
theorem dX11_meanAt_42 : decode cX11_meanAt 42 = .ok (.aload_n 0, 1) := by decide +kernel
theorem dX11_meanAt_43 : decode cX11_meanAt 43 = .ok (.iload_n 1, 1) := by decide +kernel
theorem dX11_meanAt_44 : decode cX11_meanAt 44 = .ok (.iload_n 2, 1) := by decide +kernel
theorem dX11_meanAt_45 : decode cX11_meanAt 45 = .ok (.iload_n 3, 1) := by decide +kernel
theorem dX11_meanAt_46 : decode cX11_meanAt 46 = .ok (.aload_n 0, 1) := by decide +kernel
theorem dX11_meanAt_47 : decode cX11_meanAt 47 = .ok (.iload 4, 2) := by decide +kernel
theorem dX11_meanAt_49 : decode cX11_meanAt 49 = .ok (.iconst 0, 1) := by decide +kernel
theorem dX11_meanAt_50 : decode cX11_meanAt 50 = .ok (.invokevirtual 260, 3) := by decide +kernel
theorem dX11_meanAt_53 : decode cX11_meanAt 53 = .ok (.invokevirtual 336, 3) := by decide +kernel
theorem dX11_meanAt_56 : decode cX11_meanAt 56 = .ok (.lstore 8, 2) := by decide +kernel
theorem dX11_meanAt_58 : decode cX11_meanAt 58 = .ok (.aload_n 0, 1) := by decide +kernel
theorem dX11_meanAt_59 : decode cX11_meanAt 59 = .ok (.iload 4, 2) := by decide +kernel
theorem dX11_meanAt_61 : decode cX11_meanAt 61 = .ok (.iconst 1, 1) := by decide +kernel
theorem dX11_meanAt_62 : decode cX11_meanAt 62 = .ok (.invokevirtual 260, 3) := by decide +kernel
theorem dX11_meanAt_65 : decode cX11_meanAt 65 = .ok (.ifCond .ne 8, 3) := by decide +kernel
theorem dX11_meanAt_68 : decode cX11_meanAt 68 = .ok (.lload 8, 2) := by decide +kernel
theorem dX11_meanAt_70 : decode cX11_meanAt 70 = .ok (.goto 17, 3) := by decide +kernel
theorem dX11_meanAt_73 : decode cX11_meanAt 73 = .ok (.aload_n 0, 1) := by decide +kernel
theorem dX11_meanAt_74 : decode cX11_meanAt 74 = .ok (.iload_n 1, 1) := by decide +kernel
theorem dX11_meanAt_75 : decode cX11_meanAt 75 = .ok (.iload_n 2, 1) := by decide +kernel
theorem dX11_meanAt_76 : decode cX11_meanAt 76 = .ok (.iload_n 3, 1) := by decide +kernel
theorem dX11_meanAt_77 : decode cX11_meanAt 77 = .ok (.aload_n 0, 1) := by decide +kernel
theorem dX11_meanAt_78 : decode cX11_meanAt 78 = .ok (.iload 4, 2) := by decide +kernel
theorem dX11_meanAt_80 : decode cX11_meanAt 80 = .ok (.iconst 1, 1) := by decide +kernel
theorem dX11_meanAt_81 : decode cX11_meanAt 81 = .ok (.invokevirtual 260, 3) := by decide +kernel
theorem dX11_meanAt_84 : decode cX11_meanAt 84 = .ok (.invokevirtual 336, 3) := by decide +kernel
theorem dX11_meanAt_87 : decode cX11_meanAt 87 = .ok (.lstore 10, 2) := by decide +kernel
theorem dX11_meanAt_89 : decode cX11_meanAt 89 = .ok (.ldc2_w 340, 3) := by decide +kernel
theorem dX11_meanAt_92 : decode cX11_meanAt 92 = .ok (.iload 7, 2) := by decide +kernel
theorem dX11_meanAt_94 : decode cX11_meanAt 94 = .ok (.i2l, 1) := by decide +kernel
theorem dX11_meanAt_95 : decode cX11_meanAt 95 = .ok (.lmul, 1) := by decide +kernel
theorem dX11_meanAt_96 : decode cX11_meanAt 96 = .ok (.lload 5, 2) := by decide +kernel
theorem dX11_meanAt_98 : decode cX11_meanAt 98 = .ok (.lmul, 1) := by decide +kernel
theorem dX11_meanAt_99 : decode cX11_meanAt 99 = .ok (.bipush 10, 2) := by decide +kernel
theorem dX11_meanAt_101 : decode cX11_meanAt 101 = .ok (.iload 7, 2) := by decide +kernel
theorem dX11_meanAt_103 : decode cX11_meanAt 103 = .ok (.isub, 1) := by decide +kernel
theorem dX11_meanAt_104 : decode cX11_meanAt 104 = .ok (.i2l, 1) := by decide +kernel
theorem dX11_meanAt_105 : decode cX11_meanAt 105 = .ok (.lload 8, 2) := by decide +kernel
theorem dX11_meanAt_107 : decode cX11_meanAt 107 = .ok (.lmul, 1) := by decide +kernel
theorem dX11_meanAt_108 : decode cX11_meanAt 108 = .ok (.ladd, 1) := by decide +kernel
theorem dX11_meanAt_109 : decode cX11_meanAt 109 = .ok (.bipush 10, 2) := by decide +kernel
theorem dX11_meanAt_111 : decode cX11_meanAt 111 = .ok (.iload 7, 2) := by decide +kernel
theorem dX11_meanAt_113 : decode cX11_meanAt 113 = .ok (.isub, 1) := by decide +kernel
theorem dX11_meanAt_114 : decode cX11_meanAt 114 = .ok (.i2l, 1) := by decide +kernel
theorem dX11_meanAt_115 : decode cX11_meanAt 115 = .ok (.lload 10, 2) := by decide +kernel
theorem dX11_meanAt_117 : decode cX11_meanAt 117 = .ok (.lmul, 1) := by decide +kernel
theorem dX11_meanAt_118 : decode cX11_meanAt 118 = .ok (.ladd, 1) := by decide +kernel
theorem dX11_meanAt_119 : decode cX11_meanAt 119 = .ok (.lreturn, 1) := by decide +kernel
theorem dX11_meanOf_0 : decode cX11_meanOf 0 = .ok (.aload_n 0, 1) := by decide +kernel
theorem dX11_meanOf_1 : decode cX11_meanOf 1 = .ok (.iload_n 1, 1) := by decide +kernel
theorem dX11_meanOf_2 : decode cX11_meanOf 2 = .ok (.invokevirtual 342, 3) := by decide +kernel
theorem dX11_meanOf_5 : decode cX11_meanOf 5 = .ok (.aload_n 0, 1) := by decide +kernel
theorem dX11_meanOf_6 : decode cX11_meanOf 6 = .ok (.getfield 47, 3) := by decide +kernel
theorem dX11_meanOf_9 : decode cX11_meanOf 9 = .ok (.aload_n 0, 1) := by decide +kernel
theorem dX11_meanOf_10 : decode cX11_meanOf 10 = .ok (.getfield 20, 3) := by decide +kernel
theorem dX11_meanOf_13 : decode cX11_meanOf 13 = .ok (.iconst 1, 1) := by decide +kernel
theorem dX11_meanOf_14 : decode cX11_meanOf 14 = .ok (.iaload, 1) := by decide +kernel
theorem dX11_meanOf_15 : decode cX11_meanOf 15 = .ok (.laload, 1) := by decide +kernel
theorem dX11_meanOf_16 : decode cX11_meanOf 16 = .ok (.aload_n 0, 1) := by decide +kernel
theorem dX11_meanOf_17 : decode cX11_meanOf 17 = .ok (.iconst 0, 1) := by decide +kernel
theorem dX11_meanOf_18 : decode cX11_meanOf 18 = .ok (.invokevirtual 317, 3) := by decide +kernel
theorem dX11_meanOf_21 : decode cX11_meanOf 21 = .ok (.iload_n 2, 1) := by decide +kernel
theorem dX11_meanOf_22 : decode cX11_meanOf 22 = .ok (.invokestatic 345, 3) := by decide +kernel
theorem dX11_meanOf_25 : decode cX11_meanOf 25 = .ok (.lreturn, 1) := by decide +kernel
theorem dX11_mean_0 : decode cX11_mean 0 = .ok (.aload_n 0, 1) := by decide +kernel
theorem dX11_mean_1 : decode cX11_mean 1 = .ok (.invokevirtual 176, 3) := by decide +kernel
theorem dX11_mean_4 : decode cX11_mean 4 = .ok (.aload_n 0, 1) := by decide +kernel
theorem dX11_mean_5 : decode cX11_mean 5 = .ok (.iload_n 1, 1) := by decide +kernel
theorem dX11_mean_6 : decode cX11_mean 6 = .ok (.invokevirtual 299, 3) := by decide +kernel
theorem dX11_mean_9 : decode cX11_mean 9 = .ok (.ifCond .eq 12, 3) := by decide +kernel
theorem dX11_mean_12 : decode cX11_mean 12 = .ok (.aload_n 0, 1) := by decide +kernel
theorem dX11_mean_13 : decode cX11_mean 13 = .ok (.iload_n 1, 1) := by decide +kernel
theorem dX11_mean_14 : decode cX11_mean 14 = .ok (.iload_n 2, 1) := by decide +kernel
theorem dX11_mean_15 : decode cX11_mean 15 = .ok (.invokevirtual 349, 3) := by decide +kernel
theorem dX11_mean_18 : decode cX11_mean 18 = .ok (.goto 9, 3) := by decide +kernel
theorem dX11_mean_21 : decode cX11_mean 21 = .ok (.aload_n 0, 1) := by decide +kernel
theorem dX11_mean_22 : decode cX11_mean 22 = .ok (.iconst 1, 1) := by decide +kernel
theorem dX11_mean_23 : decode cX11_mean 23 = .ok (.invokevirtual 179, 3) := by decide +kernel
theorem dX11_mean_26 : decode cX11_mean 26 = .ok (.i2l, 1) := by decide +kernel
theorem dX11_mean_27 : decode cX11_mean 27 = .ok (.lreturn, 1) := by decide +kernel
theorem dX11_bestRule_0 : decode cX11_bestRule 0 = .ok (.aload_n 0, 1) := by decide +kernel
theorem dX11_bestRule_1 : decode cX11_bestRule 1 = .ok (.invokevirtual 176, 3) := by decide +kernel
theorem dX11_bestRule_4 : decode cX11_bestRule 4 = .ok (.aload_n 0, 1) := by decide +kernel
theorem dX11_bestRule_5 : decode cX11_bestRule 5 = .ok (.getfield 189, 3) := by decide +kernel
theorem dX11_bestRule_8 : decode cX11_bestRule 8 = .ok (.ifCond .ne 9, 3) := by decide +kernel
theorem dX11_bestRule_11 : decode cX11_bestRule 11 = .ok (.aload_n 0, 1) := by decide +kernel
theorem dX11_bestRule_12 : decode cX11_bestRule 12 = .ok (.iconst 1, 1) := by decide +kernel
theorem dX11_bestRule_13 : decode cX11_bestRule 13 = .ok (.invokevirtual 179, 3) := by decide +kernel
theorem dX11_bestRule_16 : decode cX11_bestRule 16 = .ok (.ireturn, 1) := by decide +kernel
theorem dX11_bestRule_17 : decode cX11_bestRule 17 = .ok (.iconst 0, 1) := by decide +kernel
theorem dX11_bestRule_18 : decode cX11_bestRule 18 = .ok (.istore_n 1, 1) := by decide +kernel
theorem dX11_bestRule_19 : decode cX11_bestRule 19 = .ok (.ldc2_w 353, 3) := by decide +kernel
theorem dX11_bestRule_22 : decode cX11_bestRule 22 = .ok (.lstore_n 2, 1) := by decide +kernel
theorem dX11_bestRule_23 : decode cX11_bestRule 23 = .ok (.iconst 0, 1) := by decide +kernel
theorem dX11_bestRule_24 : decode cX11_bestRule 24 = .ok (.istore 4, 2) := by decide +kernel
theorem dX11_bestRule_26 : decode cX11_bestRule 26 = .ok (.iload 4, 2) := by decide +kernel
theorem dX11_bestRule_28 : decode cX11_bestRule 28 = .ok (.iconst 4, 1) := by decide +kernel
theorem dX11_bestRule_29 : decode cX11_bestRule 29 = .ok (.if_icmp .ge 55, 3) := by decide +kernel
theorem dX11_bestRule_32 : decode cX11_bestRule 32 = .ok (.aload_n 0, 1) := by decide +kernel
theorem dX11_bestRule_33 : decode cX11_bestRule 33 = .ok (.iload 4, 2) := by decide +kernel
theorem dX11_bestRule_35 : decode cX11_bestRule 35 = .ok (.invokevirtual 342, 3) := by decide +kernel
theorem dX11_bestRule_38 : decode cX11_bestRule 38 = .ok (.lload_n 2, 1) := by decide +kernel
theorem dX11_bestRule_39 : decode cX11_bestRule 39 = .ok (.lconst 0, 1) := by decide +kernel
theorem dX11_bestRule_40 : decode cX11_bestRule 40 = .ok (.lcmp, 1) := by decide +kernel
theorem dX11_bestRule_41 : decode cX11_bestRule 41 = .ok (.ifCond .lt 22, 3) := by decide +kernel
theorem dX11_bestRule_44 : decode cX11_bestRule 44 = .ok (.aload_n 0, 1) := by decide +kernel
theorem dX11_bestRule_45 : decode cX11_bestRule 45 = .ok (.getfield 47, 3) := by decide +kernel
theorem dX11_bestRule_48 : decode cX11_bestRule 48 = .ok (.aload_n 0, 1) := by decide +kernel
theorem dX11_bestRule_49 : decode cX11_bestRule 49 = .ok (.getfield 20, 3) := by decide +kernel
theorem dX11_bestRule_52 : decode cX11_bestRule 52 = .ok (.iconst 1, 1) := by decide +kernel
theorem dX11_bestRule_53 : decode cX11_bestRule 53 = .ok (.iaload, 1) := by decide +kernel
theorem dX11_bestRule_54 : decode cX11_bestRule 54 = .ok (.laload, 1) := by decide +kernel
theorem dX11_bestRule_55 : decode cX11_bestRule 55 = .ok (.lload_n 2, 1) := by decide +kernel
theorem dX11_bestRule_56 : decode cX11_bestRule 56 = .ok (.lcmp, 1) := by decide +kernel
theorem dX11_bestRule_57 : decode cX11_bestRule 57 = .ok (.ifCond .lt 6, 3) := by decide +kernel
theorem dX11_bestRule_60 : decode cX11_bestRule 60 = .ok (.goto 18, 3) := by decide +kernel
theorem dX11_bestRule_63 : decode cX11_bestRule 63 = .ok (.iload 4, 2) := by decide +kernel
theorem dX11_bestRule_65 : decode cX11_bestRule 65 = .ok (.istore_n 1, 1) := by decide +kernel
theorem dX11_bestRule_66 : decode cX11_bestRule 66 = .ok (.aload_n 0, 1) := by decide +kernel
theorem dX11_bestRule_67 : decode cX11_bestRule 67 = .ok (.getfield 47, 3) := by decide +kernel
theorem dX11_bestRule_70 : decode cX11_bestRule 70 = .ok (.aload_n 0, 1) := by decide +kernel
theorem dX11_bestRule_71 : decode cX11_bestRule 71 = .ok (.getfield 20, 3) := by decide +kernel
theorem dX11_bestRule_74 : decode cX11_bestRule 74 = .ok (.iconst 1, 1) := by decide +kernel
theorem dX11_bestRule_75 : decode cX11_bestRule 75 = .ok (.iaload, 1) := by decide +kernel
theorem dX11_bestRule_76 : decode cX11_bestRule 76 = .ok (.laload, 1) := by decide +kernel
theorem dX11_bestRule_77 : decode cX11_bestRule 77 = .ok (.lstore_n 2, 1) := by decide +kernel
theorem dX11_bestRule_78 : decode cX11_bestRule 78 = .ok (.iinc 4 1, 3) := by decide +kernel
theorem dX11_bestRule_81 : decode cX11_bestRule 81 = .ok (.goto (-55), 3) := by decide +kernel
theorem dX11_bestRule_84 : decode cX11_bestRule 84 = .ok (.iload_n 1, 1) := by decide +kernel
theorem dX11_bestRule_85 : decode cX11_bestRule 85 = .ok (.ireturn, 1) := by decide +kernel
theorem dX11_bestMean_0 : decode cX11_bestMean 0 = .ok (.aload_n 0, 1) := by decide +kernel
theorem dX11_bestMean_1 : decode cX11_bestMean 1 = .ok (.invokevirtual 176, 3) := by decide +kernel
theorem dX11_bestMean_4 : decode cX11_bestMean 4 = .ok (.aload_n 0, 1) := by decide +kernel
theorem dX11_bestMean_5 : decode cX11_bestMean 5 = .ok (.getfield 189, 3) := by decide +kernel
theorem dX11_bestMean_8 : decode cX11_bestMean 8 = .ok (.ifCond .eq 12, 3) := by decide +kernel
theorem dX11_bestMean_11 : decode cX11_bestMean 11 = .ok (.aload_n 0, 1) := by decide +kernel
theorem dX11_bestMean_12 : decode cX11_bestMean 12 = .ok (.iconst 4, 1) := by decide +kernel
theorem dX11_bestMean_13 : decode cX11_bestMean 13 = .ok (.iload_n 1, 1) := by decide +kernel
theorem dX11_bestMean_14 : decode cX11_bestMean 14 = .ok (.invokevirtual 349, 3) := by decide +kernel
theorem dX11_bestMean_17 : decode cX11_bestMean 17 = .ok (.goto 9, 3) := by decide +kernel
theorem dX11_bestMean_20 : decode cX11_bestMean 20 = .ok (.aload_n 0, 1) := by decide +kernel
theorem dX11_bestMean_21 : decode cX11_bestMean 21 = .ok (.iconst 1, 1) := by decide +kernel
theorem dX11_bestMean_22 : decode cX11_bestMean 22 = .ok (.invokevirtual 179, 3) := by decide +kernel
theorem dX11_bestMean_25 : decode cX11_bestMean 25 = .ok (.i2l, 1) := by decide +kernel
theorem dX11_bestMean_26 : decode cX11_bestMean 26 = .ok (.lreturn, 1) := by decide +kernel
theorem dX11_buy_0 : decode cX11_buy 0 = .ok (.aload_n 0, 1) := by decide +kernel
theorem dX11_buy_1 : decode cX11_buy 1 = .ok (.invokevirtual 176, 3) := by decide +kernel
theorem dX11_buy_4 : decode cX11_buy 4 = .ok (.aload_n 0, 1) := by decide +kernel
theorem dX11_buy_5 : decode cX11_buy 5 = .ok (.iload_n 1, 1) := by decide +kernel
theorem dX11_buy_6 : decode cX11_buy 6 = .ok (.iload_n 2, 1) := by decide +kernel
theorem dX11_buy_7 : decode cX11_buy 7 = .ok (.iload_n 3, 1) := by decide +kernel
theorem dX11_buy_8 : decode cX11_buy 8 = .ok (.invokevirtual 302, 3) := by decide +kernel
theorem dX11_buy_11 : decode cX11_buy 11 = .ok (.istore 4, 2) := by decide +kernel
theorem dX11_buy_13 : decode cX11_buy 13 = .ok (.iload 4, 2) := by decide +kernel
theorem dX11_buy_15 : decode cX11_buy 15 = .ok (.ifCond .eq 10, 3) := by decide +kernel
theorem dX11_buy_18 : decode cX11_buy 18 = .ok (.aload_n 0, 1) := by decide +kernel
theorem dX11_buy_19 : decode cX11_buy 19 = .ok (.iload 4, 2) := by decide +kernel
theorem dX11_buy_21 : decode cX11_buy 21 = .ok (.invokevirtual 179, 3) := by decide +kernel
theorem dX11_buy_24 : decode cX11_buy 24 = .ok (.ireturn, 1) := by decide +kernel
theorem dX11_buy_25 : decode cX11_buy 25 = .ok (.aload_n 0, 1) := by decide +kernel
theorem dX11_buy_26 : decode cX11_buy 26 = .ok (.iconst 4, 1) := by decide +kernel
theorem dX11_buy_27 : decode cX11_buy 27 = .ok (.invokevirtual 342, 3) := by decide +kernel
theorem dX11_buy_30 : decode cX11_buy 30 = .ok (.aload_n 0, 1) := by decide +kernel
theorem dX11_buy_31 : decode cX11_buy 31 = .ok (.iconst 4, 1) := by decide +kernel
theorem dX11_buy_32 : decode cX11_buy 32 = .ok (.iload_n 1, 1) := by decide +kernel
theorem dX11_buy_33 : decode cX11_buy 33 = .ok (.iload_n 2, 1) := by decide +kernel
theorem dX11_buy_34 : decode cX11_buy 34 = .ok (.aload_n 0, 1) := by decide +kernel
theorem dX11_buy_35 : decode cX11_buy 35 = .ok (.aload_n 0, 1) := by decide +kernel
theorem dX11_buy_36 : decode cX11_buy 36 = .ok (.iload_n 1, 1) := by decide +kernel
theorem dX11_buy_37 : decode cX11_buy 37 = .ok (.invokevirtual 257, 3) := by decide +kernel
theorem dX11_buy_40 : decode cX11_buy 40 = .ok (.iload_n 3, 1) := by decide +kernel
theorem dX11_buy_41 : decode cX11_buy 41 = .ok (.ifCond .eq 7, 3) := by decide +kernel
theorem dX11_buy_44 : decode cX11_buy 44 = .ok (.iconst 1, 1) := by decide +kernel
theorem dX11_buy_45 : decode cX11_buy 45 = .ok (.goto 4, 3) := by decide +kernel
theorem dX11_buy_48 : decode cX11_buy 48 = .ok (.iconst 0, 1) := by decide +kernel
theorem dX11_buy_49 : decode cX11_buy 49 = .ok (.invokevirtual 260, 3) := by decide +kernel
theorem dX11_buy_52 : decode cX11_buy 52 = .ok (.invokevirtual 329, 3) := by decide +kernel
theorem dX11_buy_55 : decode cX11_buy 55 = .ok (.ireturn, 1) := by decide +kernel
theorem dX11_sure_0 : decode cX11_sure 0 = .ok (.aload_n 0, 1) := by decide +kernel
theorem dX11_sure_1 : decode cX11_sure 1 = .ok (.invokevirtual 176, 3) := by decide +kernel
theorem dX11_sure_4 : decode cX11_sure 4 = .ok (.aload_n 0, 1) := by decide +kernel
theorem dX11_sure_5 : decode cX11_sure 5 = .ok (.getfield 189, 3) := by decide +kernel
theorem dX11_sure_8 : decode cX11_sure 8 = .ok (.ifCond .eq 12, 3) := by decide +kernel
theorem dX11_sure_11 : decode cX11_sure 11 = .ok (.aload_n 0, 1) := by decide +kernel
theorem dX11_sure_12 : decode cX11_sure 12 = .ok (.iconst 5, 1) := by decide +kernel
theorem dX11_sure_13 : decode cX11_sure 13 = .ok (.iload_n 1, 1) := by decide +kernel
theorem dX11_sure_14 : decode cX11_sure 14 = .ok (.invokevirtual 349, 3) := by decide +kernel
theorem dX11_sure_17 : decode cX11_sure 17 = .ok (.goto 9, 3) := by decide +kernel
theorem dX11_sure_20 : decode cX11_sure 20 = .ok (.aload_n 0, 1) := by decide +kernel
theorem dX11_sure_21 : decode cX11_sure 21 = .ok (.iconst 1, 1) := by decide +kernel
theorem dX11_sure_22 : decode cX11_sure 22 = .ok (.invokevirtual 179, 3) := by decide +kernel
theorem dX11_sure_25 : decode cX11_sure 25 = .ok (.i2l, 1) := by decide +kernel
theorem dX11_sure_26 : decode cX11_sure 26 = .ok (.lreturn, 1) := by decide +kernel
theorem dX11_odds_0 : decode cX11_odds 0 = .ok (.aload_n 0, 1) := by decide +kernel
theorem dX11_odds_1 : decode cX11_odds 1 = .ok (.invokevirtual 176, 3) := by decide +kernel
theorem dX11_odds_4 : decode cX11_odds 4 = .ok (.aload_n 0, 1) := by decide +kernel
theorem dX11_odds_5 : decode cX11_odds 5 = .ok (.iload_n 1, 1) := by decide +kernel
theorem dX11_odds_6 : decode cX11_odds 6 = .ok (.invokevirtual 299, 3) := by decide +kernel
theorem dX11_odds_9 : decode cX11_odds 9 = .ok (.ifCond .eq 15, 3) := by decide +kernel
theorem dX11_odds_12 : decode cX11_odds 12 = .ok (.aload_n 0, 1) := by decide +kernel
theorem dX11_odds_13 : decode cX11_odds 13 = .ok (.bipush 6, 2) := by decide +kernel
theorem dX11_odds_15 : decode cX11_odds 15 = .ok (.iload_n 1, 1) := by decide +kernel
theorem dX11_odds_16 : decode cX11_odds 16 = .ok (.iadd, 1) := by decide +kernel
theorem dX11_odds_17 : decode cX11_odds 17 = .ok (.iload_n 2, 1) := by decide +kernel
theorem dX11_odds_18 : decode cX11_odds 18 = .ok (.invokevirtual 349, 3) := by decide +kernel
theorem dX11_odds_21 : decode cX11_odds 21 = .ok (.goto 9, 3) := by decide +kernel
theorem dX11_odds_24 : decode cX11_odds 24 = .ok (.aload_n 0, 1) := by decide +kernel
theorem dX11_odds_25 : decode cX11_odds 25 = .ok (.iconst 1, 1) := by decide +kernel
theorem dX11_odds_26 : decode cX11_odds 26 = .ok (.invokevirtual 179, 3) := by decide +kernel
theorem dX11_odds_29 : decode cX11_odds 29 = .ok (.i2l, 1) := by decide +kernel
theorem dX11_odds_30 : decode cX11_odds 30 = .ok (.lreturn, 1) := by decide +kernel
theorem dX11_less_0 : decode cX11_less 0 = .ok (.iload_n 2, 1) := by decide +kernel
theorem dX11_less_1 : decode cX11_less 1 = .ok (.aload_n 0, 1) := by decide +kernel
theorem dX11_less_2 : decode cX11_less 2 = .ok (.iload_n 1, 1) := by decide +kernel
theorem dX11_less_3 : decode cX11_less 3 = .ok (.iaload, 1) := by decide +kernel
theorem dX11_less_4 : decode cX11_less 4 = .ok (.if_icmp .lt 5, 3) := by decide +kernel
theorem dX11_less_7 : decode cX11_less 7 = .ok (.iconst 0, 1) := by decide +kernel
theorem dX11_less_8 : decode cX11_less 8 = .ok (.ireturn, 1) := by decide +kernel
theorem dX11_less_9 : decode cX11_less 9 = .ok (.aload_n 0, 1) := by decide +kernel
theorem dX11_less_10 : decode cX11_less 10 = .ok (.iload_n 1, 1) := by decide +kernel
theorem dX11_less_11 : decode cX11_less 11 = .ok (.iload_n 2, 1) := by decide +kernel
theorem dX11_less_12 : decode cX11_less 12 = .ok (.iastore, 1) := by decide +kernel
theorem dX11_less_13 : decode cX11_less 13 = .ok (.iconst 1, 1) := by decide +kernel
theorem dX11_less_14 : decode cX11_less 14 = .ok (.ireturn, 1) := by decide +kernel
theorem dX11_layNet_0 : decode cX11_layNet 0 = .ok (.iconst 0, 1) := by decide +kernel
theorem dX11_layNet_1 : decode cX11_layNet 1 = .ok (.istore_n 2, 1) := by decide +kernel
theorem dX11_layNet_2 : decode cX11_layNet 2 = .ok (.iload_n 2, 1) := by decide +kernel
theorem dX11_layNet_3 : decode cX11_layNet 3 = .ok (.sipush 369, 3) := by decide +kernel
theorem dX11_layNet_6 : decode cX11_layNet 6 = .ok (.if_icmp .ge 27, 3) := by decide +kernel
theorem dX11_layNet_9 : decode cX11_layNet 9 = .ok (.aload_n 0, 1) := by decide +kernel
theorem dX11_layNet_10 : decode cX11_layNet 10 = .ok (.getfield 51, 3) := by decide +kernel
theorem dX11_layNet_13 : decode cX11_layNet 13 = .ok (.iload_n 2, 1) := by decide +kernel
theorem dX11_layNet_14 : decode cX11_layNet 14 = .ok (.ldc_w 287, 3) := by decide +kernel
theorem dX11_layNet_17 : decode cX11_layNet 17 = .ok (.iastore, 1) := by decide +kernel
theorem dX11_layNet_18 : decode cX11_layNet 18 = .ok (.aload_n 0, 1) := by decide +kernel
theorem dX11_layNet_19 : decode cX11_layNet 19 = .ok (.getfield 54, 3) := by decide +kernel
theorem dX11_layNet_22 : decode cX11_layNet 22 = .ok (.iload_n 2, 1) := by decide +kernel
theorem dX11_layNet_23 : decode cX11_layNet 23 = .ok (.ldc_w 287, 3) := by decide +kernel
theorem dX11_layNet_26 : decode cX11_layNet 26 = .ok (.iastore, 1) := by decide +kernel
theorem dX11_layNet_27 : decode cX11_layNet 27 = .ok (.iinc 2 1, 3) := by decide +kernel
theorem dX11_layNet_30 : decode cX11_layNet 30 = .ok (.goto (-28), 3) := by decide +kernel
theorem dX11_layNet_33 : decode cX11_layNet 33 = .ok (.aload_n 0, 1) := by decide +kernel
theorem dX11_layNet_34 : decode cX11_layNet 34 = .ok (.getfield 51, 3) := by decide +kernel
theorem dX11_layNet_37 : decode cX11_layNet 37 = .ok (.bipush 41, 2) := by decide +kernel
theorem dX11_layNet_39 : decode cX11_layNet 39 = .ok (.aload_n 0, 1) := by decide +kernel
theorem dX11_layNet_40 : decode cX11_layNet 40 = .ok (.iconst 0, 1) := by decide +kernel
theorem dX11_layNet_41 : decode cX11_layNet 41 = .ok (.invokevirtual 257, 3) := by decide +kernel
theorem dX11_layNet_44 : decode cX11_layNet 44 = .ok (.imul, 1) := by decide +kernel
theorem dX11_layNet_45 : decode cX11_layNet 45 = .ok (.aload_n 0, 1) := by decide +kernel
theorem dX11_layNet_46 : decode cX11_layNet 46 = .ok (.getfield 20, 3) := by decide +kernel
theorem dX11_layNet_49 : decode cX11_layNet 49 = .ok (.iconst 1, 1) := by decide +kernel
theorem dX11_layNet_50 : decode cX11_layNet 50 = .ok (.iaload, 1) := by decide +kernel
theorem dX11_layNet_51 : decode cX11_layNet 51 = .ok (.iadd, 1) := by decide +kernel
theorem dX11_layNet_52 : decode cX11_layNet 52 = .ok (.iconst 0, 1) := by decide +kernel
theorem dX11_layNet_53 : decode cX11_layNet 53 = .ok (.iastore, 1) := by decide +kernel
theorem dX11_layNet_54 : decode cX11_layNet 54 = .ok (.iconst 1, 1) := by decide +kernel
theorem dX11_layNet_55 : decode cX11_layNet 55 = .ok (.istore_n 2, 1) := by decide +kernel
theorem dX11_layNet_56 : decode cX11_layNet 56 = .ok (.iload_n 2, 1) := by decide +kernel
theorem dX11_layNet_57 : decode cX11_layNet 57 = .ok (.ifCond .eq 67, 3) := by decide +kernel
theorem dX11_layNet_60 : decode cX11_layNet 60 = .ok (.iconst 0, 1) := by decide +kernel
theorem dX11_layNet_61 : decode cX11_layNet 61 = .ok (.istore_n 2, 1) := by decide +kernel
theorem dX11_layNet_62 : decode cX11_layNet 62 = .ok (.iconst 0, 1) := by decide +kernel
theorem dX11_layNet_63 : decode cX11_layNet 63 = .ok (.istore_n 3, 1) := by decide +kernel
theorem dX11_layNet_64 : decode cX11_layNet 64 = .ok (.iload_n 3, 1) := by decide +kernel
theorem dX11_layNet_65 : decode cX11_layNet 65 = .ok (.aload_n 0, 1) := by decide +kernel
theorem dX11_layNet_66 : decode cX11_layNet 66 = .ok (.getfield 20, 3) := by decide +kernel
theorem dX11_layNet_69 : decode cX11_layNet 69 = .ok (.iconst 5, 1) := by decide +kernel
theorem dX11_layNet_70 : decode cX11_layNet 70 = .ok (.iaload, 1) := by decide +kernel
theorem dX11_layNet_71 : decode cX11_layNet 71 = .ok (.if_icmp .ge 50, 3) := by decide +kernel
theorem dX11_layNet_74 : decode cX11_layNet 74 = .ok (.iconst 0, 1) := by decide +kernel
theorem dX11_layNet_75 : decode cX11_layNet 75 = .ok (.istore 4, 2) := by decide +kernel
theorem dX11_layNet_77 : decode cX11_layNet 77 = .ok (.iload 4, 2) := by decide +kernel
theorem dX11_layNet_79 : decode cX11_layNet 79 = .ok (.aload_n 0, 1) := by decide +kernel
theorem dX11_layNet_80 : decode cX11_layNet 80 = .ok (.getfield 20, 3) := by decide +kernel
theorem dX11_layNet_83 : decode cX11_layNet 83 = .ok (.iconst 0, 1) := by decide +kernel
theorem dX11_layNet_84 : decode cX11_layNet 84 = .ok (.iaload, 1) := by decide +kernel
theorem dX11_layNet_85 : decode cX11_layNet 85 = .ok (.if_icmp .gt 30, 3) := by decide +kernel
theorem dX11_layNet_88 : decode cX11_layNet 88 = .ok (.aload_n 0, 1) := by decide +kernel
theorem dX11_layNet_89 : decode cX11_layNet 89 = .ok (.iload_n 3, 1) := by decide +kernel
theorem dX11_layNet_90 : decode cX11_layNet 90 = .ok (.iload 4, 2) := by decide +kernel
theorem dX11_layNet_92 : decode cX11_layNet 92 = .ok (.iload_n 1, 1) := by decide +kernel
theorem dX11_layNet_93 : decode cX11_layNet 93 = .ok (.invokevirtual 355, 3) := by decide +kernel
theorem dX11_layNet_96 : decode cX11_layNet 96 = .ok (.ifCond .ne 7, 3) := by decide +kernel
theorem dX11_layNet_99 : decode cX11_layNet 99 = .ok (.iload_n 2, 1) := by decide +kernel
theorem dX11_layNet_100 : decode cX11_layNet 100 = .ok (.ifCond .eq 7, 3) := by decide +kernel
theorem dX11_layNet_103 : decode cX11_layNet 103 = .ok (.iconst 1, 1) := by decide +kernel
theorem dX11_layNet_104 : decode cX11_layNet 104 = .ok (.goto 4, 3) := by decide +kernel
theorem dX11_layNet_107 : decode cX11_layNet 107 = .ok (.iconst 0, 1) := by decide +kernel
theorem dX11_layNet_108 : decode cX11_layNet 108 = .ok (.istore_n 2, 1) := by decide +kernel
theorem dX11_layNet_109 : decode cX11_layNet 109 = .ok (.iinc 4 1, 3) := by decide +kernel
theorem dX11_layNet_112 : decode cX11_layNet 112 = .ok (.goto (-35), 3) := by decide +kernel
theorem dX11_layNet_115 : decode cX11_layNet 115 = .ok (.iinc 3 1, 3) := by decide +kernel
theorem dX11_layNet_118 : decode cX11_layNet 118 = .ok (.goto (-54), 3) := by decide +kernel
theorem dX11_layNet_121 : decode cX11_layNet 121 = .ok (.goto (-65), 3) := by decide +kernel
theorem dX11_layNet_124 : decode cX11_layNet 124 = .ok (.return_, 1) := by decide +kernel
theorem dX11_goes_0 : decode cX11_goes 0 = .ok (.iconst 0, 1) := by decide +kernel
theorem dX11_goes_1 : decode cX11_goes 1 = .ok (.istore 4, 2) := by decide +kernel
theorem dX11_goes_3 : decode cX11_goes 3 = .ok (.aload_n 0, 1) := by decide +kernel
theorem dX11_goes_4 : decode cX11_goes 4 = .ok (.getfield 51, 3) := by decide +kernel
theorem dX11_goes_7 : decode cX11_goes 7 = .ok (.bipush 41, 2) := by decide +kernel
theorem dX11_goes_9 : decode cX11_goes 9 = .ok (.iload_n 1, 1) := by decide +kernel
theorem dX11_goes_10 : decode cX11_goes 10 = .ok (.imul, 1) := by decide +kernel
theorem dX11_goes_11 : decode cX11_goes 11 = .ok (.iload_n 2, 1) := by decide +kernel
theorem dX11_goes_12 : decode cX11_goes 12 = .ok (.iadd, 1) := by decide +kernel
theorem dX11_goes_13 : decode cX11_goes 13 = .ok (.iaload, 1) := by decide +kernel
theorem dX11_goes_14 : decode cX11_goes 14 = .ok (.istore 5, 2) := by decide +kernel
theorem dX11_goes_16 : decode cX11_goes 16 = .ok (.iload 5, 2) := by decide +kernel
theorem dX11_goes_18 : decode cX11_goes 18 = .ok (.ldc_w 287, 3) := by decide +kernel
theorem dX11_goes_21 : decode cX11_goes 21 = .ok (.if_icmp .ge 97, 3) := by decide +kernel
theorem dX11_goes_24 : decode cX11_goes 24 = .ok (.aload_n 0, 1) := by decide +kernel
theorem dX11_goes_25 : decode cX11_goes 25 = .ok (.iload_n 1, 1) := by decide +kernel
theorem dX11_goes_26 : decode cX11_goes 26 = .ok (.iconst 0, 1) := by decide +kernel
theorem dX11_goes_27 : decode cX11_goes 27 = .ok (.invokevirtual 260, 3) := by decide +kernel
theorem dX11_goes_30 : decode cX11_goes 30 = .ok (.ifCond .le 88, 3) := by decide +kernel
theorem dX11_goes_33 : decode cX11_goes 33 = .ok (.iconst 1, 1) := by decide +kernel
theorem dX11_goes_34 : decode cX11_goes 34 = .ok (.istore 6, 2) := by decide +kernel
theorem dX11_goes_36 : decode cX11_goes 36 = .ok (.iload_n 2, 1) := by decide +kernel
theorem dX11_goes_37 : decode cX11_goes 37 = .ok (.iload 6, 2) := by decide +kernel
theorem dX11_goes_39 : decode cX11_goes 39 = .ok (.iadd, 1) := by decide +kernel
theorem dX11_goes_40 : decode cX11_goes 40 = .ok (.aload_n 0, 1) := by decide +kernel
theorem dX11_goes_41 : decode cX11_goes 41 = .ok (.getfield 20, 3) := by decide +kernel
theorem dX11_goes_44 : decode cX11_goes 44 = .ok (.iconst 0, 1) := by decide +kernel
theorem dX11_goes_45 : decode cX11_goes 45 = .ok (.iaload, 1) := by decide +kernel
theorem dX11_goes_46 : decode cX11_goes 46 = .ok (.if_icmp .gt 72, 3) := by decide +kernel
theorem dX11_goes_49 : decode cX11_goes 49 = .ok (.aload_n 0, 1) := by decide +kernel
theorem dX11_goes_50 : decode cX11_goes 50 = .ok (.getfield 54, 3) := by decide +kernel
theorem dX11_goes_53 : decode cX11_goes 53 = .ok (.bipush 41, 2) := by decide +kernel
theorem dX11_goes_55 : decode cX11_goes 55 = .ok (.iload_n 1, 1) := by decide +kernel
theorem dX11_goes_56 : decode cX11_goes 56 = .ok (.imul, 1) := by decide +kernel
theorem dX11_goes_57 : decode cX11_goes 57 = .ok (.iload_n 2, 1) := by decide +kernel
theorem dX11_goes_58 : decode cX11_goes 58 = .ok (.iadd, 1) := by decide +kernel
theorem dX11_goes_59 : decode cX11_goes 59 = .ok (.iload 6, 2) := by decide +kernel
theorem dX11_goes_61 : decode cX11_goes 61 = .ok (.iadd, 1) := by decide +kernel
theorem dX11_goes_62 : decode cX11_goes 62 = .ok (.iload 5, 2) := by decide +kernel
theorem dX11_goes_64 : decode cX11_goes 64 = .ok (.iload_n 3, 1) := by decide +kernel
theorem dX11_goes_65 : decode cX11_goes 65 = .ok (.ifCond .eq 12, 3) := by decide +kernel
theorem dX11_goes_68 : decode cX11_goes 68 = .ok (.aload_n 0, 1) := by decide +kernel
theorem dX11_goes_69 : decode cX11_goes 69 = .ok (.getfield 20, 3) := by decide +kernel
theorem dX11_goes_72 : decode cX11_goes 72 = .ok (.iconst 3, 1) := by decide +kernel
theorem dX11_goes_73 : decode cX11_goes 73 = .ok (.iaload, 1) := by decide +kernel
theorem dX11_goes_74 : decode cX11_goes 74 = .ok (.goto 19, 3) := by decide +kernel
theorem dX11_goes_77 : decode cX11_goes 77 = .ok (.iload 6, 2) := by decide +kernel
theorem dX11_goes_79 : decode cX11_goes 79 = .ok (.aload_n 0, 1) := by decide +kernel
theorem dX11_goes_80 : decode cX11_goes 80 = .ok (.iload_n 1, 1) := by decide +kernel
theorem dX11_goes_81 : decode cX11_goes 81 = .ok (.iconst 0, 1) := by decide +kernel
theorem dX11_goes_82 : decode cX11_goes 82 = .ok (.invokevirtual 260, 3) := by decide +kernel
theorem dX11_goes_85 : decode cX11_goes 85 = .ok (.imul, 1) := by decide +kernel
theorem dX11_goes_86 : decode cX11_goes 86 = .ok (.aload_n 0, 1) := by decide +kernel
theorem dX11_goes_87 : decode cX11_goes 87 = .ok (.getfield 20, 3) := by decide +kernel
theorem dX11_goes_90 : decode cX11_goes 90 = .ok (.iconst 2, 1) := by decide +kernel
theorem dX11_goes_91 : decode cX11_goes 91 = .ok (.iaload, 1) := by decide +kernel
theorem dX11_goes_92 : decode cX11_goes 92 = .ok (.iadd, 1) := by decide +kernel
theorem dX11_goes_93 : decode cX11_goes 93 = .ok (.iadd, 1) := by decide +kernel
theorem dX11_goes_94 : decode cX11_goes 94 = .ok (.invokestatic 359, 3) := by decide +kernel
theorem dX11_goes_97 : decode cX11_goes 97 = .ok (.ifCond .ne 8, 3) := by decide +kernel
theorem dX11_goes_100 : decode cX11_goes 100 = .ok (.iload 4, 2) := by decide +kernel
theorem dX11_goes_102 : decode cX11_goes 102 = .ok (.ifCond .eq 7, 3) := by decide +kernel
theorem dX11_goes_105 : decode cX11_goes 105 = .ok (.iconst 1, 1) := by decide +kernel
theorem dX11_goes_106 : decode cX11_goes 106 = .ok (.goto 4, 3) := by decide +kernel
theorem dX11_goes_109 : decode cX11_goes 109 = .ok (.iconst 0, 1) := by decide +kernel
theorem dX11_goes_110 : decode cX11_goes 110 = .ok (.istore 4, 2) := by decide +kernel
theorem dX11_goes_112 : decode cX11_goes 112 = .ok (.iinc 6 1, 3) := by decide +kernel
theorem dX11_goes_115 : decode cX11_goes 115 = .ok (.goto (-79), 3) := by decide +kernel
theorem dX11_goes_118 : decode cX11_goes 118 = .ok (.iload 5, 2) := by decide +kernel
theorem dX11_goes_120 : decode cX11_goes 120 = .ok (.aload_n 0, 1) := by decide +kernel
theorem dX11_goes_121 : decode cX11_goes 121 = .ok (.getfield 54, 3) := by decide +kernel
theorem dX11_goes_124 : decode cX11_goes 124 = .ok (.bipush 41, 2) := by decide +kernel
theorem dX11_goes_126 : decode cX11_goes 126 = .ok (.iload_n 1, 1) := by decide +kernel
theorem dX11_goes_127 : decode cX11_goes 127 = .ok (.imul, 1) := by decide +kernel
theorem dX11_goes_128 : decode cX11_goes 128 = .ok (.iload_n 2, 1) := by decide +kernel
theorem dX11_goes_129 : decode cX11_goes 129 = .ok (.iadd, 1) := by decide +kernel
theorem dX11_goes_130 : decode cX11_goes 130 = .ok (.iaload, 1) := by decide +kernel
theorem dX11_goes_131 : decode cX11_goes 131 = .ok (.if_icmp .ge 8, 3) := by decide +kernel
theorem dX11_goes_134 : decode cX11_goes 134 = .ok (.iload 5, 2) := by decide +kernel
theorem dX11_goes_136 : decode cX11_goes 136 = .ok (.goto 14, 3) := by decide +kernel
theorem dX11_goes_139 : decode cX11_goes 139 = .ok (.aload_n 0, 1) := by decide +kernel
theorem dX11_goes_140 : decode cX11_goes 140 = .ok (.getfield 54, 3) := by decide +kernel
theorem dX11_goes_143 : decode cX11_goes 143 = .ok (.bipush 41, 2) := by decide +kernel
theorem dX11_goes_145 : decode cX11_goes 145 = .ok (.iload_n 1, 1) := by decide +kernel
theorem dX11_goes_146 : decode cX11_goes 146 = .ok (.imul, 1) := by decide +kernel
theorem dX11_goes_147 : decode cX11_goes 147 = .ok (.iload_n 2, 1) := by decide +kernel
theorem dX11_goes_148 : decode cX11_goes 148 = .ok (.iadd, 1) := by decide +kernel
theorem dX11_goes_149 : decode cX11_goes 149 = .ok (.iaload, 1) := by decide +kernel
theorem dX11_goes_150 : decode cX11_goes 150 = .ok (.istore 6, 2) := by decide +kernel
theorem dX11_goes_152 : decode cX11_goes 152 = .ok (.iconst 0, 1) := by decide +kernel
theorem dX11_goes_153 : decode cX11_goes 153 = .ok (.istore 7, 2) := by decide +kernel
theorem dX11_goes_155 : decode cX11_goes 155 = .ok (.iload 7, 2) := by decide +kernel
theorem dX11_goes_157 : decode cX11_goes 157 = .ok (.aload_n 0, 1) := by decide +kernel
theorem dX11_goes_158 : decode cX11_goes 158 = .ok (.getfield 20, 3) := by decide +kernel
theorem dX11_goes_161 : decode cX11_goes 161 = .ok (.iconst 5, 1) := by decide +kernel
theorem dX11_goes_162 : decode cX11_goes 162 = .ok (.iaload, 1) := by decide +kernel
theorem dX11_goes_163 : decode cX11_goes 163 = .ok (.if_icmp .ge 101, 3) := by decide +kernel
theorem dX11_goes_166 : decode cX11_goes 166 = .ok (.iload 6, 2) := by decide +kernel
theorem dX11_goes_168 : decode cX11_goes 168 = .ok (.ldc_w 287, 3) := by decide +kernel
theorem dX11_goes_171 : decode cX11_goes 171 = .ok (.if_icmp .ge 93, 3) := by decide +kernel
theorem dX11_goes_174 : decode cX11_goes 174 = .ok (.aload_n 0, 1) := by decide +kernel
theorem dX11_goes_175 : decode cX11_goes 175 = .ok (.iload_n 1, 1) := by decide +kernel
theorem dX11_goes_176 : decode cX11_goes 176 = .ok (.iload 7, 2) := by decide +kernel
theorem dX11_goes_178 : decode cX11_goes 178 = .ok (.invokevirtual 263, 3) := by decide +kernel
theorem dX11_goes_181 : decode cX11_goes 181 = .ok (.ifCond .le 77, 3) := by decide +kernel
theorem dX11_goes_184 : decode cX11_goes 184 = .ok (.aload_n 0, 1) := by decide +kernel
theorem dX11_goes_185 : decode cX11_goes 185 = .ok (.iload_n 1, 1) := by decide +kernel
theorem dX11_goes_186 : decode cX11_goes 186 = .ok (.iload 7, 2) := by decide +kernel
theorem dX11_goes_188 : decode cX11_goes 188 = .ok (.invokevirtual 263, 3) := by decide +kernel
theorem dX11_goes_191 : decode cX11_goes 191 = .ok (.iload_n 2, 1) := by decide +kernel
theorem dX11_goes_192 : decode cX11_goes 192 = .ok (.if_icmp .gt 66, 3) := by decide +kernel
theorem dX11_goes_195 : decode cX11_goes 195 = .ok (.aload_n 0, 1) := by decide +kernel
theorem dX11_goes_196 : decode cX11_goes 196 = .ok (.getfield 51, 3) := by decide +kernel
theorem dX11_goes_199 : decode cX11_goes 199 = .ok (.bipush 41, 2) := by decide +kernel
theorem dX11_goes_201 : decode cX11_goes 201 = .ok (.iload 7, 2) := by decide +kernel
theorem dX11_goes_203 : decode cX11_goes 203 = .ok (.imul, 1) := by decide +kernel
theorem dX11_goes_204 : decode cX11_goes 204 = .ok (.iload_n 2, 1) := by decide +kernel
theorem dX11_goes_205 : decode cX11_goes 205 = .ok (.iadd, 1) := by decide +kernel
theorem dX11_goes_206 : decode cX11_goes 206 = .ok (.aload_n 0, 1) := by decide +kernel
theorem dX11_goes_207 : decode cX11_goes 207 = .ok (.iload_n 1, 1) := by decide +kernel
theorem dX11_goes_208 : decode cX11_goes 208 = .ok (.iload 7, 2) := by decide +kernel
theorem dX11_goes_210 : decode cX11_goes 210 = .ok (.invokevirtual 263, 3) := by decide +kernel
theorem dX11_goes_213 : decode cX11_goes 213 = .ok (.isub, 1) := by decide +kernel
theorem dX11_goes_214 : decode cX11_goes 214 = .ok (.iload 6, 2) := by decide +kernel
theorem dX11_goes_216 : decode cX11_goes 216 = .ok (.iload_n 3, 1) := by decide +kernel
theorem dX11_goes_217 : decode cX11_goes 217 = .ok (.ifCond .eq 21, 3) := by decide +kernel
theorem dX11_goes_220 : decode cX11_goes 220 = .ok (.aload_n 0, 1) := by decide +kernel
theorem dX11_goes_221 : decode cX11_goes 221 = .ok (.getfield 20, 3) := by decide +kernel
theorem dX11_goes_224 : decode cX11_goes 224 = .ok (.bipush 119, 2) := by decide +kernel
theorem dX11_goes_226 : decode cX11_goes 226 = .ok (.bipush 9, 2) := by decide +kernel
theorem dX11_goes_228 : decode cX11_goes 228 = .ok (.iload_n 1, 1) := by decide +kernel
theorem dX11_goes_229 : decode cX11_goes 229 = .ok (.imul, 1) := by decide +kernel
theorem dX11_goes_230 : decode cX11_goes 230 = .ok (.iadd, 1) := by decide +kernel
theorem dX11_goes_231 : decode cX11_goes 231 = .ok (.iload 7, 2) := by decide +kernel
theorem dX11_goes_233 : decode cX11_goes 233 = .ok (.iadd, 1) := by decide +kernel
theorem dX11_goes_234 : decode cX11_goes 234 = .ok (.iaload, 1) := by decide +kernel
theorem dX11_goes_235 : decode cX11_goes 235 = .ok (.goto 4, 3) := by decide +kernel
theorem dX11_goes_238 : decode cX11_goes 238 = .ok (.iconst 0, 1) := by decide +kernel
theorem dX11_goes_239 : decode cX11_goes 239 = .ok (.iadd, 1) := by decide +kernel
theorem dX11_goes_240 : decode cX11_goes 240 = .ok (.invokestatic 359, 3) := by decide +kernel
theorem dX11_goes_243 : decode cX11_goes 243 = .ok (.ifCond .ne 8, 3) := by decide +kernel
theorem dX11_goes_246 : decode cX11_goes 246 = .ok (.iload 4, 2) := by decide +kernel
theorem dX11_goes_248 : decode cX11_goes 248 = .ok (.ifCond .eq 7, 3) := by decide +kernel
theorem dX11_goes_251 : decode cX11_goes 251 = .ok (.iconst 1, 1) := by decide +kernel
theorem dX11_goes_252 : decode cX11_goes 252 = .ok (.goto 4, 3) := by decide +kernel
theorem dX11_goes_255 : decode cX11_goes 255 = .ok (.iconst 0, 1) := by decide +kernel
theorem dX11_goes_256 : decode cX11_goes 256 = .ok (.istore 4, 2) := by decide +kernel
theorem dX11_goes_258 : decode cX11_goes 258 = .ok (.iinc 7 1, 3) := by decide +kernel
theorem dX11_goes_261 : decode cX11_goes 261 = .ok (.goto (-106), 3) := by decide +kernel
theorem dX11_goes_264 : decode cX11_goes 264 = .ok (.iload 4, 2) := by decide +kernel
theorem dX11_goes_266 : decode cX11_goes 266 = .ok (.ireturn, 1) := by decide +kernel
theorem dX11_netTo_0 : decode cX11_netTo 0 = .ok (.ldc_w 287, 3) := by decide +kernel
theorem dX11_netTo_3 : decode cX11_netTo 3 = .ok (.istore_n 2, 1) := by decide +kernel
theorem dX11_netTo_4 : decode cX11_netTo 4 = .ok (.iconst 0, 1) := by decide +kernel
theorem dX11_netTo_5 : decode cX11_netTo 5 = .ok (.istore_n 3, 1) := by decide +kernel
theorem dX11_netTo_6 : decode cX11_netTo 6 = .ok (.iload_n 3, 1) := by decide +kernel
theorem dX11_netTo_7 : decode cX11_netTo 7 = .ok (.aload_n 0, 1) := by decide +kernel
theorem dX11_netTo_8 : decode cX11_netTo 8 = .ok (.getfield 20, 3) := by decide +kernel
theorem dX11_netTo_11 : decode cX11_netTo 11 = .ok (.iconst 0, 1) := by decide +kernel
theorem dX11_netTo_12 : decode cX11_netTo 12 = .ok (.iaload, 1) := by decide +kernel
theorem dX11_netTo_13 : decode cX11_netTo 13 = .ok (.if_icmp .gt 40, 3) := by decide +kernel
theorem dX11_netTo_16 : decode cX11_netTo 16 = .ok (.aload_n 0, 1) := by decide +kernel
theorem dX11_netTo_17 : decode cX11_netTo 17 = .ok (.getfield 51, 3) := by decide +kernel
theorem dX11_netTo_20 : decode cX11_netTo 20 = .ok (.bipush 41, 2) := by decide +kernel
theorem dX11_netTo_22 : decode cX11_netTo 22 = .ok (.iload_n 1, 1) := by decide +kernel
theorem dX11_netTo_23 : decode cX11_netTo 23 = .ok (.imul, 1) := by decide +kernel
theorem dX11_netTo_24 : decode cX11_netTo 24 = .ok (.iload_n 3, 1) := by decide +kernel
theorem dX11_netTo_25 : decode cX11_netTo 25 = .ok (.iadd, 1) := by decide +kernel
theorem dX11_netTo_26 : decode cX11_netTo 26 = .ok (.iaload, 1) := by decide +kernel
theorem dX11_netTo_27 : decode cX11_netTo 27 = .ok (.iload_n 2, 1) := by decide +kernel
theorem dX11_netTo_28 : decode cX11_netTo 28 = .ok (.if_icmp .ge 17, 3) := by decide +kernel
theorem dX11_netTo_31 : decode cX11_netTo 31 = .ok (.aload_n 0, 1) := by decide +kernel
theorem dX11_netTo_32 : decode cX11_netTo 32 = .ok (.getfield 51, 3) := by decide +kernel
theorem dX11_netTo_35 : decode cX11_netTo 35 = .ok (.bipush 41, 2) := by decide +kernel
theorem dX11_netTo_37 : decode cX11_netTo 37 = .ok (.iload_n 1, 1) := by decide +kernel
theorem dX11_netTo_38 : decode cX11_netTo 38 = .ok (.imul, 1) := by decide +kernel
theorem dX11_netTo_39 : decode cX11_netTo 39 = .ok (.iload_n 3, 1) := by decide +kernel
theorem dX11_netTo_40 : decode cX11_netTo 40 = .ok (.iadd, 1) := by decide +kernel
theorem dX11_netTo_41 : decode cX11_netTo 41 = .ok (.iaload, 1) := by decide +kernel
theorem dX11_netTo_42 : decode cX11_netTo 42 = .ok (.goto 4, 3) := by decide +kernel
theorem dX11_netTo_45 : decode cX11_netTo 45 = .ok (.iload_n 2, 1) := by decide +kernel
theorem dX11_netTo_46 : decode cX11_netTo 46 = .ok (.istore_n 2, 1) := by decide +kernel
theorem dX11_netTo_47 : decode cX11_netTo 47 = .ok (.iinc 3 1, 3) := by decide +kernel
theorem dX11_netTo_50 : decode cX11_netTo 50 = .ok (.goto (-44), 3) := by decide +kernel
theorem dX11_netTo_53 : decode cX11_netTo 53 = .ok (.iload_n 2, 1) := by decide +kernel
theorem dX11_netTo_54 : decode cX11_netTo 54 = .ok (.ldc_w 287, 3) := by decide +kernel
theorem dX11_netTo_57 : decode cX11_netTo 57 = .ok (.if_icmp .ne 8, 3) := by decide +kernel
theorem dX11_netTo_60 : decode cX11_netTo 60 = .ok (.bipush (-2), 2) := by decide +kernel
theorem dX11_netTo_62 : decode cX11_netTo 62 = .ok (.goto 4, 3) := by decide +kernel
theorem dX11_netTo_65 : decode cX11_netTo 65 = .ok (.iload_n 2, 1) := by decide +kernel
theorem dX11_netTo_66 : decode cX11_netTo 66 = .ok (.ireturn, 1) := by decide +kernel
theorem dX11_net_0 : decode cX11_net 0 = .ok (.aload_n 0, 1) := by decide +kernel
theorem dX11_net_1 : decode cX11_net 1 = .ok (.invokevirtual 176, 3) := by decide +kernel
theorem dX11_net_4 : decode cX11_net 4 = .ok (.aload_n 0, 1) := by decide +kernel
theorem dX11_net_5 : decode cX11_net 5 = .ok (.getfield 189, 3) := by decide +kernel
theorem dX11_net_8 : decode cX11_net 8 = .ok (.ifCond .ne 9, 3) := by decide +kernel
theorem dX11_net_11 : decode cX11_net 11 = .ok (.aload_n 0, 1) := by decide +kernel
theorem dX11_net_12 : decode cX11_net 12 = .ok (.iconst 1, 1) := by decide +kernel
theorem dX11_net_13 : decode cX11_net 13 = .ok (.invokevirtual 179, 3) := by decide +kernel
theorem dX11_net_16 : decode cX11_net 16 = .ok (.ireturn, 1) := by decide +kernel
theorem dX11_net_17 : decode cX11_net 17 = .ok (.aload_n 0, 1) := by decide +kernel
theorem dX11_net_18 : decode cX11_net 18 = .ok (.iload_n 1, 1) := by decide +kernel
theorem dX11_net_19 : decode cX11_net 19 = .ok (.invokevirtual 363, 3) := by decide +kernel
theorem dX11_net_22 : decode cX11_net 22 = .ok (.aload_n 0, 1) := by decide +kernel
theorem dX11_net_23 : decode cX11_net 23 = .ok (.aload_n 0, 1) := by decide +kernel
theorem dX11_net_24 : decode cX11_net 24 = .ok (.aload_n 0, 1) := by decide +kernel
theorem dX11_net_25 : decode cX11_net 25 = .ok (.invokevirtual 254, 3) := by decide +kernel
theorem dX11_net_28 : decode cX11_net 28 = .ok (.invokevirtual 257, 3) := by decide +kernel
theorem dX11_net_31 : decode cX11_net 31 = .ok (.invokevirtual 367, 3) := by decide +kernel
theorem dX11_net_34 : decode cX11_net 34 = .ok (.ireturn, 1) := by decide +kernel
theorem dX11_most_0 : decode cX11_most 0 = .ok (.aload_n 0, 1) := by decide +kernel
theorem dX11_most_1 : decode cX11_most 1 = .ok (.invokevirtual 176, 3) := by decide +kernel
theorem dX11_most_4 : decode cX11_most 4 = .ok (.aload_n 0, 1) := by decide +kernel
theorem dX11_most_5 : decode cX11_most 5 = .ok (.iload_n 1, 1) := by decide +kernel
theorem dX11_most_6 : decode cX11_most 6 = .ok (.invokevirtual 269, 3) := by decide +kernel
theorem dX11_most_9 : decode cX11_most 9 = .ok (.ifCond .ne 9, 3) := by decide +kernel
theorem dX11_most_12 : decode cX11_most 12 = .ok (.aload_n 0, 1) := by decide +kernel
theorem dX11_most_13 : decode cX11_most 13 = .ok (.iconst 1, 1) := by decide +kernel
theorem dX11_most_14 : decode cX11_most 14 = .ok (.invokevirtual 179, 3) := by decide +kernel
theorem dX11_most_17 : decode cX11_most 17 = .ok (.ireturn, 1) := by decide +kernel
theorem dX11_most_18 : decode cX11_most 18 = .ok (.aload_n 0, 1) := by decide +kernel
theorem dX11_most_19 : decode cX11_most 19 = .ok (.iconst 1, 1) := by decide +kernel
theorem dX11_most_20 : decode cX11_most 20 = .ok (.invokevirtual 363, 3) := by decide +kernel
theorem dX11_most_23 : decode cX11_most 23 = .ok (.aload_n 0, 1) := by decide +kernel
theorem dX11_most_24 : decode cX11_most 24 = .ok (.getfield 20, 3) := by decide +kernel
theorem dX11_most_27 : decode cX11_most 27 = .ok (.iconst 0, 1) := by decide +kernel
theorem dX11_most_28 : decode cX11_most 28 = .ok (.iaload, 1) := by decide +kernel
theorem dX11_most_29 : decode cX11_most 29 = .ok (.istore_n 2, 1) := by decide +kernel
theorem dX11_most_30 : decode cX11_most 30 = .ok (.iload_n 2, 1) := by decide +kernel
theorem dX11_most_31 : decode cX11_most 31 = .ok (.ifCond .lt 45, 3) := by decide +kernel
theorem dX11_most_34 : decode cX11_most 34 = .ok (.aload_n 0, 1) := by decide +kernel
theorem dX11_most_35 : decode cX11_most 35 = .ok (.getfield 51, 3) := by decide +kernel
theorem dX11_most_38 : decode cX11_most 38 = .ok (.bipush 41, 2) := by decide +kernel
theorem dX11_most_40 : decode cX11_most 40 = .ok (.iload_n 1, 1) := by decide +kernel
theorem dX11_most_41 : decode cX11_most 41 = .ok (.imul, 1) := by decide +kernel
theorem dX11_most_42 : decode cX11_most 42 = .ok (.iload_n 2, 1) := by decide +kernel
theorem dX11_most_43 : decode cX11_most 43 = .ok (.iadd, 1) := by decide +kernel
theorem dX11_most_44 : decode cX11_most 44 = .ok (.iaload, 1) := by decide +kernel
theorem dX11_most_45 : decode cX11_most 45 = .ok (.ldc_w 287, 3) := by decide +kernel
theorem dX11_most_48 : decode cX11_most 48 = .ok (.if_icmp .lt 20, 3) := by decide +kernel
theorem dX11_most_51 : decode cX11_most 51 = .ok (.aload_n 0, 1) := by decide +kernel
theorem dX11_most_52 : decode cX11_most 52 = .ok (.getfield 54, 3) := by decide +kernel
theorem dX11_most_55 : decode cX11_most 55 = .ok (.bipush 41, 2) := by decide +kernel
theorem dX11_most_57 : decode cX11_most 57 = .ok (.iload_n 1, 1) := by decide +kernel
theorem dX11_most_58 : decode cX11_most 58 = .ok (.imul, 1) := by decide +kernel
theorem dX11_most_59 : decode cX11_most 59 = .ok (.iload_n 2, 1) := by decide +kernel
theorem dX11_most_60 : decode cX11_most 60 = .ok (.iadd, 1) := by decide +kernel
theorem dX11_most_61 : decode cX11_most 61 = .ok (.iaload, 1) := by decide +kernel
theorem dX11_most_62 : decode cX11_most 62 = .ok (.ldc_w 287, 3) := by decide +kernel
theorem dX11_most_65 : decode cX11_most 65 = .ok (.if_icmp .ge 5, 3) := by decide +kernel
theorem dX11_most_68 : decode cX11_most 68 = .ok (.iload_n 2, 1) := by decide +kernel
theorem dX11_most_69 : decode cX11_most 69 = .ok (.ireturn, 1) := by decide +kernel
theorem dX11_most_70 : decode cX11_most 70 = .ok (.iinc 2 (-1), 3) := by decide +kernel
theorem dX11_most_73 : decode cX11_most 73 = .ok (.goto (-43), 3) := by decide +kernel
theorem dX11_most_76 : decode cX11_most 76 = .ok (.bipush (-2), 2) := by decide +kernel
theorem dX11_most_78 : decode cX11_most 78 = .ok (.ireturn, 1) := by decide +kernel
theorem dX11_worth_0 : decode cX11_worth 0 = .ok (.aload_n 0, 1) := by decide +kernel
theorem dX11_worth_1 : decode cX11_worth 1 = .ok (.invokevirtual 176, 3) := by decide +kernel
theorem dX11_worth_4 : decode cX11_worth 4 = .ok (.aload_n 0, 1) := by decide +kernel
theorem dX11_worth_5 : decode cX11_worth 5 = .ok (.getfield 189, 3) := by decide +kernel
theorem dX11_worth_8 : decode cX11_worth 8 = .ok (.ifCond .ne 9, 3) := by decide +kernel
theorem dX11_worth_11 : decode cX11_worth 11 = .ok (.aload_n 0, 1) := by decide +kernel
theorem dX11_worth_12 : decode cX11_worth 12 = .ok (.iconst 1, 1) := by decide +kernel
theorem dX11_worth_13 : decode cX11_worth 13 = .ok (.invokevirtual 179, 3) := by decide +kernel
theorem dX11_worth_16 : decode cX11_worth 16 = .ok (.ireturn, 1) := by decide +kernel
theorem dX11_worth_17 : decode cX11_worth 17 = .ok (.aload_n 0, 1) := by decide +kernel
theorem dX11_worth_18 : decode cX11_worth 18 = .ok (.iconst 0, 1) := by decide +kernel
theorem dX11_worth_19 : decode cX11_worth 19 = .ok (.iconst (-1), 1) := by decide +kernel
theorem dX11_worth_20 : decode cX11_worth 20 = .ok (.invokevirtual 288, 3) := by decide +kernel
theorem dX11_worth_23 : decode cX11_worth 23 = .ok (.aload_n 0, 1) := by decide +kernel
theorem dX11_worth_24 : decode cX11_worth 24 = .ok (.aload_n 0, 1) := by decide +kernel
theorem dX11_worth_25 : decode cX11_worth 25 = .ok (.getfield 20, 3) := by decide +kernel
theorem dX11_worth_28 : decode cX11_worth 28 = .ok (.iconst 1, 1) := by decide +kernel
theorem dX11_worth_29 : decode cX11_worth 29 = .ok (.iaload, 1) := by decide +kernel
theorem dX11_worth_30 : decode cX11_worth 30 = .ok (.invokevirtual 292, 3) := by decide +kernel
theorem dX11_worth_33 : decode cX11_worth 33 = .ok (.istore_n 1, 1) := by decide +kernel
theorem dX11_worth_34 : decode cX11_worth 34 = .ok (.aload_n 0, 1) := by decide +kernel
theorem dX11_worth_35 : decode cX11_worth 35 = .ok (.iconst 0, 1) := by decide +kernel
theorem dX11_worth_36 : decode cX11_worth 36 = .ok (.invokevirtual 363, 3) := by decide +kernel
theorem dX11_worth_39 : decode cX11_worth 39 = .ok (.aload_n 0, 1) := by decide +kernel
theorem dX11_worth_40 : decode cX11_worth 40 = .ok (.aload_n 0, 1) := by decide +kernel
theorem dX11_worth_41 : decode cX11_worth 41 = .ok (.aload_n 0, 1) := by decide +kernel
theorem dX11_worth_42 : decode cX11_worth 42 = .ok (.invokevirtual 254, 3) := by decide +kernel
theorem dX11_worth_45 : decode cX11_worth 45 = .ok (.invokevirtual 257, 3) := by decide +kernel
theorem dX11_worth_48 : decode cX11_worth 48 = .ok (.invokevirtual 367, 3) := by decide +kernel
theorem dX11_worth_51 : decode cX11_worth 51 = .ok (.istore_n 2, 1) := by decide +kernel
theorem dX11_worth_52 : decode cX11_worth 52 = .ok (.iload_n 1, 1) := by decide +kernel
theorem dX11_worth_53 : decode cX11_worth 53 = .ok (.bipush (-2), 2) := by decide +kernel
theorem dX11_worth_55 : decode cX11_worth 55 = .ok (.if_icmp .eq 9, 3) := by decide +kernel
theorem dX11_worth_58 : decode cX11_worth 58 = .ok (.iload_n 2, 1) := by decide +kernel
theorem dX11_worth_59 : decode cX11_worth 59 = .ok (.bipush (-2), 2) := by decide +kernel
theorem dX11_worth_61 : decode cX11_worth 61 = .ok (.if_icmp .ne 8, 3) := by decide +kernel
theorem dX11_worth_64 : decode cX11_worth 64 = .ok (.bipush (-2), 2) := by decide +kernel
theorem dX11_worth_66 : decode cX11_worth 66 = .ok (.goto 6, 3) := by decide +kernel
theorem dX11_worth_69 : decode cX11_worth 69 = .ok (.iload_n 1, 1) := by decide +kernel
theorem dX11_worth_70 : decode cX11_worth 70 = .ok (.iload_n 2, 1) := by decide +kernel
theorem dX11_worth_71 : decode cX11_worth 71 = .ok (.isub, 1) := by decide +kernel
theorem dX11_worth_72 : decode cX11_worth 72 = .ok (.ireturn, 1) := by decide +kernel
theorem dX11_near_0 : decode cX11_near 0 = .ok (.aload_n 0, 1) := by decide +kernel
theorem dX11_near_1 : decode cX11_near 1 = .ok (.invokevirtual 176, 3) := by decide +kernel
theorem dX11_near_4 : decode cX11_near 4 = .ok (.aload_n 0, 1) := by decide +kernel
theorem dX11_near_5 : decode cX11_near 5 = .ok (.iload_n 1, 1) := by decide +kernel
theorem dX11_near_6 : decode cX11_near 6 = .ok (.invokevirtual 269, 3) := by decide +kernel
theorem dX11_near_9 : decode cX11_near 9 = .ok (.ifCond .eq 16, 3) := by decide +kernel
theorem dX11_near_12 : decode cX11_near 12 = .ok (.aload_n 0, 1) := by decide +kernel
theorem dX11_near_13 : decode cX11_near 13 = .ok (.iload_n 2, 1) := by decide +kernel
theorem dX11_near_14 : decode cX11_near 14 = .ok (.invokevirtual 269, 3) := by decide +kernel
theorem dX11_near_17 : decode cX11_near 17 = .ok (.ifCond .eq 8, 3) := by decide +kernel
theorem dX11_near_20 : decode cX11_near 20 = .ok (.iload_n 1, 1) := by decide +kernel
theorem dX11_near_21 : decode cX11_near 21 = .ok (.iload_n 2, 1) := by decide +kernel
theorem dX11_near_22 : decode cX11_near 22 = .ok (.if_icmp .ne 9, 3) := by decide +kernel
theorem dX11_near_25 : decode cX11_near 25 = .ok (.aload_n 0, 1) := by decide +kernel
theorem dX11_near_26 : decode cX11_near 26 = .ok (.iconst 1, 1) := by decide +kernel
theorem dX11_near_27 : decode cX11_near 27 = .ok (.invokevirtual 179, 3) := by decide +kernel
theorem dX11_near_30 : decode cX11_near 30 = .ok (.ireturn, 1) := by decide +kernel
theorem dX11_near_31 : decode cX11_near 31 = .ok (.iconst 0, 1) := by decide +kernel
theorem dX11_near_32 : decode cX11_near 32 = .ok (.istore_n 3, 1) := by decide +kernel
theorem dX11_near_33 : decode cX11_near 33 = .ok (.iload_n 3, 1) := by decide +kernel
theorem dX11_near_34 : decode cX11_near 34 = .ok (.bipush 9, 2) := by decide +kernel
theorem dX11_near_36 : decode cX11_near 36 = .ok (.if_icmp .ge 27, 3) := by decide +kernel
theorem dX11_near_39 : decode cX11_near 39 = .ok (.aload_n 0, 1) := by decide +kernel
theorem dX11_near_40 : decode cX11_near 40 = .ok (.getfield 57, 3) := by decide +kernel
theorem dX11_near_43 : decode cX11_near 43 = .ok (.iload_n 3, 1) := by decide +kernel
theorem dX11_near_44 : decode cX11_near 44 = .ok (.iload_n 3, 1) := by decide +kernel
theorem dX11_near_45 : decode cX11_near 45 = .ok (.iload_n 1, 1) := by decide +kernel
theorem dX11_near_46 : decode cX11_near 46 = .ok (.if_icmp .ne 7, 3) := by decide +kernel
theorem dX11_near_49 : decode cX11_near 49 = .ok (.iconst 0, 1) := by decide +kernel
theorem dX11_near_50 : decode cX11_near 50 = .ok (.goto 6, 3) := by decide +kernel
theorem dX11_near_53 : decode cX11_near 53 = .ok (.ldc_w 287, 3) := by decide +kernel
theorem dX11_near_56 : decode cX11_near 56 = .ok (.iastore, 1) := by decide +kernel
theorem dX11_near_57 : decode cX11_near 57 = .ok (.iinc 3 1, 3) := by decide +kernel
theorem dX11_near_60 : decode cX11_near 60 = .ok (.goto (-27), 3) := by decide +kernel
theorem dX11_near_63 : decode cX11_near 63 = .ok (.iconst 0, 1) := by decide +kernel
theorem dX11_near_64 : decode cX11_near 64 = .ok (.istore_n 3, 1) := by decide +kernel
theorem dX11_near_65 : decode cX11_near 65 = .ok (.iload_n 3, 1) := by decide +kernel
theorem dX11_near_66 : decode cX11_near 66 = .ok (.bipush 9, 2) := by decide +kernel
theorem dX11_near_68 : decode cX11_near 68 = .ok (.if_icmp .ge 91, 3) := by decide +kernel
theorem dX11_near_71 : decode cX11_near 71 = .ok (.iconst 0, 1) := by decide +kernel
theorem dX11_near_72 : decode cX11_near 72 = .ok (.istore 4, 2) := by decide +kernel
theorem dX11_near_74 : decode cX11_near 74 = .ok (.iload 4, 2) := by decide +kernel
theorem dX11_near_76 : decode cX11_near 76 = .ok (.bipush 9, 2) := by decide +kernel
theorem dX11_near_78 : decode cX11_near 78 = .ok (.if_icmp .ge 75, 3) := by decide +kernel
theorem dX11_near_81 : decode cX11_near 81 = .ok (.iconst 0, 1) := by decide +kernel
theorem dX11_near_82 : decode cX11_near 82 = .ok (.istore 5, 2) := by decide +kernel
theorem dX11_near_84 : decode cX11_near 84 = .ok (.iload 5, 2) := by decide +kernel
theorem dX11_near_86 : decode cX11_near 86 = .ok (.bipush 9, 2) := by decide +kernel
theorem dX11_near_88 : decode cX11_near 88 = .ok (.if_icmp .ge 59, 3) := by decide +kernel
theorem dX11_near_91 : decode cX11_near 91 = .ok (.aload_n 0, 1) := by decide +kernel
theorem dX11_near_92 : decode cX11_near 92 = .ok (.getfield 57, 3) := by decide +kernel
theorem dX11_near_95 : decode cX11_near 95 = .ok (.iload 4, 2) := by decide +kernel
theorem dX11_near_97 : decode cX11_near 97 = .ok (.iaload, 1) := by decide +kernel
theorem dX11_near_98 : decode cX11_near 98 = .ok (.ldc_w 287, 3) := by decide +kernel
theorem dX11_near_101 : decode cX11_near 101 = .ok (.if_icmp .ge 40, 3) := by decide +kernel
theorem dX11_near_104 : decode cX11_near 104 = .ok (.aload_n 0, 1) := by decide +kernel
theorem dX11_near_105 : decode cX11_near 105 = .ok (.iload 4, 2) := by decide +kernel
theorem dX11_near_107 : decode cX11_near 107 = .ok (.iload 5, 2) := by decide +kernel
theorem dX11_near_109 : decode cX11_near 109 = .ok (.invokevirtual 263, 3) := by decide +kernel
theorem dX11_near_112 : decode cX11_near 112 = .ok (.ifCond .le 29, 3) := by decide +kernel
theorem dX11_near_115 : decode cX11_near 115 = .ok (.aload_n 0, 1) := by decide +kernel
theorem dX11_near_116 : decode cX11_near 116 = .ok (.getfield 57, 3) := by decide +kernel
theorem dX11_near_119 : decode cX11_near 119 = .ok (.iload 5, 2) := by decide +kernel
theorem dX11_near_121 : decode cX11_near 121 = .ok (.aload_n 0, 1) := by decide +kernel
theorem dX11_near_122 : decode cX11_near 122 = .ok (.getfield 57, 3) := by decide +kernel
theorem dX11_near_125 : decode cX11_near 125 = .ok (.iload 4, 2) := by decide +kernel
theorem dX11_near_127 : decode cX11_near 127 = .ok (.iaload, 1) := by decide +kernel
theorem dX11_near_128 : decode cX11_near 128 = .ok (.aload_n 0, 1) := by decide +kernel
theorem dX11_near_129 : decode cX11_near 129 = .ok (.iload 4, 2) := by decide +kernel
theorem dX11_near_131 : decode cX11_near 131 = .ok (.iload 5, 2) := by decide +kernel
theorem dX11_near_133 : decode cX11_near 133 = .ok (.invokevirtual 263, 3) := by decide +kernel
theorem dX11_near_136 : decode cX11_near 136 = .ok (.iadd, 1) := by decide +kernel
theorem dX11_near_137 : decode cX11_near 137 = .ok (.invokestatic 359, 3) := by decide +kernel
theorem dX11_near_140 : decode cX11_near 140 = .ok (.pop, 1) := by decide +kernel
theorem dX11_near_141 : decode cX11_near 141 = .ok (.iinc 5 1, 3) := by decide +kernel
theorem dX11_near_144 : decode cX11_near 144 = .ok (.goto (-60), 3) := by decide +kernel
theorem dX11_near_147 : decode cX11_near 147 = .ok (.iinc 4 1, 3) := by decide +kernel
theorem dX11_near_150 : decode cX11_near 150 = .ok (.goto (-76), 3) := by decide +kernel
theorem dX11_near_153 : decode cX11_near 153 = .ok (.iinc 3 1, 3) := by decide +kernel
theorem dX11_near_156 : decode cX11_near 156 = .ok (.goto (-91), 3) := by decide +kernel
theorem dX11_near_159 : decode cX11_near 159 = .ok (.aload_n 0, 1) := by decide +kernel
theorem dX11_near_160 : decode cX11_near 160 = .ok (.getfield 57, 3) := by decide +kernel
theorem dX11_near_163 : decode cX11_near 163 = .ok (.iload_n 2, 1) := by decide +kernel
theorem dX11_near_164 : decode cX11_near 164 = .ok (.iaload, 1) := by decide +kernel
theorem dX11_near_165 : decode cX11_near 165 = .ok (.ldc_w 287, 3) := by decide +kernel
theorem dX11_near_168 : decode cX11_near 168 = .ok (.if_icmp .ne 8, 3) := by decide +kernel
theorem dX11_near_171 : decode cX11_near 171 = .ok (.bipush (-2), 2) := by decide +kernel
theorem dX11_near_173 : decode cX11_near 173 = .ok (.goto 9, 3) := by decide +kernel
theorem dX11_near_176 : decode cX11_near 176 = .ok (.aload_n 0, 1) := by decide +kernel
theorem dX11_near_177 : decode cX11_near 177 = .ok (.getfield 57, 3) := by decide +kernel
theorem dX11_near_180 : decode cX11_near 180 = .ok (.iload_n 2, 1) := by decide +kernel
theorem dX11_near_181 : decode cX11_near 181 = .ok (.iaload, 1) := by decide +kernel
theorem dX11_near_182 : decode cX11_near 182 = .ok (.ireturn, 1) := by decide +kernel
theorem dX11_layParts_0 : decode cX11_layParts 0 = .ok (.aload_n 0, 1) := by decide +kernel
theorem dX11_layParts_1 : decode cX11_layParts 1 = .ok (.lconst 0, 1) := by decide +kernel
theorem dX11_layParts_2 : decode cX11_layParts 2 = .ok (.putfield 370, 3) := by decide +kernel
theorem dX11_layParts_5 : decode cX11_layParts 5 = .ok (.aload_n 0, 1) := by decide +kernel
theorem dX11_layParts_6 : decode cX11_layParts 6 = .ok (.lconst 1, 1) := by decide +kernel
theorem dX11_layParts_7 : decode cX11_layParts 7 = .ok (.putfield 374, 3) := by decide +kernel
theorem dX11_layParts_10 : decode cX11_layParts 10 = .ok (.iload_n 1, 1) := by decide +kernel
theorem dX11_layParts_11 : decode cX11_layParts 11 = .ok (.istore 4, 2) := by decide +kernel
theorem dX11_layParts_13 : decode cX11_layParts 13 = .ok (.iload 4, 2) := by decide +kernel
theorem dX11_layParts_15 : decode cX11_layParts 15 = .ok (.iload_n 2, 1) := by decide +kernel
theorem dX11_layParts_16 : decode cX11_layParts 16 = .ok (.if_icmp .gt 84, 3) := by decide +kernel
theorem dX11_layParts_19 : decode cX11_layParts 19 = .ok (.aload_n 0, 1) := by decide +kernel
theorem dX11_layParts_20 : decode cX11_layParts 20 = .ok (.aload_n 0, 1) := by decide +kernel
theorem dX11_layParts_21 : decode cX11_layParts 21 = .ok (.getfield 370, 3) := by decide +kernel
theorem dX11_layParts_24 : decode cX11_layParts 24 = .ok (.iload 4, 2) := by decide +kernel
theorem dX11_layParts_26 : decode cX11_layParts 26 = .ok (.i2l, 1) := by decide +kernel
theorem dX11_layParts_27 : decode cX11_layParts 27 = .ok (.lmul, 1) := by decide +kernel
theorem dX11_layParts_28 : decode cX11_layParts 28 = .ok (.aload_n 0, 1) := by decide +kernel
theorem dX11_layParts_29 : decode cX11_layParts 29 = .ok (.getfield 20, 3) := by decide +kernel
theorem dX11_layParts_32 : decode cX11_layParts 32 = .ok (.iconst 0, 1) := by decide +kernel
theorem dX11_layParts_33 : decode cX11_layParts 33 = .ok (.iaload, 1) := by decide +kernel
theorem dX11_layParts_34 : decode cX11_layParts 34 = .ok (.i2l, 1) := by decide +kernel
theorem dX11_layParts_35 : decode cX11_layParts 35 = .ok (.aload_n 0, 1) := by decide +kernel
theorem dX11_layParts_36 : decode cX11_layParts 36 = .ok (.getfield 374, 3) := by decide +kernel
theorem dX11_layParts_39 : decode cX11_layParts 39 = .ok (.lmul, 1) := by decide +kernel
theorem dX11_layParts_40 : decode cX11_layParts 40 = .ok (.ladd, 1) := by decide +kernel
theorem dX11_layParts_41 : decode cX11_layParts 41 = .ok (.putfield 370, 3) := by decide +kernel
theorem dX11_layParts_44 : decode cX11_layParts 44 = .ok (.aload_n 0, 1) := by decide +kernel
theorem dX11_layParts_45 : decode cX11_layParts 45 = .ok (.dup, 1) := by decide +kernel
theorem dX11_layParts_46 : decode cX11_layParts 46 = .ok (.getfield 374, 3) := by decide +kernel
theorem dX11_layParts_49 : decode cX11_layParts 49 = .ok (.iload 4, 2) := by decide +kernel
theorem dX11_layParts_51 : decode cX11_layParts 51 = .ok (.i2l, 1) := by decide +kernel
theorem dX11_layParts_52 : decode cX11_layParts 52 = .ok (.lmul, 1) := by decide +kernel
theorem dX11_layParts_53 : decode cX11_layParts 53 = .ok (.putfield 374, 3) := by decide +kernel
theorem dX11_layParts_56 : decode cX11_layParts 56 = .ok (.aload_n 0, 1) := by decide +kernel
theorem dX11_layParts_57 : decode cX11_layParts 57 = .ok (.getfield 374, 3) := by decide +kernel
theorem dX11_layParts_60 : decode cX11_layParts 60 = .ok (.aload_n 0, 1) := by decide +kernel
theorem dX11_layParts_61 : decode cX11_layParts 61 = .ok (.getfield 370, 3) := by decide +kernel
theorem dX11_layParts_64 : decode cX11_layParts 64 = .ok (.invokestatic 72, 3) := by decide +kernel
theorem dX11_layParts_67 : decode cX11_layParts 67 = .ok (.lstore 5, 2) := by decide +kernel
theorem dX11_layParts_69 : decode cX11_layParts 69 = .ok (.aload_n 0, 1) := by decide +kernel
theorem dX11_layParts_70 : decode cX11_layParts 70 = .ok (.dup, 1) := by decide +kernel
theorem dX11_layParts_71 : decode cX11_layParts 71 = .ok (.getfield 370, 3) := by decide +kernel
theorem dX11_layParts_74 : decode cX11_layParts 74 = .ok (.lload 5, 2) := by decide +kernel
theorem dX11_layParts_76 : decode cX11_layParts 76 = .ok (.ldiv, 1) := by decide +kernel
theorem dX11_layParts_77 : decode cX11_layParts 77 = .ok (.putfield 370, 3) := by decide +kernel
theorem dX11_layParts_80 : decode cX11_layParts 80 = .ok (.aload_n 0, 1) := by decide +kernel
theorem dX11_layParts_81 : decode cX11_layParts 81 = .ok (.dup, 1) := by decide +kernel
theorem dX11_layParts_82 : decode cX11_layParts 82 = .ok (.getfield 374, 3) := by decide +kernel
theorem dX11_layParts_85 : decode cX11_layParts 85 = .ok (.lload 5, 2) := by decide +kernel
theorem dX11_layParts_87 : decode cX11_layParts 87 = .ok (.ldiv, 1) := by decide +kernel
theorem dX11_layParts_88 : decode cX11_layParts 88 = .ok (.putfield 374, 3) := by decide +kernel
theorem dX11_layParts_91 : decode cX11_layParts 91 = .ok (.iload 4, 2) := by decide +kernel
theorem dX11_layParts_93 : decode cX11_layParts 93 = .ok (.iload_n 3, 1) := by decide +kernel
theorem dX11_layParts_94 : decode cX11_layParts 94 = .ok (.iadd, 1) := by decide +kernel
theorem dX11_layParts_95 : decode cX11_layParts 95 = .ok (.istore 4, 2) := by decide +kernel
theorem dX11_layParts_97 : decode cX11_layParts 97 = .ok (.goto (-84), 3) := by decide +kernel
theorem dX11_layParts_100 : decode cX11_layParts 100 = .ok (.return_, 1) := by decide +kernel
theorem dX11_layFar_0 : decode cX11_layFar 0 = .ok (.aload_n 0, 1) := by decide +kernel
theorem dX11_layFar_1 : decode cX11_layFar 1 = .ok (.iload_n 2, 1) := by decide +kernel
theorem dX11_layFar_2 : decode cX11_layFar 2 = .ok (.ifCond .eq 7, 3) := by decide +kernel
theorem dX11_layFar_5 : decode cX11_layFar 5 = .ok (.iconst 2, 1) := by decide +kernel
theorem dX11_layFar_6 : decode cX11_layFar 6 = .ok (.goto 4, 3) := by decide +kernel
theorem dX11_layFar_9 : decode cX11_layFar 9 = .ok (.iconst 1, 1) := by decide +kernel
theorem dX11_layFar_10 : decode cX11_layFar 10 = .ok (.iload_n 2, 1) := by decide +kernel
theorem dX11_layFar_11 : decode cX11_layFar 11 = .ok (.ifCond .eq 9, 3) := by decide +kernel
theorem dX11_layFar_14 : decode cX11_layFar 14 = .ok (.iconst 2, 1) := by decide +kernel
theorem dX11_layFar_15 : decode cX11_layFar 15 = .ok (.iload_n 1, 1) := by decide +kernel
theorem dX11_layFar_16 : decode cX11_layFar 16 = .ok (.imul, 1) := by decide +kernel
theorem dX11_layFar_17 : decode cX11_layFar 17 = .ok (.goto 8, 3) := by decide +kernel
theorem dX11_layFar_20 : decode cX11_layFar 20 = .ok (.iconst 2, 1) := by decide +kernel
theorem dX11_layFar_21 : decode cX11_layFar 21 = .ok (.iload_n 1, 1) := by decide +kernel
theorem dX11_layFar_22 : decode cX11_layFar 22 = .ok (.imul, 1) := by decide +kernel
theorem dX11_layFar_23 : decode cX11_layFar 23 = .ok (.iconst 1, 1) := by decide +kernel
theorem dX11_layFar_24 : decode cX11_layFar 24 = .ok (.isub, 1) := by decide +kernel
theorem dX11_layFar_25 : decode cX11_layFar 25 = .ok (.iconst 2, 1) := by decide +kernel
theorem dX11_layFar_26 : decode cX11_layFar 26 = .ok (.invokevirtual 377, 3) := by decide +kernel
theorem dX11_layFar_29 : decode cX11_layFar 29 = .ok (.return_, 1) := by decide +kernel
theorem dX11_far_0 : decode cX11_far 0 = .ok (.aload_n 0, 1) := by decide +kernel
theorem dX11_far_1 : decode cX11_far 1 = .ok (.invokevirtual 176, 3) := by decide +kernel
theorem dX11_far_4 : decode cX11_far 4 = .ok (.aload_n 0, 1) := by decide +kernel
theorem dX11_far_5 : decode cX11_far 5 = .ok (.getfield 189, 3) := by decide +kernel
theorem dX11_far_8 : decode cX11_far 8 = .ok (.ifCond .ne 10, 3) := by decide +kernel
theorem dX11_far_11 : decode cX11_far 11 = .ok (.aload_n 0, 1) := by decide +kernel
theorem dX11_far_12 : decode cX11_far 12 = .ok (.iconst 1, 1) := by decide +kernel
theorem dX11_far_13 : decode cX11_far 13 = .ok (.invokevirtual 179, 3) := by decide +kernel
theorem dX11_far_16 : decode cX11_far 16 = .ok (.i2l, 1) := by decide +kernel
theorem dX11_far_17 : decode cX11_far 17 = .ok (.lreturn, 1) := by decide +kernel
theorem dX11_far_18 : decode cX11_far 18 = .ok (.iload_n 1, 1) := by decide +kernel
theorem dX11_far_19 : decode cX11_far 19 = .ok (.iconst 1, 1) := by decide +kernel
theorem dX11_far_20 : decode cX11_far 20 = .ok (.bipush 12, 2) := by decide +kernel
theorem dX11_far_22 : decode cX11_far 22 = .ok (.invokestatic 161, 3) := by decide +kernel
theorem dX11_far_25 : decode cX11_far 25 = .ok (.ifCond .ne 10, 3) := by decide +kernel
theorem dX11_far_28 : decode cX11_far 28 = .ok (.aload_n 0, 1) := by decide +kernel
theorem dX11_far_29 : decode cX11_far 29 = .ok (.iconst 2, 1) := by decide +kernel
theorem dX11_far_30 : decode cX11_far 30 = .ok (.invokevirtual 179, 3) := by decide +kernel
theorem dX11_far_33 : decode cX11_far 33 = .ok (.i2l, 1) := by decide +kernel
theorem dX11_far_34 : decode cX11_far 34 = .ok (.lreturn, 1) := by decide +kernel
theorem dX11_far_35 : decode cX11_far 35 = .ok (.aload_n 0, 1) := by decide +kernel
theorem dX11_far_36 : decode cX11_far 36 = .ok (.iload_n 1, 1) := by decide +kernel
theorem dX11_far_37 : decode cX11_far 37 = .ok (.iload_n 2, 1) := by decide +kernel
theorem dX11_far_38 : decode cX11_far 38 = .ok (.invokevirtual 381, 3) := by decide +kernel
theorem dX11_far_41 : decode cX11_far 41 = .ok (.iload_n 3, 1) := by decide +kernel
theorem dX11_far_42 : decode cX11_far 42 = .ok (.ifCond .eq 10, 3) := by decide +kernel
theorem dX11_far_45 : decode cX11_far 45 = .ok (.aload_n 0, 1) := by decide +kernel
theorem dX11_far_46 : decode cX11_far 46 = .ok (.getfield 374, 3) := by decide +kernel
theorem dX11_far_49 : decode cX11_far 49 = .ok (.goto 7, 3) := by decide +kernel
theorem dX11_far_52 : decode cX11_far 52 = .ok (.aload_n 0, 1) := by decide +kernel
theorem dX11_far_53 : decode cX11_far 53 = .ok (.getfield 370, 3) := by decide +kernel
theorem dX11_far_56 : decode cX11_far 56 = .ok (.lreturn, 1) := by decide +kernel
theorem dX11_loads_0 : decode cX11_loads 0 = .ok (.aload_n 0, 1) := by decide +kernel
theorem dX11_loads_1 : decode cX11_loads 1 = .ok (.invokevirtual 176, 3) := by decide +kernel
theorem dX11_loads_4 : decode cX11_loads 4 = .ok (.aload_n 0, 1) := by decide +kernel
theorem dX11_loads_5 : decode cX11_loads 5 = .ok (.getfield 189, 3) := by decide +kernel
theorem dX11_loads_8 : decode cX11_loads 8 = .ok (.ifCond .ne 9, 3) := by decide +kernel
theorem dX11_loads_11 : decode cX11_loads 11 = .ok (.aload_n 0, 1) := by decide +kernel
theorem dX11_loads_12 : decode cX11_loads 12 = .ok (.iconst 1, 1) := by decide +kernel
theorem dX11_loads_13 : decode cX11_loads 13 = .ok (.invokevirtual 179, 3) := by decide +kernel
theorem dX11_loads_16 : decode cX11_loads 16 = .ok (.ireturn, 1) := by decide +kernel
theorem dX11_loads_17 : decode cX11_loads 17 = .ok (.iload_n 1, 1) := by decide +kernel
theorem dX11_loads_18 : decode cX11_loads 18 = .ok (.iconst 0, 1) := by decide +kernel
theorem dX11_loads_19 : decode cX11_loads 19 = .ok (.sipush 999, 3) := by decide +kernel
theorem dX11_loads_22 : decode cX11_loads 22 = .ok (.invokestatic 161, 3) := by decide +kernel
theorem dX11_loads_25 : decode cX11_loads 25 = .ok (.ifCond .ne 9, 3) := by decide +kernel
theorem dX11_loads_28 : decode cX11_loads 28 = .ok (.aload_n 0, 1) := by decide +kernel
theorem dX11_loads_29 : decode cX11_loads 29 = .ok (.iconst 2, 1) := by decide +kernel
theorem dX11_loads_30 : decode cX11_loads 30 = .ok (.invokevirtual 179, 3) := by decide +kernel
theorem dX11_loads_33 : decode cX11_loads 33 = .ok (.ireturn, 1) := by decide +kernel
theorem dX11_loads_34 : decode cX11_loads 34 = .ok (.iconst 0, 1) := by decide +kernel
theorem dX11_loads_35 : decode cX11_loads 35 = .ok (.istore_n 3, 1) := by decide +kernel
theorem dX11_loads_36 : decode cX11_loads 36 = .ok (.iload_n 3, 1) := by decide +kernel
theorem dX11_loads_37 : decode cX11_loads 37 = .ok (.bipush 12, 2) := by decide +kernel
theorem dX11_loads_39 : decode cX11_loads 39 = .ok (.if_icmp .gt 32, 3) := by decide +kernel
theorem dX11_loads_42 : decode cX11_loads 42 = .ok (.aload_n 0, 1) := by decide +kernel
theorem dX11_loads_43 : decode cX11_loads 43 = .ok (.iload_n 3, 1) := by decide +kernel
theorem dX11_loads_44 : decode cX11_loads 44 = .ok (.iload_n 2, 1) := by decide +kernel
theorem dX11_loads_45 : decode cX11_loads 45 = .ok (.invokevirtual 381, 3) := by decide +kernel
theorem dX11_loads_48 : decode cX11_loads 48 = .ok (.aload_n 0, 1) := by decide +kernel
theorem dX11_loads_49 : decode cX11_loads 49 = .ok (.getfield 370, 3) := by decide +kernel
theorem dX11_loads_52 : decode cX11_loads 52 = .ok (.iload_n 1, 1) := by decide +kernel
theorem dX11_loads_53 : decode cX11_loads 53 = .ok (.i2l, 1) := by decide +kernel
theorem dX11_loads_54 : decode cX11_loads 54 = .ok (.aload_n 0, 1) := by decide +kernel
theorem dX11_loads_55 : decode cX11_loads 55 = .ok (.getfield 374, 3) := by decide +kernel
theorem dX11_loads_58 : decode cX11_loads 58 = .ok (.lmul, 1) := by decide +kernel
theorem dX11_loads_59 : decode cX11_loads 59 = .ok (.lcmp, 1) := by decide +kernel
theorem dX11_loads_60 : decode cX11_loads 60 = .ok (.ifCond .lt 5, 3) := by decide +kernel
theorem dX11_loads_63 : decode cX11_loads 63 = .ok (.iload_n 3, 1) := by decide +kernel
theorem dX11_loads_64 : decode cX11_loads 64 = .ok (.ireturn, 1) := by decide +kernel
theorem dX11_loads_65 : decode cX11_loads 65 = .ok (.iinc 3 1, 3) := by decide +kernel
theorem dX11_loads_68 : decode cX11_loads 68 = .ok (.goto (-32), 3) := by decide +kernel
theorem dX11_loads_71 : decode cX11_loads 71 = .ok (.bipush (-2), 2) := by decide +kernel
theorem dX11_loads_73 : decode cX11_loads 73 = .ok (.ireturn, 1) := by decide +kernel
theorem dX11_depot_0 : decode cX11_depot 0 = .ok (.aload_n 0, 1) := by decide +kernel
theorem dX11_depot_1 : decode cX11_depot 1 = .ok (.invokevirtual 176, 3) := by decide +kernel
theorem dX11_depot_4 : decode cX11_depot 4 = .ok (.aload_n 0, 1) := by decide +kernel
theorem dX11_depot_5 : decode cX11_depot 5 = .ok (.getfield 189, 3) := by decide +kernel
theorem dX11_depot_8 : decode cX11_depot 8 = .ok (.ifCond .ne 10, 3) := by decide +kernel
theorem dX11_depot_11 : decode cX11_depot 11 = .ok (.aload_n 0, 1) := by decide +kernel
theorem dX11_depot_12 : decode cX11_depot 12 = .ok (.iconst 1, 1) := by decide +kernel
theorem dX11_depot_13 : decode cX11_depot 13 = .ok (.invokevirtual 179, 3) := by decide +kernel
theorem dX11_depot_16 : decode cX11_depot 16 = .ok (.i2l, 1) := by decide +kernel
theorem dX11_depot_17 : decode cX11_depot 17 = .ok (.lreturn, 1) := by decide +kernel
theorem dX11_depot_18 : decode cX11_depot 18 = .ok (.iload_n 1, 1) := by decide +kernel
theorem dX11_depot_19 : decode cX11_depot 19 = .ok (.iconst 2, 1) := by decide +kernel
theorem dX11_depot_20 : decode cX11_depot 20 = .ok (.bipush 12, 2) := by decide +kernel
theorem dX11_depot_22 : decode cX11_depot 22 = .ok (.invokestatic 161, 3) := by decide +kernel
theorem dX11_depot_25 : decode cX11_depot 25 = .ok (.ifCond .ne 10, 3) := by decide +kernel
theorem dX11_depot_28 : decode cX11_depot 28 = .ok (.aload_n 0, 1) := by decide +kernel
theorem dX11_depot_29 : decode cX11_depot 29 = .ok (.iconst 2, 1) := by decide +kernel
theorem dX11_depot_30 : decode cX11_depot 30 = .ok (.invokevirtual 179, 3) := by decide +kernel
theorem dX11_depot_33 : decode cX11_depot 33 = .ok (.i2l, 1) := by decide +kernel
theorem dX11_depot_34 : decode cX11_depot 34 = .ok (.lreturn, 1) := by decide +kernel
theorem dX11_depot_35 : decode cX11_depot 35 = .ok (.iload_n 3, 1) := by decide +kernel
theorem dX11_depot_36 : decode cX11_depot 36 = .ok (.iconst 1, 1) := by decide +kernel
theorem dX11_depot_37 : decode cX11_depot 37 = .ok (.iload_n 1, 1) := by decide +kernel
theorem dX11_depot_38 : decode cX11_depot 38 = .ok (.iconst 1, 1) := by decide +kernel
theorem dX11_depot_39 : decode cX11_depot 39 = .ok (.isub, 1) := by decide +kernel
theorem dX11_depot_40 : decode cX11_depot 40 = .ok (.invokestatic 161, 3) := by decide +kernel
theorem dX11_depot_43 : decode cX11_depot 43 = .ok (.ifCond .ne 10, 3) := by decide +kernel
theorem dX11_depot_46 : decode cX11_depot 46 = .ok (.aload_n 0, 1) := by decide +kernel
theorem dX11_depot_47 : decode cX11_depot 47 = .ok (.iconst 1, 1) := by decide +kernel
theorem dX11_depot_48 : decode cX11_depot 48 = .ok (.invokevirtual 179, 3) := by decide +kernel
theorem dX11_depot_51 : decode cX11_depot 51 = .ok (.i2l, 1) := by decide +kernel
theorem dX11_depot_52 : decode cX11_depot 52 = .ok (.lreturn, 1) := by decide +kernel
theorem dX11_depot_53 : decode cX11_depot 53 = .ok (.iload_n 2, 1) := by decide +kernel
theorem dX11_depot_54 : decode cX11_depot 54 = .ok (.ifCond .eq 9, 3) := by decide +kernel
theorem dX11_depot_57 : decode cX11_depot 57 = .ok (.iconst 2, 1) := by decide +kernel
theorem dX11_depot_58 : decode cX11_depot 58 = .ok (.iload_n 1, 1) := by decide +kernel
theorem dX11_depot_59 : decode cX11_depot 59 = .ok (.imul, 1) := by decide +kernel
theorem dX11_depot_60 : decode cX11_depot 60 = .ok (.goto 8, 3) := by decide +kernel
theorem dX11_depot_63 : decode cX11_depot 63 = .ok (.iconst 2, 1) := by decide +kernel
theorem dX11_depot_64 : decode cX11_depot 64 = .ok (.iload_n 1, 1) := by decide +kernel
theorem dX11_depot_65 : decode cX11_depot 65 = .ok (.imul, 1) := by decide +kernel
theorem dX11_depot_66 : decode cX11_depot 66 = .ok (.iconst 1, 1) := by decide +kernel
theorem dX11_depot_67 : decode cX11_depot 67 = .ok (.isub, 1) := by decide +kernel
theorem dX11_depot_68 : decode cX11_depot 68 = .ok (.istore 5, 2) := by decide +kernel
theorem dX11_depot_70 : decode cX11_depot 70 = .ok (.aload_n 0, 1) := by decide +kernel
theorem dX11_depot_71 : decode cX11_depot 71 = .ok (.iload 5, 2) := by decide +kernel
theorem dX11_depot_73 : decode cX11_depot 73 = .ok (.iconst 2, 1) := by decide +kernel
theorem dX11_depot_74 : decode cX11_depot 74 = .ok (.iload_n 3, 1) := by decide +kernel
theorem dX11_depot_75 : decode cX11_depot 75 = .ok (.iconst 1, 1) := by decide +kernel
theorem dX11_depot_76 : decode cX11_depot 76 = .ok (.isub, 1) := by decide +kernel
theorem dX11_depot_77 : decode cX11_depot 77 = .ok (.imul, 1) := by decide +kernel
theorem dX11_depot_78 : decode cX11_depot 78 = .ok (.isub, 1) := by decide +kernel
theorem dX11_depot_79 : decode cX11_depot 79 = .ok (.iload 5, 2) := by decide +kernel
theorem dX11_depot_81 : decode cX11_depot 81 = .ok (.iconst 2, 1) := by decide +kernel
theorem dX11_depot_82 : decode cX11_depot 82 = .ok (.invokevirtual 377, 3) := by decide +kernel
theorem dX11_depot_85 : decode cX11_depot 85 = .ok (.iload 4, 2) := by decide +kernel
theorem dX11_depot_87 : decode cX11_depot 87 = .ok (.ifCond .eq 10, 3) := by decide +kernel
theorem dX11_depot_90 : decode cX11_depot 90 = .ok (.aload_n 0, 1) := by decide +kernel
theorem dX11_depot_91 : decode cX11_depot 91 = .ok (.getfield 374, 3) := by decide +kernel
theorem dX11_depot_94 : decode cX11_depot 94 = .ok (.goto 7, 3) := by decide +kernel
theorem dX11_depot_97 : decode cX11_depot 97 = .ok (.aload_n 0, 1) := by decide +kernel
theorem dX11_depot_98 : decode cX11_depot 98 = .ok (.getfield 370, 3) := by decide +kernel
theorem dX11_depot_101 : decode cX11_depot 101 = .ok (.lreturn, 1) := by decide +kernel
theorem dX11_convoy_0 : decode cX11_convoy 0 = .ok (.aload_n 0, 1) := by decide +kernel
theorem dX11_convoy_1 : decode cX11_convoy 1 = .ok (.invokevirtual 176, 3) := by decide +kernel
theorem dX11_convoy_4 : decode cX11_convoy 4 = .ok (.aload_n 0, 1) := by decide +kernel
theorem dX11_convoy_5 : decode cX11_convoy 5 = .ok (.getfield 189, 3) := by decide +kernel
theorem dX11_convoy_8 : decode cX11_convoy 8 = .ok (.ifCond .ne 10, 3) := by decide +kernel
theorem dX11_convoy_11 : decode cX11_convoy 11 = .ok (.aload_n 0, 1) := by decide +kernel
theorem dX11_convoy_12 : decode cX11_convoy 12 = .ok (.iconst 1, 1) := by decide +kernel
theorem dX11_convoy_13 : decode cX11_convoy 13 = .ok (.invokevirtual 179, 3) := by decide +kernel
theorem dX11_convoy_16 : decode cX11_convoy 16 = .ok (.i2l, 1) := by decide +kernel
theorem dX11_convoy_17 : decode cX11_convoy 17 = .ok (.lreturn, 1) := by decide +kernel
theorem dX11_convoy_18 : decode cX11_convoy 18 = .ok (.iload_n 1, 1) := by decide +kernel
theorem dX11_convoy_19 : decode cX11_convoy 19 = .ok (.iconst 1, 1) := by decide +kernel
theorem dX11_convoy_20 : decode cX11_convoy 20 = .ok (.bipush 12, 2) := by decide +kernel
theorem dX11_convoy_22 : decode cX11_convoy 22 = .ok (.invokestatic 161, 3) := by decide +kernel
theorem dX11_convoy_25 : decode cX11_convoy 25 = .ok (.ifCond .ne 10, 3) := by decide +kernel
theorem dX11_convoy_28 : decode cX11_convoy 28 = .ok (.aload_n 0, 1) := by decide +kernel
theorem dX11_convoy_29 : decode cX11_convoy 29 = .ok (.iconst 2, 1) := by decide +kernel
theorem dX11_convoy_30 : decode cX11_convoy 30 = .ok (.invokevirtual 179, 3) := by decide +kernel
theorem dX11_convoy_33 : decode cX11_convoy 33 = .ok (.i2l, 1) := by decide +kernel
theorem dX11_convoy_34 : decode cX11_convoy 34 = .ok (.lreturn, 1) := by decide +kernel
theorem dX11_convoy_35 : decode cX11_convoy 35 = .ok (.aload_n 0, 1) := by decide +kernel
theorem dX11_convoy_36 : decode cX11_convoy 36 = .ok (.iconst 1, 1) := by decide +kernel
theorem dX11_convoy_37 : decode cX11_convoy 37 = .ok (.iload_n 1, 1) := by decide +kernel
theorem dX11_convoy_38 : decode cX11_convoy 38 = .ok (.iconst 1, 1) := by decide +kernel
theorem dX11_convoy_39 : decode cX11_convoy 39 = .ok (.invokevirtual 377, 3) := by decide +kernel
theorem dX11_convoy_42 : decode cX11_convoy 42 = .ok (.iload_n 2, 1) := by decide +kernel
theorem dX11_convoy_43 : decode cX11_convoy 43 = .ok (.ifCond .eq 10, 3) := by decide +kernel
theorem dX11_convoy_46 : decode cX11_convoy 46 = .ok (.aload_n 0, 1) := by decide +kernel
theorem dX11_convoy_47 : decode cX11_convoy 47 = .ok (.getfield 374, 3) := by decide +kernel
theorem dX11_convoy_50 : decode cX11_convoy 50 = .ok (.goto 7, 3) := by decide +kernel
theorem dX11_convoy_53 : decode cX11_convoy 53 = .ok (.aload_n 0, 1) := by decide +kernel
theorem dX11_convoy_54 : decode cX11_convoy 54 = .ok (.getfield 370, 3) := by decide +kernel
theorem dX11_convoy_57 : decode cX11_convoy 57 = .ok (.lreturn, 1) := by decide +kernel
theorem dX11_seekWays_0 : decode cX11_seekWays 0 = .ok (.aload_n 0, 1) := by decide +kernel
theorem dX11_seekWays_1 : decode cX11_seekWays 1 = .ok (.iload_n 1, 1) := by decide +kernel
theorem dX11_seekWays_2 : decode cX11_seekWays 2 = .ok (.putfield 385, 3) := by decide +kernel
theorem dX11_seekWays_5 : decode cX11_seekWays 5 = .ok (.aload_n 0, 1) := by decide +kernel
theorem dX11_seekWays_6 : decode cX11_seekWays 6 = .ok (.iload_n 2, 1) := by decide +kernel
theorem dX11_seekWays_7 : decode cX11_seekWays 7 = .ok (.putfield 388, 3) := by decide +kernel
theorem dX11_seekWays_10 : decode cX11_seekWays 10 = .ok (.aload_n 0, 1) := by decide +kernel
theorem dX11_seekWays_11 : decode cX11_seekWays 11 = .ok (.iconst 0, 1) := by decide +kernel
theorem dX11_seekWays_12 : decode cX11_seekWays 12 = .ok (.putfield 391, 3) := by decide +kernel
theorem dX11_seekWays_15 : decode cX11_seekWays 15 = .ok (.aload_n 0, 1) := by decide +kernel
theorem dX11_seekWays_16 : decode cX11_seekWays 16 = .ok (.sipush 511, 3) := by decide +kernel
theorem dX11_seekWays_19 : decode cX11_seekWays 19 = .ok (.putfield 394, 3) := by decide +kernel
theorem dX11_seekWays_22 : decode cX11_seekWays 22 = .ok (.aload_n 0, 1) := by decide +kernel
theorem dX11_seekWays_23 : decode cX11_seekWays 23 = .ok (.iconst 0, 1) := by decide +kernel
theorem dX11_seekWays_24 : decode cX11_seekWays 24 = .ok (.putfield 397, 3) := by decide +kernel
theorem dX11_seekWays_27 : decode cX11_seekWays 27 = .ok (.aload_n 0, 1) := by decide +kernel
theorem dX11_seekWays_28 : decode cX11_seekWays 28 = .ok (.getfield 60, 3) := by decide +kernel
theorem dX11_seekWays_31 : decode cX11_seekWays 31 = .ok (.iconst 0, 1) := by decide +kernel
theorem dX11_seekWays_32 : decode cX11_seekWays 32 = .ok (.aload_n 0, 1) := by decide +kernel
theorem dX11_seekWays_33 : decode cX11_seekWays 33 = .ok (.iconst 0, 1) := by decide +kernel
theorem dX11_seekWays_34 : decode cX11_seekWays 34 = .ok (.invokevirtual 257, 3) := by decide +kernel
theorem dX11_seekWays_37 : decode cX11_seekWays 37 = .ok (.iastore, 1) := by decide +kernel
theorem dX11_seekWays_38 : decode cX11_seekWays 38 = .ok (.aload_n 0, 1) := by decide +kernel
theorem dX11_seekWays_39 : decode cX11_seekWays 39 = .ok (.iconst 1, 1) := by decide +kernel
theorem dX11_seekWays_40 : decode cX11_seekWays 40 = .ok (.iconst 1, 1) := by decide +kernel
theorem dX11_seekWays_41 : decode cX11_seekWays 41 = .ok (.aload_n 0, 1) := by decide +kernel
theorem dX11_seekWays_42 : decode cX11_seekWays 42 = .ok (.getfield 60, 3) := by decide +kernel
theorem dX11_seekWays_45 : decode cX11_seekWays 45 = .ok (.iconst 0, 1) := by decide +kernel
theorem dX11_seekWays_46 : decode cX11_seekWays 46 = .ok (.iaload, 1) := by decide +kernel
theorem dX11_seekWays_47 : decode cX11_seekWays 47 = .ok (.ishl, 1) := by decide +kernel
theorem dX11_seekWays_48 : decode cX11_seekWays 48 = .ok (.invokevirtual 400, 3) := by decide +kernel
theorem dX11_seekWays_51 : decode cX11_seekWays 51 = .ok (.return_, 1) := by decide +kernel
theorem dX11_wayFrom_0 : decode cX11_wayFrom 0 = .ok (.aload_n 0, 1) := by decide +kernel
theorem dX11_wayFrom_1 : decode cX11_wayFrom 1 = .ok (.getfield 60, 3) := by decide +kernel
theorem dX11_wayFrom_4 : decode cX11_wayFrom 4 = .ok (.iload_n 1, 1) := by decide +kernel
theorem dX11_wayFrom_5 : decode cX11_wayFrom 5 = .ok (.iconst 1, 1) := by decide +kernel
theorem dX11_wayFrom_6 : decode cX11_wayFrom 6 = .ok (.isub, 1) := by decide +kernel
theorem dX11_wayFrom_7 : decode cX11_wayFrom 7 = .ok (.iaload, 1) := by decide +kernel
theorem dX11_wayFrom_8 : decode cX11_wayFrom 8 = .ok (.aload_n 0, 1) := by decide +kernel
theorem dX11_wayFrom_9 : decode cX11_wayFrom 9 = .ok (.aload_n 0, 1) := by decide +kernel
theorem dX11_wayFrom_10 : decode cX11_wayFrom 10 = .ok (.invokevirtual 254, 3) := by decide +kernel
theorem dX11_wayFrom_13 : decode cX11_wayFrom 13 = .ok (.invokevirtual 257, 3) := by decide +kernel
theorem dX11_wayFrom_16 : decode cX11_wayFrom 16 = .ok (.if_icmp .ne 24, 3) := by decide +kernel
theorem dX11_wayFrom_19 : decode cX11_wayFrom 19 = .ok (.aload_n 0, 1) := by decide +kernel
theorem dX11_wayFrom_20 : decode cX11_wayFrom 20 = .ok (.iload_n 1, 1) := by decide +kernel
theorem dX11_wayFrom_21 : decode cX11_wayFrom 21 = .ok (.iconst 0, 1) := by decide +kernel
theorem dX11_wayFrom_22 : decode cX11_wayFrom 22 = .ok (.iconst 0, 1) := by decide +kernel
theorem dX11_wayFrom_23 : decode cX11_wayFrom 23 = .ok (.aload_n 0, 1) := by decide +kernel
theorem dX11_wayFrom_24 : decode cX11_wayFrom 24 = .ok (.getfield 385, 3) := by decide +kernel
theorem dX11_wayFrom_27 : decode cX11_wayFrom 27 = .ok (.invokevirtual 403, 3) := by decide +kernel
theorem dX11_wayFrom_30 : decode cX11_wayFrom 30 = .ok (.ifCond .eq 9, 3) := by decide +kernel
theorem dX11_wayFrom_33 : decode cX11_wayFrom 33 = .ok (.aload_n 0, 1) := by decide +kernel
theorem dX11_wayFrom_34 : decode cX11_wayFrom 34 = .ok (.iload_n 1, 1) := by decide +kernel
theorem dX11_wayFrom_35 : decode cX11_wayFrom 35 = .ok (.iload_n 2, 1) := by decide +kernel
theorem dX11_wayFrom_36 : decode cX11_wayFrom 36 = .ok (.invokevirtual 407, 3) := by decide +kernel
theorem dX11_wayFrom_39 : decode cX11_wayFrom 39 = .ok (.return_, 1) := by decide +kernel
theorem dX11_wayFrom_40 : decode cX11_wayFrom 40 = .ok (.iconst 0, 1) := by decide +kernel
theorem dX11_wayFrom_41 : decode cX11_wayFrom 41 = .ok (.istore_n 3, 1) := by decide +kernel
theorem dX11_wayFrom_42 : decode cX11_wayFrom 42 = .ok (.iload_n 3, 1) := by decide +kernel
theorem dX11_wayFrom_43 : decode cX11_wayFrom 43 = .ok (.aload_n 0, 1) := by decide +kernel
theorem dX11_wayFrom_44 : decode cX11_wayFrom 44 = .ok (.getfield 20, 3) := by decide +kernel
theorem dX11_wayFrom_47 : decode cX11_wayFrom 47 = .ok (.iconst 5, 1) := by decide +kernel
theorem dX11_wayFrom_48 : decode cX11_wayFrom 48 = .ok (.iaload, 1) := by decide +kernel
theorem dX11_wayFrom_49 : decode cX11_wayFrom 49 = .ok (.if_icmp .ge 55, 3) := by decide +kernel
theorem dX11_wayFrom_52 : decode cX11_wayFrom 52 = .ok (.iload_n 2, 1) := by decide +kernel
theorem dX11_wayFrom_53 : decode cX11_wayFrom 53 = .ok (.iload_n 3, 1) := by decide +kernel
theorem dX11_wayFrom_54 : decode cX11_wayFrom 54 = .ok (.invokestatic 410, 3) := by decide +kernel
theorem dX11_wayFrom_57 : decode cX11_wayFrom 57 = .ok (.ifCond .ne 41, 3) := by decide +kernel
theorem dX11_wayFrom_60 : decode cX11_wayFrom 60 = .ok (.aload_n 0, 1) := by decide +kernel
theorem dX11_wayFrom_61 : decode cX11_wayFrom 61 = .ok (.aload_n 0, 1) := by decide +kernel
theorem dX11_wayFrom_62 : decode cX11_wayFrom 62 = .ok (.getfield 60, 3) := by decide +kernel
theorem dX11_wayFrom_65 : decode cX11_wayFrom 65 = .ok (.iload_n 1, 1) := by decide +kernel
theorem dX11_wayFrom_66 : decode cX11_wayFrom 66 = .ok (.iconst 1, 1) := by decide +kernel
theorem dX11_wayFrom_67 : decode cX11_wayFrom 67 = .ok (.isub, 1) := by decide +kernel
theorem dX11_wayFrom_68 : decode cX11_wayFrom 68 = .ok (.iaload, 1) := by decide +kernel
theorem dX11_wayFrom_69 : decode cX11_wayFrom 69 = .ok (.iload_n 3, 1) := by decide +kernel
theorem dX11_wayFrom_70 : decode cX11_wayFrom 70 = .ok (.invokevirtual 263, 3) := by decide +kernel
theorem dX11_wayFrom_73 : decode cX11_wayFrom 73 = .ok (.ifCond .ne 6, 3) := by decide +kernel
theorem dX11_wayFrom_76 : decode cX11_wayFrom 76 = .ok (.goto 22, 3) := by decide +kernel
theorem dX11_wayFrom_79 : decode cX11_wayFrom 79 = .ok (.aload_n 0, 1) := by decide +kernel
theorem dX11_wayFrom_80 : decode cX11_wayFrom 80 = .ok (.getfield 60, 3) := by decide +kernel
theorem dX11_wayFrom_83 : decode cX11_wayFrom 83 = .ok (.iload_n 1, 1) := by decide +kernel
theorem dX11_wayFrom_84 : decode cX11_wayFrom 84 = .ok (.iload_n 3, 1) := by decide +kernel
theorem dX11_wayFrom_85 : decode cX11_wayFrom 85 = .ok (.iastore, 1) := by decide +kernel
theorem dX11_wayFrom_86 : decode cX11_wayFrom 86 = .ok (.aload_n 0, 1) := by decide +kernel
theorem dX11_wayFrom_87 : decode cX11_wayFrom 87 = .ok (.iload_n 1, 1) := by decide +kernel
theorem dX11_wayFrom_88 : decode cX11_wayFrom 88 = .ok (.iconst 1, 1) := by decide +kernel
theorem dX11_wayFrom_89 : decode cX11_wayFrom 89 = .ok (.iadd, 1) := by decide +kernel
theorem dX11_wayFrom_90 : decode cX11_wayFrom 90 = .ok (.iload_n 2, 1) := by decide +kernel
theorem dX11_wayFrom_91 : decode cX11_wayFrom 91 = .ok (.iconst 1, 1) := by decide +kernel
theorem dX11_wayFrom_92 : decode cX11_wayFrom 92 = .ok (.iload_n 3, 1) := by decide +kernel
theorem dX11_wayFrom_93 : decode cX11_wayFrom 93 = .ok (.ishl, 1) := by decide +kernel
theorem dX11_wayFrom_94 : decode cX11_wayFrom 94 = .ok (.ior, 1) := by decide +kernel
theorem dX11_wayFrom_95 : decode cX11_wayFrom 95 = .ok (.invokevirtual 400, 3) := by decide +kernel
theorem dX11_wayFrom_98 : decode cX11_wayFrom 98 = .ok (.iinc 3 1, 3) := by decide +kernel
theorem dX11_wayFrom_101 : decode cX11_wayFrom 101 = .ok (.goto (-59), 3) := by decide +kernel
theorem dX11_wayFrom_104 : decode cX11_wayFrom 104 = .ok (.return_, 1) := by decide +kernel
theorem dX11_endWay_0 : decode cX11_endWay 0 = .ok (.aload_n 0, 1) := by decide +kernel
theorem dX11_endWay_1 : decode cX11_endWay 1 = .ok (.getfield 391, 3) := by decide +kernel
theorem dX11_endWay_4 : decode cX11_endWay 4 = .ok (.aload_n 0, 1) := by decide +kernel
theorem dX11_endWay_5 : decode cX11_endWay 5 = .ok (.getfield 388, 3) := by decide +kernel
theorem dX11_endWay_8 : decode cX11_endWay 8 = .ok (.if_icmp .ne 38, 3) := by decide +kernel
theorem dX11_endWay_11 : decode cX11_endWay 11 = .ok (.iconst 0, 1) := by decide +kernel
theorem dX11_endWay_12 : decode cX11_endWay 12 = .ok (.istore_n 3, 1) := by decide +kernel
theorem dX11_endWay_13 : decode cX11_endWay 13 = .ok (.iload_n 3, 1) := by decide +kernel
theorem dX11_endWay_14 : decode cX11_endWay 14 = .ok (.bipush 9, 2) := by decide +kernel
theorem dX11_endWay_16 : decode cX11_endWay 16 = .ok (.if_icmp .ge 30, 3) := by decide +kernel
theorem dX11_endWay_19 : decode cX11_endWay 19 = .ok (.aload_n 0, 1) := by decide +kernel
theorem dX11_endWay_20 : decode cX11_endWay 20 = .ok (.getfield 63, 3) := by decide +kernel
theorem dX11_endWay_23 : decode cX11_endWay 23 = .ok (.iload_n 3, 1) := by decide +kernel
theorem dX11_endWay_24 : decode cX11_endWay 24 = .ok (.iload_n 3, 1) := by decide +kernel
theorem dX11_endWay_25 : decode cX11_endWay 25 = .ok (.iload_n 1, 1) := by decide +kernel
theorem dX11_endWay_26 : decode cX11_endWay 26 = .ok (.if_icmp .ge 12, 3) := by decide +kernel
theorem dX11_endWay_29 : decode cX11_endWay 29 = .ok (.aload_n 0, 1) := by decide +kernel
theorem dX11_endWay_30 : decode cX11_endWay 30 = .ok (.getfield 60, 3) := by decide +kernel
theorem dX11_endWay_33 : decode cX11_endWay 33 = .ok (.iload_n 3, 1) := by decide +kernel
theorem dX11_endWay_34 : decode cX11_endWay 34 = .ok (.iaload, 1) := by decide +kernel
theorem dX11_endWay_35 : decode cX11_endWay 35 = .ok (.goto 4, 3) := by decide +kernel
theorem dX11_endWay_38 : decode cX11_endWay 38 = .ok (.iconst (-1), 1) := by decide +kernel
theorem dX11_endWay_39 : decode cX11_endWay 39 = .ok (.iastore, 1) := by decide +kernel
theorem dX11_endWay_40 : decode cX11_endWay 40 = .ok (.iinc 3 1, 3) := by decide +kernel
theorem dX11_endWay_43 : decode cX11_endWay 43 = .ok (.goto (-30), 3) := by decide +kernel
theorem dX11_endWay_46 : decode cX11_endWay 46 = .ok (.aload_n 0, 1) := by decide +kernel
theorem dX11_endWay_47 : decode cX11_endWay 47 = .ok (.dup, 1) := by decide +kernel
theorem dX11_endWay_48 : decode cX11_endWay 48 = .ok (.getfield 391, 3) := by decide +kernel
theorem dX11_endWay_51 : decode cX11_endWay 51 = .ok (.iconst 1, 1) := by decide +kernel
theorem dX11_endWay_52 : decode cX11_endWay 52 = .ok (.iadd, 1) := by decide +kernel
theorem dX11_endWay_53 : decode cX11_endWay 53 = .ok (.putfield 391, 3) := by decide +kernel
theorem dX11_endWay_56 : decode cX11_endWay 56 = .ok (.aload_n 0, 1) := by decide +kernel
theorem dX11_endWay_57 : decode cX11_endWay 57 = .ok (.dup, 1) := by decide +kernel
theorem dX11_endWay_58 : decode cX11_endWay 58 = .ok (.getfield 394, 3) := by decide +kernel
theorem dX11_endWay_61 : decode cX11_endWay 61 = .ok (.iload_n 2, 1) := by decide +kernel
theorem dX11_endWay_62 : decode cX11_endWay 62 = .ok (.iand, 1) := by decide +kernel
theorem dX11_endWay_63 : decode cX11_endWay 63 = .ok (.putfield 394, 3) := by decide +kernel
theorem dX11_endWay_66 : decode cX11_endWay 66 = .ok (.aload_n 0, 1) := by decide +kernel
theorem dX11_endWay_67 : decode cX11_endWay 67 = .ok (.dup, 1) := by decide +kernel
theorem dX11_endWay_68 : decode cX11_endWay 68 = .ok (.getfield 397, 3) := by decide +kernel
theorem dX11_endWay_71 : decode cX11_endWay 71 = .ok (.iload_n 2, 1) := by decide +kernel
theorem dX11_endWay_72 : decode cX11_endWay 72 = .ok (.ior, 1) := by decide +kernel
theorem dX11_endWay_73 : decode cX11_endWay 73 = .ok (.putfield 397, 3) := by decide +kernel
theorem dX11_endWay_76 : decode cX11_endWay 76 = .ok (.return_, 1) := by decide +kernel
theorem dX11_doesFit_0 : decode cX11_doesFit 0 = .ok (.iload_n 3, 1) := by decide +kernel
theorem dX11_doesFit_1 : decode cX11_doesFit 1 = .ok (.aload_n 0, 1) := by decide +kernel
theorem dX11_doesFit_2 : decode cX11_doesFit 2 = .ok (.getfield 20, 3) := by decide +kernel
theorem dX11_doesFit_5 : decode cX11_doesFit 5 = .ok (.bipush 9, 2) := by decide +kernel
theorem dX11_doesFit_7 : decode cX11_doesFit 7 = .ok (.iaload, 1) := by decide +kernel
theorem dX11_doesFit_8 : decode cX11_doesFit 8 = .ok (.if_icmp .ge 123, 3) := by decide +kernel
theorem dX11_doesFit_11 : decode cX11_doesFit 11 = .ok (.aload_n 0, 1) := by decide +kernel
theorem dX11_doesFit_12 : decode cX11_doesFit 12 = .ok (.getfield 20, 3) := by decide +kernel
theorem dX11_doesFit_15 : decode cX11_doesFit 15 = .ok (.sipush 209, 3) := by decide +kernel
theorem dX11_doesFit_18 : decode cX11_doesFit 18 = .ok (.iconst 2, 1) := by decide +kernel
theorem dX11_doesFit_19 : decode cX11_doesFit 19 = .ok (.iload_n 3, 1) := by decide +kernel
theorem dX11_doesFit_20 : decode cX11_doesFit 20 = .ok (.imul, 1) := by decide +kernel
theorem dX11_doesFit_21 : decode cX11_doesFit 21 = .ok (.iadd, 1) := by decide +kernel
theorem dX11_doesFit_22 : decode cX11_doesFit 22 = .ok (.iaload, 1) := by decide +kernel
theorem dX11_doesFit_23 : decode cX11_doesFit 23 = .ok (.aload_n 0, 1) := by decide +kernel
theorem dX11_doesFit_24 : decode cX11_doesFit 24 = .ok (.getfield 60, 3) := by decide +kernel
theorem dX11_doesFit_27 : decode cX11_doesFit 27 = .ok (.iload_n 2, 1) := by decide +kernel
theorem dX11_doesFit_28 : decode cX11_doesFit 28 = .ok (.iaload, 1) := by decide +kernel
theorem dX11_doesFit_29 : decode cX11_doesFit 29 = .ok (.if_icmp .ne 102, 3) := by decide +kernel
theorem dX11_doesFit_32 : decode cX11_doesFit 32 = .ok (.iconst 0, 1) := by decide +kernel
theorem dX11_doesFit_33 : decode cX11_doesFit 33 = .ok (.istore 5, 2) := by decide +kernel
theorem dX11_doesFit_35 : decode cX11_doesFit 35 = .ok (.iload 5, 2) := by decide +kernel
theorem dX11_doesFit_37 : decode cX11_doesFit 37 = .ok (.iconst 2, 1) := by decide +kernel
theorem dX11_doesFit_38 : decode cX11_doesFit 38 = .ok (.if_icmp .ge 91, 3) := by decide +kernel
theorem dX11_doesFit_41 : decode cX11_doesFit 41 = .ok (.aload_n 0, 1) := by decide +kernel
theorem dX11_doesFit_42 : decode cX11_doesFit 42 = .ok (.aload_n 0, 1) := by decide +kernel
theorem dX11_doesFit_43 : decode cX11_doesFit 43 = .ok (.getfield 60, 3) := by decide +kernel
theorem dX11_doesFit_46 : decode cX11_doesFit 46 = .ok (.iload_n 2, 1) := by decide +kernel
theorem dX11_doesFit_47 : decode cX11_doesFit 47 = .ok (.iaload, 1) := by decide +kernel
theorem dX11_doesFit_48 : decode cX11_doesFit 48 = .ok (.iload 5, 2) := by decide +kernel
theorem dX11_doesFit_50 : decode cX11_doesFit 50 = .ok (.invokevirtual 260, 3) := by decide +kernel
theorem dX11_doesFit_53 : decode cX11_doesFit 53 = .ok (.istore 6, 2) := by decide +kernel
theorem dX11_doesFit_55 : decode cX11_doesFit 55 = .ok (.aload_n 0, 1) := by decide +kernel
theorem dX11_doesFit_56 : decode cX11_doesFit 56 = .ok (.getfield 20, 3) := by decide +kernel
theorem dX11_doesFit_59 : decode cX11_doesFit 59 = .ok (.sipush 209, 3) := by decide +kernel
theorem dX11_doesFit_62 : decode cX11_doesFit 62 = .ok (.iconst 2, 1) := by decide +kernel
theorem dX11_doesFit_63 : decode cX11_doesFit 63 = .ok (.iload_n 3, 1) := by decide +kernel
theorem dX11_doesFit_64 : decode cX11_doesFit 64 = .ok (.imul, 1) := by decide +kernel
theorem dX11_doesFit_65 : decode cX11_doesFit 65 = .ok (.iadd, 1) := by decide +kernel
theorem dX11_doesFit_66 : decode cX11_doesFit 66 = .ok (.iconst 1, 1) := by decide +kernel
theorem dX11_doesFit_67 : decode cX11_doesFit 67 = .ok (.iadd, 1) := by decide +kernel
theorem dX11_doesFit_68 : decode cX11_doesFit 68 = .ok (.iaload, 1) := by decide +kernel
theorem dX11_doesFit_69 : decode cX11_doesFit 69 = .ok (.istore 7, 2) := by decide +kernel
theorem dX11_doesFit_71 : decode cX11_doesFit 71 = .ok (.iload 6, 2) := by decide +kernel
theorem dX11_doesFit_73 : decode cX11_doesFit 73 = .ok (.ifCond .le 50, 3) := by decide +kernel
theorem dX11_doesFit_76 : decode cX11_doesFit 76 = .ok (.iload 7, 2) := by decide +kernel
theorem dX11_doesFit_78 : decode cX11_doesFit 78 = .ok (.iload 6, 2) := by decide +kernel
theorem dX11_doesFit_80 : decode cX11_doesFit 80 = .ok (.irem, 1) := by decide +kernel
theorem dX11_doesFit_81 : decode cX11_doesFit 81 = .ok (.ifCond .ne 42, 3) := by decide +kernel
theorem dX11_doesFit_84 : decode cX11_doesFit 84 = .ok (.iload 4, 2) := by decide +kernel
theorem dX11_doesFit_86 : decode cX11_doesFit 86 = .ok (.iload 7, 2) := by decide +kernel
theorem dX11_doesFit_88 : decode cX11_doesFit 88 = .ok (.iload 6, 2) := by decide +kernel
theorem dX11_doesFit_90 : decode cX11_doesFit 90 = .ok (.idiv, 1) := by decide +kernel
theorem dX11_doesFit_91 : decode cX11_doesFit 91 = .ok (.iadd, 1) := by decide +kernel
theorem dX11_doesFit_92 : decode cX11_doesFit 92 = .ok (.aload_n 0, 1) := by decide +kernel
theorem dX11_doesFit_93 : decode cX11_doesFit 93 = .ok (.getfield 20, 3) := by decide +kernel
theorem dX11_doesFit_96 : decode cX11_doesFit 96 = .ok (.iconst 0, 1) := by decide +kernel
theorem dX11_doesFit_97 : decode cX11_doesFit 97 = .ok (.iaload, 1) := by decide +kernel
theorem dX11_doesFit_98 : decode cX11_doesFit 98 = .ok (.if_icmp .gt 25, 3) := by decide +kernel
theorem dX11_doesFit_101 : decode cX11_doesFit 101 = .ok (.aload_n 0, 1) := by decide +kernel
theorem dX11_doesFit_102 : decode cX11_doesFit 102 = .ok (.iload_n 1, 1) := by decide +kernel
theorem dX11_doesFit_103 : decode cX11_doesFit 103 = .ok (.iload_n 2, 1) := by decide +kernel
theorem dX11_doesFit_104 : decode cX11_doesFit 104 = .ok (.iload_n 3, 1) := by decide +kernel
theorem dX11_doesFit_105 : decode cX11_doesFit 105 = .ok (.iconst 1, 1) := by decide +kernel
theorem dX11_doesFit_106 : decode cX11_doesFit 106 = .ok (.iadd, 1) := by decide +kernel
theorem dX11_doesFit_107 : decode cX11_doesFit 107 = .ok (.iload 4, 2) := by decide +kernel
theorem dX11_doesFit_109 : decode cX11_doesFit 109 = .ok (.iload 7, 2) := by decide +kernel
theorem dX11_doesFit_111 : decode cX11_doesFit 111 = .ok (.iload 6, 2) := by decide +kernel
theorem dX11_doesFit_113 : decode cX11_doesFit 113 = .ok (.idiv, 1) := by decide +kernel
theorem dX11_doesFit_114 : decode cX11_doesFit 114 = .ok (.iadd, 1) := by decide +kernel
theorem dX11_doesFit_115 : decode cX11_doesFit 115 = .ok (.invokevirtual 403, 3) := by decide +kernel
theorem dX11_doesFit_118 : decode cX11_doesFit 118 = .ok (.ifCond .eq 5, 3) := by decide +kernel
theorem dX11_doesFit_121 : decode cX11_doesFit 121 = .ok (.iconst 1, 1) := by decide +kernel
theorem dX11_doesFit_122 : decode cX11_doesFit 122 = .ok (.ireturn, 1) := by decide +kernel
theorem dX11_doesFit_123 : decode cX11_doesFit 123 = .ok (.iinc 5 1, 3) := by decide +kernel
theorem dX11_doesFit_126 : decode cX11_doesFit 126 = .ok (.goto (-91), 3) := by decide +kernel
theorem dX11_doesFit_129 : decode cX11_doesFit 129 = .ok (.iconst 0, 1) := by decide +kernel
theorem dX11_doesFit_130 : decode cX11_doesFit 130 = .ok (.ireturn, 1) := by decide +kernel
theorem dX11_doesFit_131 : decode cX11_doesFit 131 = .ok (.iload_n 2, 1) := by decide +kernel
theorem dX11_doesFit_132 : decode cX11_doesFit 132 = .ok (.iload_n 1, 1) := by decide +kernel
theorem dX11_doesFit_133 : decode cX11_doesFit 133 = .ok (.iconst 1, 1) := by decide +kernel
theorem dX11_doesFit_134 : decode cX11_doesFit 134 = .ok (.isub, 1) := by decide +kernel
theorem dX11_doesFit_135 : decode cX11_doesFit 135 = .ok (.if_icmp .ne 20, 3) := by decide +kernel
theorem dX11_doesFit_138 : decode cX11_doesFit 138 = .ok (.iload_n 3, 1) := by decide +kernel
theorem dX11_doesFit_139 : decode cX11_doesFit 139 = .ok (.aload_n 0, 1) := by decide +kernel
theorem dX11_doesFit_140 : decode cX11_doesFit 140 = .ok (.getfield 20, 3) := by decide +kernel
theorem dX11_doesFit_143 : decode cX11_doesFit 143 = .ok (.bipush 9, 2) := by decide +kernel
theorem dX11_doesFit_145 : decode cX11_doesFit 145 = .ok (.iaload, 1) := by decide +kernel
theorem dX11_doesFit_146 : decode cX11_doesFit 146 = .ok (.if_icmp .ne 7, 3) := by decide +kernel
theorem dX11_doesFit_149 : decode cX11_doesFit 149 = .ok (.iconst 1, 1) := by decide +kernel
theorem dX11_doesFit_150 : decode cX11_doesFit 150 = .ok (.goto 4, 3) := by decide +kernel
theorem dX11_doesFit_153 : decode cX11_doesFit 153 = .ok (.iconst 0, 1) := by decide +kernel
theorem dX11_doesFit_154 : decode cX11_doesFit 154 = .ok (.ireturn, 1) := by decide +kernel
theorem dX11_doesFit_155 : decode cX11_doesFit 155 = .ok (.iload 4, 2) := by decide +kernel
theorem dX11_doesFit_157 : decode cX11_doesFit 157 = .ok (.aload_n 0, 1) := by decide +kernel
theorem dX11_doesFit_158 : decode cX11_doesFit 158 = .ok (.aload_n 0, 1) := by decide +kernel
theorem dX11_doesFit_159 : decode cX11_doesFit 159 = .ok (.getfield 60, 3) := by decide +kernel
theorem dX11_doesFit_162 : decode cX11_doesFit 162 = .ok (.iload_n 2, 1) := by decide +kernel
theorem dX11_doesFit_163 : decode cX11_doesFit 163 = .ok (.iaload, 1) := by decide +kernel
theorem dX11_doesFit_164 : decode cX11_doesFit 164 = .ok (.aload_n 0, 1) := by decide +kernel
theorem dX11_doesFit_165 : decode cX11_doesFit 165 = .ok (.getfield 60, 3) := by decide +kernel
theorem dX11_doesFit_168 : decode cX11_doesFit 168 = .ok (.iload_n 2, 1) := by decide +kernel
theorem dX11_doesFit_169 : decode cX11_doesFit 169 = .ok (.iconst 1, 1) := by decide +kernel
theorem dX11_doesFit_170 : decode cX11_doesFit 170 = .ok (.iadd, 1) := by decide +kernel
theorem dX11_doesFit_171 : decode cX11_doesFit 171 = .ok (.iaload, 1) := by decide +kernel
theorem dX11_doesFit_172 : decode cX11_doesFit 172 = .ok (.invokevirtual 263, 3) := by decide +kernel
theorem dX11_doesFit_175 : decode cX11_doesFit 175 = .ok (.isub, 1) := by decide +kernel
theorem dX11_doesFit_176 : decode cX11_doesFit 176 = .ok (.istore 5, 2) := by decide +kernel
theorem dX11_doesFit_178 : decode cX11_doesFit 178 = .ok (.iload 5, 2) := by decide +kernel
theorem dX11_doesFit_180 : decode cX11_doesFit 180 = .ok (.ifCond .lt 21, 3) := by decide +kernel
theorem dX11_doesFit_183 : decode cX11_doesFit 183 = .ok (.aload_n 0, 1) := by decide +kernel
theorem dX11_doesFit_184 : decode cX11_doesFit 184 = .ok (.iload_n 1, 1) := by decide +kernel
theorem dX11_doesFit_185 : decode cX11_doesFit 185 = .ok (.iload_n 2, 1) := by decide +kernel
theorem dX11_doesFit_186 : decode cX11_doesFit 186 = .ok (.iconst 1, 1) := by decide +kernel
theorem dX11_doesFit_187 : decode cX11_doesFit 187 = .ok (.iadd, 1) := by decide +kernel
theorem dX11_doesFit_188 : decode cX11_doesFit 188 = .ok (.iload_n 3, 1) := by decide +kernel
theorem dX11_doesFit_189 : decode cX11_doesFit 189 = .ok (.iload 5, 2) := by decide +kernel
theorem dX11_doesFit_191 : decode cX11_doesFit 191 = .ok (.invokevirtual 403, 3) := by decide +kernel
theorem dX11_doesFit_194 : decode cX11_doesFit 194 = .ok (.ifCond .eq 7, 3) := by decide +kernel
theorem dX11_doesFit_197 : decode cX11_doesFit 197 = .ok (.iconst 1, 1) := by decide +kernel
theorem dX11_doesFit_198 : decode cX11_doesFit 198 = .ok (.goto 4, 3) := by decide +kernel
theorem dX11_doesFit_201 : decode cX11_doesFit 201 = .ok (.iconst 0, 1) := by decide +kernel
theorem dX11_doesFit_202 : decode cX11_doesFit 202 = .ok (.ireturn, 1) := by decide +kernel
theorem dX11_fits_0 : decode cX11_fits 0 = .ok (.aload_n 0, 1) := by decide +kernel
theorem dX11_fits_1 : decode cX11_fits 1 = .ok (.invokevirtual 176, 3) := by decide +kernel
theorem dX11_fits_4 : decode cX11_fits 4 = .ok (.aload_n 0, 1) := by decide +kernel
theorem dX11_fits_5 : decode cX11_fits 5 = .ok (.getfield 189, 3) := by decide +kernel
theorem dX11_fits_8 : decode cX11_fits 8 = .ok (.ifCond .ne 9, 3) := by decide +kernel
theorem dX11_fits_11 : decode cX11_fits 11 = .ok (.aload_n 0, 1) := by decide +kernel
theorem dX11_fits_12 : decode cX11_fits 12 = .ok (.iconst 1, 1) := by decide +kernel
theorem dX11_fits_13 : decode cX11_fits 13 = .ok (.invokevirtual 179, 3) := by decide +kernel
theorem dX11_fits_16 : decode cX11_fits 16 = .ok (.ireturn, 1) := by decide +kernel
theorem dX11_fits_17 : decode cX11_fits 17 = .ok (.aload_n 0, 1) := by decide +kernel
theorem dX11_fits_18 : decode cX11_fits 18 = .ok (.aload_n 0, 1) := by decide +kernel
theorem dX11_fits_19 : decode cX11_fits 19 = .ok (.getfield 20, 3) := by decide +kernel
theorem dX11_fits_22 : decode cX11_fits 22 = .ok (.iconst 1, 1) := by decide +kernel
theorem dX11_fits_23 : decode cX11_fits 23 = .ok (.iaload, 1) := by decide +kernel
theorem dX11_fits_24 : decode cX11_fits 24 = .ok (.iconst (-1), 1) := by decide +kernel
theorem dX11_fits_25 : decode cX11_fits 25 = .ok (.invokevirtual 414, 3) := by decide +kernel
theorem dX11_fits_28 : decode cX11_fits 28 = .ok (.aload_n 0, 1) := by decide +kernel
theorem dX11_fits_29 : decode cX11_fits 29 = .ok (.getfield 391, 3) := by decide +kernel
theorem dX11_fits_32 : decode cX11_fits 32 = .ok (.ireturn, 1) := by decide +kernel
theorem dX11_fit_0 : decode cX11_fit 0 = .ok (.aload_n 0, 1) := by decide +kernel
theorem dX11_fit_1 : decode cX11_fit 1 = .ok (.invokevirtual 176, 3) := by decide +kernel
theorem dX11_fit_4 : decode cX11_fit 4 = .ok (.aload_n 0, 1) := by decide +kernel
theorem dX11_fit_5 : decode cX11_fit 5 = .ok (.getfield 189, 3) := by decide +kernel
theorem dX11_fit_8 : decode cX11_fit 8 = .ok (.ifCond .eq 7, 3) := by decide +kernel
theorem dX11_fit_11 : decode cX11_fit 11 = .ok (.iload_n 1, 1) := by decide +kernel
theorem dX11_fit_12 : decode cX11_fit 12 = .ok (.ifCond .ge 9, 3) := by decide +kernel
theorem dX11_fit_15 : decode cX11_fit 15 = .ok (.aload_n 0, 1) := by decide +kernel
theorem dX11_fit_16 : decode cX11_fit 16 = .ok (.iconst 1, 1) := by decide +kernel
theorem dX11_fit_17 : decode cX11_fit 17 = .ok (.invokevirtual 179, 3) := by decide +kernel
theorem dX11_fit_20 : decode cX11_fit 20 = .ok (.ireturn, 1) := by decide +kernel
theorem dX11_fit_21 : decode cX11_fit 21 = .ok (.aload_n 0, 1) := by decide +kernel
theorem dX11_fit_22 : decode cX11_fit 22 = .ok (.aload_n 0, 1) := by decide +kernel
theorem dX11_fit_23 : decode cX11_fit 23 = .ok (.getfield 20, 3) := by decide +kernel
theorem dX11_fit_26 : decode cX11_fit 26 = .ok (.iconst 1, 1) := by decide +kernel
theorem dX11_fit_27 : decode cX11_fit 27 = .ok (.iaload, 1) := by decide +kernel
theorem dX11_fit_28 : decode cX11_fit 28 = .ok (.iload_n 1, 1) := by decide +kernel
theorem dX11_fit_29 : decode cX11_fit 29 = .ok (.invokevirtual 414, 3) := by decide +kernel
theorem dX11_fit_32 : decode cX11_fit 32 = .ok (.iload_n 1, 1) := by decide +kernel
theorem dX11_fit_33 : decode cX11_fit 33 = .ok (.aload_n 0, 1) := by decide +kernel
theorem dX11_fit_34 : decode cX11_fit 34 = .ok (.getfield 391, 3) := by decide +kernel
theorem dX11_fit_37 : decode cX11_fit 37 = .ok (.if_icmp .ge 31, 3) := by decide +kernel
theorem dX11_fit_40 : decode cX11_fit 40 = .ok (.iload_n 2, 1) := by decide +kernel
theorem dX11_fit_41 : decode cX11_fit 41 = .ok (.iconst 0, 1) := by decide +kernel
theorem dX11_fit_42 : decode cX11_fit 42 = .ok (.bipush 8, 2) := by decide +kernel
theorem dX11_fit_44 : decode cX11_fit 44 = .ok (.invokestatic 161, 3) := by decide +kernel
theorem dX11_fit_47 : decode cX11_fit 47 = .ok (.ifCond .eq 21, 3) := by decide +kernel
theorem dX11_fit_50 : decode cX11_fit 50 = .ok (.aload_n 0, 1) := by decide +kernel
theorem dX11_fit_51 : decode cX11_fit 51 = .ok (.getfield 63, 3) := by decide +kernel
theorem dX11_fit_54 : decode cX11_fit 54 = .ok (.iload_n 2, 1) := by decide +kernel
theorem dX11_fit_55 : decode cX11_fit 55 = .ok (.iaload, 1) := by decide +kernel
theorem dX11_fit_56 : decode cX11_fit 56 = .ok (.ifCond .lt 12, 3) := by decide +kernel
theorem dX11_fit_59 : decode cX11_fit 59 = .ok (.aload_n 0, 1) := by decide +kernel
theorem dX11_fit_60 : decode cX11_fit 60 = .ok (.getfield 63, 3) := by decide +kernel
theorem dX11_fit_63 : decode cX11_fit 63 = .ok (.iload_n 2, 1) := by decide +kernel
theorem dX11_fit_64 : decode cX11_fit 64 = .ok (.iaload, 1) := by decide +kernel
theorem dX11_fit_65 : decode cX11_fit 65 = .ok (.goto 8, 3) := by decide +kernel
theorem dX11_fit_68 : decode cX11_fit 68 = .ok (.aload_n 0, 1) := by decide +kernel
theorem dX11_fit_69 : decode cX11_fit 69 = .ok (.iconst 1, 1) := by decide +kernel
theorem dX11_fit_70 : decode cX11_fit 70 = .ok (.invokevirtual 179, 3) := by decide +kernel
theorem dX11_fit_73 : decode cX11_fit 73 = .ok (.ireturn, 1) := by decide +kernel
theorem dX11_went_0 : decode cX11_went 0 = .ok (.aload_n 0, 1) := by decide +kernel
theorem dX11_went_1 : decode cX11_went 1 = .ok (.invokevirtual 176, 3) := by decide +kernel
theorem dX11_went_4 : decode cX11_went 4 = .ok (.aload_n 0, 1) := by decide +kernel
theorem dX11_went_5 : decode cX11_went 5 = .ok (.getfield 189, 3) := by decide +kernel
theorem dX11_went_8 : decode cX11_went 8 = .ok (.ifCond .ne 9, 3) := by decide +kernel
theorem dX11_went_11 : decode cX11_went 11 = .ok (.aload_n 0, 1) := by decide +kernel
theorem dX11_went_12 : decode cX11_went 12 = .ok (.iconst 1, 1) := by decide +kernel
theorem dX11_went_13 : decode cX11_went 13 = .ok (.invokevirtual 179, 3) := by decide +kernel
theorem dX11_went_16 : decode cX11_went 16 = .ok (.ireturn, 1) := by decide +kernel
theorem dX11_went_17 : decode cX11_went 17 = .ok (.aload_n 0, 1) := by decide +kernel
theorem dX11_went_18 : decode cX11_went 18 = .ok (.aload_n 0, 1) := by decide +kernel
theorem dX11_went_19 : decode cX11_went 19 = .ok (.getfield 20, 3) := by decide +kernel
theorem dX11_went_22 : decode cX11_went 22 = .ok (.iconst 1, 1) := by decide +kernel
theorem dX11_went_23 : decode cX11_went 23 = .ok (.iaload, 1) := by decide +kernel
theorem dX11_went_24 : decode cX11_went 24 = .ok (.iconst (-1), 1) := by decide +kernel
theorem dX11_went_25 : decode cX11_went 25 = .ok (.invokevirtual 414, 3) := by decide +kernel
theorem dX11_went_28 : decode cX11_went 28 = .ok (.iload_n 1, 1) := by decide +kernel
theorem dX11_went_29 : decode cX11_went 29 = .ok (.ifCond .eq 21, 3) := by decide +kernel
theorem dX11_went_32 : decode cX11_went 32 = .ok (.aload_n 0, 1) := by decide +kernel
theorem dX11_went_33 : decode cX11_went 33 = .ok (.getfield 391, 3) := by decide +kernel
theorem dX11_went_36 : decode cX11_went 36 = .ok (.ifCond .ne 7, 3) := by decide +kernel
theorem dX11_went_39 : decode cX11_went 39 = .ok (.iconst 0, 1) := by decide +kernel
theorem dX11_went_40 : decode cX11_went 40 = .ok (.goto 14, 3) := by decide +kernel
theorem dX11_went_43 : decode cX11_went 43 = .ok (.aload_n 0, 1) := by decide +kernel
theorem dX11_went_44 : decode cX11_went 44 = .ok (.getfield 394, 3) := by decide +kernel
theorem dX11_went_47 : decode cX11_went 47 = .ok (.goto 7, 3) := by decide +kernel
theorem dX11_went_50 : decode cX11_went 50 = .ok (.aload_n 0, 1) := by decide +kernel
theorem dX11_went_51 : decode cX11_went 51 = .ok (.getfield 397, 3) := by decide +kernel
theorem dX11_went_54 : decode cX11_went 54 = .ok (.ireturn, 1) := by decide +kernel
theorem dX11_needle_0 : decode cX11_needle 0 = .ok (.aload_n 0, 1) := by decide +kernel
theorem dX11_needle_1 : decode cX11_needle 1 = .ok (.invokevirtual 176, 3) := by decide +kernel
theorem dX11_needle_4 : decode cX11_needle 4 = .ok (.aload_n 0, 1) := by decide +kernel
theorem dX11_needle_5 : decode cX11_needle 5 = .ok (.getfield 189, 3) := by decide +kernel
theorem dX11_needle_8 : decode cX11_needle 8 = .ok (.ifCond .ne 9, 3) := by decide +kernel
theorem dX11_needle_11 : decode cX11_needle 11 = .ok (.aload_n 0, 1) := by decide +kernel
theorem dX11_needle_12 : decode cX11_needle 12 = .ok (.iconst 1, 1) := by decide +kernel
theorem dX11_needle_13 : decode cX11_needle 13 = .ok (.invokevirtual 179, 3) := by decide +kernel
theorem dX11_needle_16 : decode cX11_needle 16 = .ok (.ireturn, 1) := by decide +kernel
theorem dX11_needle_17 : decode cX11_needle 17 = .ok (.bipush (-2), 2) := by decide +kernel
theorem dX11_needle_19 : decode cX11_needle 19 = .ok (.istore_n 2, 1) := by decide +kernel
theorem dX11_needle_20 : decode cX11_needle 20 = .ok (.iconst 0, 1) := by decide +kernel
theorem dX11_needle_21 : decode cX11_needle 21 = .ok (.istore_n 3, 1) := by decide +kernel
theorem dX11_needle_22 : decode cX11_needle 22 = .ok (.iload_n 3, 1) := by decide +kernel
theorem dX11_needle_23 : decode cX11_needle 23 = .ok (.aload_n 0, 1) := by decide +kernel
theorem dX11_needle_24 : decode cX11_needle 24 = .ok (.getfield 20, 3) := by decide +kernel
theorem dX11_needle_27 : decode cX11_needle 27 = .ok (.iconst 0, 1) := by decide +kernel
theorem dX11_needle_28 : decode cX11_needle 28 = .ok (.iaload, 1) := by decide +kernel
theorem dX11_needle_29 : decode cX11_needle 29 = .ok (.if_icmp .gt 34, 3) := by decide +kernel
theorem dX11_needle_32 : decode cX11_needle 32 = .ok (.aload_n 0, 1) := by decide +kernel
theorem dX11_needle_33 : decode cX11_needle 33 = .ok (.iload_n 3, 1) := by decide +kernel
theorem dX11_needle_34 : decode cX11_needle 34 = .ok (.iconst (-1), 1) := by decide +kernel
theorem dX11_needle_35 : decode cX11_needle 35 = .ok (.invokevirtual 414, 3) := by decide +kernel
theorem dX11_needle_38 : decode cX11_needle 38 = .ok (.aload_n 0, 1) := by decide +kernel
theorem dX11_needle_39 : decode cX11_needle 39 = .ok (.getfield 391, 3) := by decide +kernel
theorem dX11_needle_42 : decode cX11_needle 42 = .ok (.ifCond .le 15, 3) := by decide +kernel
theorem dX11_needle_45 : decode cX11_needle 45 = .ok (.iload_n 2, 1) := by decide +kernel
theorem dX11_needle_46 : decode cX11_needle 46 = .ok (.bipush (-2), 2) := by decide +kernel
theorem dX11_needle_48 : decode cX11_needle 48 = .ok (.if_icmp .eq 7, 3) := by decide +kernel
theorem dX11_needle_51 : decode cX11_needle 51 = .ok (.iload_n 1, 1) := by decide +kernel
theorem dX11_needle_52 : decode cX11_needle 52 = .ok (.ifCond .eq 5, 3) := by decide +kernel
theorem dX11_needle_55 : decode cX11_needle 55 = .ok (.iload_n 3, 1) := by decide +kernel
theorem dX11_needle_56 : decode cX11_needle 56 = .ok (.istore_n 2, 1) := by decide +kernel
theorem dX11_needle_57 : decode cX11_needle 57 = .ok (.iinc 3 1, 3) := by decide +kernel
theorem dX11_needle_60 : decode cX11_needle 60 = .ok (.goto (-38), 3) := by decide +kernel
theorem dX11_needle_63 : decode cX11_needle 63 = .ok (.iload_n 2, 1) := by decide +kernel
theorem dX11_needle_64 : decode cX11_needle 64 = .ok (.ireturn, 1) := by decide +kernel
theorem dX11_drawn_0 : decode cX11_drawn 0 = .ok (.bipush 75, 2) := by decide +kernel
theorem dX11_drawn_2 : decode cX11_drawn 2 = .ok (.iload_n 0, 1) := by decide +kernel
theorem dX11_drawn_3 : decode cX11_drawn 3 = .ok (.imul, 1) := by decide +kernel
theorem dX11_drawn_4 : decode cX11_drawn 4 = .ok (.bipush 74, 2) := by decide +kernel
theorem dX11_drawn_6 : decode cX11_drawn 6 = .ok (.iadd, 1) := by decide +kernel
theorem dX11_drawn_7 : decode cX11_drawn 7 = .ok (.ldc_w 417, 3) := by decide +kernel
theorem dX11_drawn_10 : decode cX11_drawn 10 = .ok (.irem, 1) := by decide +kernel
theorem dX11_drawn_11 : decode cX11_drawn 11 = .ok (.ireturn, 1) := by decide +kernel
theorem dX11_drawPrice_0 : decode cX11_drawPrice 0 = .ok (.aload_n 0, 1) := by decide +kernel
theorem dX11_drawPrice_1 : decode cX11_drawPrice 1 = .ok (.iload_n 1, 1) := by decide +kernel
theorem dX11_drawPrice_2 : decode cX11_drawPrice 2 = .ok (.iconst 0, 1) := by decide +kernel
theorem dX11_drawPrice_3 : decode cX11_drawPrice 3 = .ok (.invokevirtual 260, 3) := by decide +kernel
theorem dX11_drawPrice_6 : decode cX11_drawPrice 6 = .ok (.ifCond .ne 5, 3) := by decide +kernel
theorem dX11_drawPrice_9 : decode cX11_drawPrice 9 = .ok (.iconst 0, 1) := by decide +kernel
theorem dX11_drawPrice_10 : decode cX11_drawPrice 10 = .ok (.ireturn, 1) := by decide +kernel
theorem dX11_drawPrice_11 : decode cX11_drawPrice 11 = .ok (.aload_n 0, 1) := by decide +kernel
theorem dX11_drawPrice_12 : decode cX11_drawPrice 12 = .ok (.aload_n 0, 1) := by decide +kernel
theorem dX11_drawPrice_13 : decode cX11_drawPrice 13 = .ok (.getfield 418, 3) := by decide +kernel
theorem dX11_drawPrice_16 : decode cX11_drawPrice 16 = .ok (.invokestatic 421, 3) := by decide +kernel
theorem dX11_drawPrice_19 : decode cX11_drawPrice 19 = .ok (.putfield 418, 3) := by decide +kernel
theorem dX11_drawPrice_22 : decode cX11_drawPrice 22 = .ok (.aload_n 0, 1) := by decide +kernel
theorem dX11_drawPrice_23 : decode cX11_drawPrice 23 = .ok (.getfield 418, 3) := by decide +kernel
theorem dX11_drawPrice_26 : decode cX11_drawPrice 26 = .ok (.bipush 10, 2) := by decide +kernel
theorem dX11_drawPrice_28 : decode cX11_drawPrice 28 = .ok (.irem, 1) := by decide +kernel
theorem dX11_drawPrice_29 : decode cX11_drawPrice 29 = .ok (.aload_n 0, 1) := by decide +kernel
theorem dX11_drawPrice_30 : decode cX11_drawPrice 30 = .ok (.iload_n 1, 1) := by decide +kernel
theorem dX11_drawPrice_31 : decode cX11_drawPrice 31 = .ok (.iconst 2, 1) := by decide +kernel
theorem dX11_drawPrice_32 : decode cX11_drawPrice 32 = .ok (.invokevirtual 260, 3) := by decide +kernel
theorem dX11_drawPrice_35 : decode cX11_drawPrice 35 = .ok (.if_icmp .ge 7, 3) := by decide +kernel
theorem dX11_drawPrice_38 : decode cX11_drawPrice 38 = .ok (.iconst 1, 1) := by decide +kernel
theorem dX11_drawPrice_39 : decode cX11_drawPrice 39 = .ok (.goto 4, 3) := by decide +kernel
theorem dX11_drawPrice_42 : decode cX11_drawPrice 42 = .ok (.iconst 0, 1) := by decide +kernel
theorem dX11_drawPrice_43 : decode cX11_drawPrice 43 = .ok (.istore_n 2, 1) := by decide +kernel
theorem dX11_drawPrice_44 : decode cX11_drawPrice 44 = .ok (.iconst 0, 1) := by decide +kernel
theorem dX11_drawPrice_45 : decode cX11_drawPrice 45 = .ok (.istore_n 3, 1) := by decide +kernel
theorem dX11_drawPrice_46 : decode cX11_drawPrice 46 = .ok (.aload_n 0, 1) := by decide +kernel
theorem dX11_drawPrice_47 : decode cX11_drawPrice 47 = .ok (.iload_n 1, 1) := by decide +kernel
theorem dX11_drawPrice_48 : decode cX11_drawPrice 48 = .ok (.iconst 1, 1) := by decide +kernel
theorem dX11_drawPrice_49 : decode cX11_drawPrice 49 = .ok (.invokevirtual 260, 3) := by decide +kernel
theorem dX11_drawPrice_52 : decode cX11_drawPrice 52 = .ok (.ifCond .le 21, 3) := by decide +kernel
theorem dX11_drawPrice_55 : decode cX11_drawPrice 55 = .ok (.aload_n 0, 1) := by decide +kernel
theorem dX11_drawPrice_56 : decode cX11_drawPrice 56 = .ok (.aload_n 0, 1) := by decide +kernel
theorem dX11_drawPrice_57 : decode cX11_drawPrice 57 = .ok (.getfield 418, 3) := by decide +kernel
theorem dX11_drawPrice_60 : decode cX11_drawPrice 60 = .ok (.invokestatic 421, 3) := by decide +kernel
theorem dX11_drawPrice_63 : decode cX11_drawPrice 63 = .ok (.putfield 418, 3) := by decide +kernel
theorem dX11_drawPrice_66 : decode cX11_drawPrice 66 = .ok (.aload_n 0, 1) := by decide +kernel
theorem dX11_drawPrice_67 : decode cX11_drawPrice 67 = .ok (.getfield 418, 3) := by decide +kernel
theorem dX11_drawPrice_70 : decode cX11_drawPrice 70 = .ok (.iconst 2, 1) := by decide +kernel
theorem dX11_drawPrice_71 : decode cX11_drawPrice 71 = .ok (.irem, 1) := by decide +kernel
theorem dX11_drawPrice_72 : decode cX11_drawPrice 72 = .ok (.istore_n 3, 1) := by decide +kernel
theorem dX11_drawPrice_73 : decode cX11_drawPrice 73 = .ok (.iload_n 2, 1) := by decide +kernel
theorem dX11_drawPrice_74 : decode cX11_drawPrice 74 = .ok (.ifCond .eq 7, 3) := by decide +kernel
theorem dX11_drawPrice_77 : decode cX11_drawPrice 77 = .ok (.iconst 0, 1) := by decide +kernel
theorem dX11_drawPrice_78 : decode cX11_drawPrice 78 = .ok (.goto 9, 3) := by decide +kernel
theorem dX11_drawPrice_81 : decode cX11_drawPrice 81 = .ok (.aload_n 0, 1) := by decide +kernel
theorem dX11_drawPrice_82 : decode cX11_drawPrice 82 = .ok (.iload_n 1, 1) := by decide +kernel
theorem dX11_drawPrice_83 : decode cX11_drawPrice 83 = .ok (.iload_n 3, 1) := by decide +kernel
theorem dX11_drawPrice_84 : decode cX11_drawPrice 84 = .ok (.invokevirtual 260, 3) := by decide +kernel
theorem dX11_drawPrice_87 : decode cX11_drawPrice 87 = .ok (.ireturn, 1) := by decide +kernel
theorem dX11_comes_0 : decode cX11_comes 0 = .ok (.aload_n 0, 1) := by decide +kernel
theorem dX11_comes_1 : decode cX11_comes 1 = .ok (.aload_n 0, 1) := by decide +kernel
theorem dX11_comes_2 : decode cX11_comes 2 = .ok (.getfield 29, 3) := by decide +kernel
theorem dX11_comes_5 : decode cX11_comes 5 = .ok (.bipush 6, 2) := by decide +kernel
theorem dX11_comes_7 : decode cX11_comes 7 = .ok (.iaload, 1) := by decide +kernel
theorem dX11_comes_8 : decode cX11_comes 8 = .ok (.putfield 418, 3) := by decide +kernel
theorem dX11_comes_11 : decode cX11_comes 11 = .ok (.aload_n 0, 1) := by decide +kernel
theorem dX11_comes_12 : decode cX11_comes 12 = .ok (.getfield 29, 3) := by decide +kernel
theorem dX11_comes_15 : decode cX11_comes 15 = .ok (.iconst 0, 1) := by decide +kernel
theorem dX11_comes_16 : decode cX11_comes 16 = .ok (.iload_n 1, 1) := by decide +kernel
theorem dX11_comes_17 : decode cX11_comes 17 = .ok (.iastore, 1) := by decide +kernel
theorem dX11_comes_18 : decode cX11_comes 18 = .ok (.aload_n 0, 1) := by decide +kernel
theorem dX11_comes_19 : decode cX11_comes 19 = .ok (.getfield 29, 3) := by decide +kernel
theorem dX11_comes_22 : decode cX11_comes 22 = .ok (.iconst 4, 1) := by decide +kernel
theorem dX11_comes_23 : decode cX11_comes 23 = .ok (.aload_n 0, 1) := by decide +kernel
theorem dX11_comes_24 : decode cX11_comes 24 = .ok (.iload_n 1, 1) := by decide +kernel
theorem dX11_comes_25 : decode cX11_comes 25 = .ok (.invokevirtual 424, 3) := by decide +kernel
theorem dX11_comes_28 : decode cX11_comes 28 = .ok (.iastore, 1) := by decide +kernel
theorem dX11_comes_29 : decode cX11_comes 29 = .ok (.aload_n 0, 1) := by decide +kernel
theorem dX11_comes_30 : decode cX11_comes 30 = .ok (.getfield 29, 3) := by decide +kernel
theorem dX11_comes_33 : decode cX11_comes 33 = .ok (.iconst 5, 1) := by decide +kernel
theorem dX11_comes_34 : decode cX11_comes 34 = .ok (.iconst 0, 1) := by decide +kernel
theorem dX11_comes_35 : decode cX11_comes 35 = .ok (.iastore, 1) := by decide +kernel
theorem dX11_comes_36 : decode cX11_comes 36 = .ok (.aload_n 0, 1) := by decide +kernel
theorem dX11_comes_37 : decode cX11_comes 37 = .ok (.getfield 29, 3) := by decide +kernel
theorem dX11_comes_40 : decode cX11_comes 40 = .ok (.bipush 6, 2) := by decide +kernel
theorem dX11_comes_42 : decode cX11_comes 42 = .ok (.aload_n 0, 1) := by decide +kernel
theorem dX11_comes_43 : decode cX11_comes 43 = .ok (.getfield 418, 3) := by decide +kernel
theorem dX11_comes_46 : decode cX11_comes 46 = .ok (.iastore, 1) := by decide +kernel
theorem dX11_comes_47 : decode cX11_comes 47 = .ok (.return_, 1) := by decide +kernel
theorem dX11_runBy_0 : decode cX11_runBy 0 = .ok (.aload_n 0, 1) := by decide +kernel
theorem dX11_runBy_1 : decode cX11_runBy 1 = .ok (.iload_n 2, 1) := by decide +kernel
theorem dX11_runBy_2 : decode cX11_runBy 2 = .ok (.putfield 418, 3) := by decide +kernel
theorem dX11_runBy_5 : decode cX11_runBy 5 = .ok (.aload_n 0, 1) := by decide +kernel
theorem dX11_runBy_6 : decode cX11_runBy 6 = .ok (.getfield 20, 3) := by decide +kernel
theorem dX11_runBy_9 : decode cX11_runBy 9 = .ok (.iconst 1, 1) := by decide +kernel
theorem dX11_runBy_10 : decode cX11_runBy 10 = .ok (.iaload, 1) := by decide +kernel
theorem dX11_runBy_11 : decode cX11_runBy 11 = .ok (.istore_n 3, 1) := by decide +kernel
theorem dX11_runBy_12 : decode cX11_runBy 12 = .ok (.iconst 0, 1) := by decide +kernel
theorem dX11_runBy_13 : decode cX11_runBy 13 = .ok (.istore 4, 2) := by decide +kernel
theorem dX11_runBy_15 : decode cX11_runBy 15 = .ok (.iconst 0, 1) := by decide +kernel
theorem dX11_runBy_16 : decode cX11_runBy 16 = .ok (.istore 5, 2) := by decide +kernel
theorem dX11_runBy_18 : decode cX11_runBy 18 = .ok (.iload 5, 2) := by decide +kernel
theorem dX11_runBy_20 : decode cX11_runBy 20 = .ok (.aload_n 0, 1) := by decide +kernel
theorem dX11_runBy_21 : decode cX11_runBy 21 = .ok (.invokevirtual 254, 3) := by decide +kernel
theorem dX11_runBy_24 : decode cX11_runBy 24 = .ok (.if_icmp .ge 87, 3) := by decide +kernel
theorem dX11_runBy_27 : decode cX11_runBy 27 = .ok (.aload_n 0, 1) := by decide +kernel
theorem dX11_runBy_28 : decode cX11_runBy 28 = .ok (.aload_n 0, 1) := by decide +kernel
theorem dX11_runBy_29 : decode cX11_runBy 29 = .ok (.iload 5, 2) := by decide +kernel
theorem dX11_runBy_31 : decode cX11_runBy 31 = .ok (.invokevirtual 257, 3) := by decide +kernel
theorem dX11_runBy_34 : decode cX11_runBy 34 = .ok (.invokevirtual 424, 3) := by decide +kernel
theorem dX11_runBy_37 : decode cX11_runBy 37 = .ok (.istore 6, 2) := by decide +kernel
theorem dX11_runBy_39 : decode cX11_runBy 39 = .ok (.iload 6, 2) := by decide +kernel
theorem dX11_runBy_41 : decode cX11_runBy 41 = .ok (.ifCond .ne 7, 3) := by decide +kernel
theorem dX11_runBy_44 : decode cX11_runBy 44 = .ok (.iconst 0, 1) := by decide +kernel
theorem dX11_runBy_45 : decode cX11_runBy 45 = .ok (.goto 13, 3) := by decide +kernel
theorem dX11_runBy_48 : decode cX11_runBy 48 = .ok (.aload_n 0, 1) := by decide +kernel
theorem dX11_runBy_49 : decode cX11_runBy 49 = .ok (.iload_n 1, 1) := by decide +kernel
theorem dX11_runBy_50 : decode cX11_runBy 50 = .ok (.iload 5, 2) := by decide +kernel
theorem dX11_runBy_52 : decode cX11_runBy 52 = .ok (.iload_n 3, 1) := by decide +kernel
theorem dX11_runBy_53 : decode cX11_runBy 53 = .ok (.iload 6, 2) := by decide +kernel
theorem dX11_runBy_55 : decode cX11_runBy 55 = .ok (.invokevirtual 306, 3) := by decide +kernel
theorem dX11_runBy_58 : decode cX11_runBy 58 = .ok (.istore 7, 2) := by decide +kernel
theorem dX11_runBy_60 : decode cX11_runBy 60 = .ok (.iload 4, 2) := by decide +kernel
theorem dX11_runBy_62 : decode cX11_runBy 62 = .ok (.iload 7, 2) := by decide +kernel
theorem dX11_runBy_64 : decode cX11_runBy 64 = .ok (.ifCond .ne 7, 3) := by decide +kernel
theorem dX11_runBy_67 : decode cX11_runBy 67 = .ok (.iconst 0, 1) := by decide +kernel
theorem dX11_runBy_68 : decode cX11_runBy 68 = .ok (.goto 15, 3) := by decide +kernel
theorem dX11_runBy_71 : decode cX11_runBy 71 = .ok (.iload 7, 2) := by decide +kernel
theorem dX11_runBy_73 : decode cX11_runBy 73 = .ok (.iload 6, 2) := by decide +kernel
theorem dX11_runBy_75 : decode cX11_runBy 75 = .ok (.imul, 1) := by decide +kernel
theorem dX11_runBy_76 : decode cX11_runBy 76 = .ok (.aload_n 0, 1) := by decide +kernel
theorem dX11_runBy_77 : decode cX11_runBy 77 = .ok (.getfield 20, 3) := by decide +kernel
theorem dX11_runBy_80 : decode cX11_runBy 80 = .ok (.iconst 2, 1) := by decide +kernel
theorem dX11_runBy_81 : decode cX11_runBy 81 = .ok (.iaload, 1) := by decide +kernel
theorem dX11_runBy_82 : decode cX11_runBy 82 = .ok (.iadd, 1) := by decide +kernel
theorem dX11_runBy_83 : decode cX11_runBy 83 = .ok (.iadd, 1) := by decide +kernel
theorem dX11_runBy_84 : decode cX11_runBy 84 = .ok (.istore 4, 2) := by decide +kernel
theorem dX11_runBy_86 : decode cX11_runBy 86 = .ok (.iload_n 3, 1) := by decide +kernel
theorem dX11_runBy_87 : decode cX11_runBy 87 = .ok (.iload 7, 2) := by decide +kernel
theorem dX11_runBy_89 : decode cX11_runBy 89 = .ok (.aload_n 0, 1) := by decide +kernel
theorem dX11_runBy_90 : decode cX11_runBy 90 = .ok (.iload 5, 2) := by decide +kernel
theorem dX11_runBy_92 : decode cX11_runBy 92 = .ok (.invokevirtual 266, 3) := by decide +kernel
theorem dX11_runBy_95 : decode cX11_runBy 95 = .ok (.isub, 1) := by decide +kernel
theorem dX11_runBy_96 : decode cX11_runBy 96 = .ok (.iadd, 1) := by decide +kernel
theorem dX11_runBy_97 : decode cX11_runBy 97 = .ok (.istore_n 3, 1) := by decide +kernel
theorem dX11_runBy_98 : decode cX11_runBy 98 = .ok (.iload_n 3, 1) := by decide +kernel
theorem dX11_runBy_99 : decode cX11_runBy 99 = .ok (.ifCond .ge 6, 3) := by decide +kernel
theorem dX11_runBy_102 : decode cX11_runBy 102 = .ok (.bipush (-2), 2) := by decide +kernel
theorem dX11_runBy_104 : decode cX11_runBy 104 = .ok (.ireturn, 1) := by decide +kernel
theorem dX11_runBy_105 : decode cX11_runBy 105 = .ok (.iinc 5 1, 3) := by decide +kernel
theorem dX11_runBy_108 : decode cX11_runBy 108 = .ok (.goto (-90), 3) := by decide +kernel
theorem dX11_runBy_111 : decode cX11_runBy 111 = .ok (.iload 4, 2) := by decide +kernel
theorem dX11_runBy_113 : decode cX11_runBy 113 = .ok (.ireturn, 1) := by decide +kernel
theorem dX11_run_0 : decode cX11_run 0 = .ok (.aload_n 0, 1) := by decide +kernel
theorem dX11_run_1 : decode cX11_run 1 = .ok (.invokevirtual 176, 3) := by decide +kernel
theorem dX11_run_4 : decode cX11_run 4 = .ok (.aload_n 0, 1) := by decide +kernel
theorem dX11_run_5 : decode cX11_run 5 = .ok (.iload_n 1, 1) := by decide +kernel
theorem dX11_run_6 : decode cX11_run 6 = .ok (.invokevirtual 299, 3) := by decide +kernel
theorem dX11_run_9 : decode cX11_run 9 = .ok (.ifCond .ne 9, 3) := by decide +kernel
theorem dX11_run_12 : decode cX11_run 12 = .ok (.aload_n 0, 1) := by decide +kernel
theorem dX11_run_13 : decode cX11_run 13 = .ok (.iconst 1, 1) := by decide +kernel
theorem dX11_run_14 : decode cX11_run 14 = .ok (.invokevirtual 179, 3) := by decide +kernel
theorem dX11_run_17 : decode cX11_run 17 = .ok (.ireturn, 1) := by decide +kernel
theorem dX11_run_18 : decode cX11_run 18 = .ok (.iload_n 2, 1) := by decide +kernel
theorem dX11_run_19 : decode cX11_run 19 = .ok (.iconst 0, 1) := by decide +kernel
theorem dX11_run_20 : decode cX11_run 20 = .ok (.ldc_w 427, 3) := by decide +kernel
theorem dX11_run_23 : decode cX11_run 23 = .ok (.invokestatic 161, 3) := by decide +kernel
theorem dX11_run_26 : decode cX11_run 26 = .ok (.ifCond .eq 12, 3) := by decide +kernel
theorem dX11_run_29 : decode cX11_run 29 = .ok (.aload_n 0, 1) := by decide +kernel
theorem dX11_run_30 : decode cX11_run 30 = .ok (.iload_n 1, 1) := by decide +kernel
theorem dX11_run_31 : decode cX11_run 31 = .ok (.iload_n 2, 1) := by decide +kernel
theorem dX11_run_32 : decode cX11_run 32 = .ok (.invokevirtual 428, 3) := by decide +kernel
theorem dX11_run_35 : decode cX11_run 35 = .ok (.goto 8, 3) := by decide +kernel
theorem dX11_run_38 : decode cX11_run 38 = .ok (.aload_n 0, 1) := by decide +kernel
theorem dX11_run_39 : decode cX11_run 39 = .ok (.iconst 2, 1) := by decide +kernel
theorem dX11_run_40 : decode cX11_run 40 = .ok (.invokevirtual 179, 3) := by decide +kernel
theorem dX11_run_43 : decode cX11_run 43 = .ok (.ireturn, 1) := by decide +kernel
theorem dX11_through_0 : decode cX11_through 0 = .ok (.aload_n 0, 1) := by decide +kernel
theorem dX11_through_1 : decode cX11_through 1 = .ok (.invokevirtual 176, 3) := by decide +kernel
theorem dX11_through_4 : decode cX11_through 4 = .ok (.aload_n 0, 1) := by decide +kernel
theorem dX11_through_5 : decode cX11_through 5 = .ok (.iload_n 1, 1) := by decide +kernel
theorem dX11_through_6 : decode cX11_through 6 = .ok (.invokevirtual 299, 3) := by decide +kernel
theorem dX11_through_9 : decode cX11_through 9 = .ok (.ifCond .ne 9, 3) := by decide +kernel
theorem dX11_through_12 : decode cX11_through 12 = .ok (.aload_n 0, 1) := by decide +kernel
theorem dX11_through_13 : decode cX11_through 13 = .ok (.iconst 1, 1) := by decide +kernel
theorem dX11_through_14 : decode cX11_through 14 = .ok (.invokevirtual 179, 3) := by decide +kernel
theorem dX11_through_17 : decode cX11_through 17 = .ok (.ireturn, 1) := by decide +kernel
theorem dX11_through_18 : decode cX11_through 18 = .ok (.iload_n 2, 1) := by decide +kernel
theorem dX11_through_19 : decode cX11_through 19 = .ok (.iconst 0, 1) := by decide +kernel
theorem dX11_through_20 : decode cX11_through 20 = .ok (.ldc_w 427, 3) := by decide +kernel
theorem dX11_through_23 : decode cX11_through 23 = .ok (.invokestatic 161, 3) := by decide +kernel
theorem dX11_through_26 : decode cX11_through 26 = .ok (.ifCond .eq 13, 3) := by decide +kernel
theorem dX11_through_29 : decode cX11_through 29 = .ok (.iload_n 3, 1) := by decide +kernel
theorem dX11_through_30 : decode cX11_through 30 = .ok (.iconst 1, 1) := by decide +kernel
theorem dX11_through_31 : decode cX11_through 31 = .ok (.bipush 50, 2) := by decide +kernel
theorem dX11_through_33 : decode cX11_through 33 = .ok (.invokestatic 161, 3) := by decide +kernel
theorem dX11_through_36 : decode cX11_through 36 = .ok (.ifCond .ne 9, 3) := by decide +kernel
theorem dX11_through_39 : decode cX11_through 39 = .ok (.aload_n 0, 1) := by decide +kernel
theorem dX11_through_40 : decode cX11_through 40 = .ok (.iconst 2, 1) := by decide +kernel
theorem dX11_through_41 : decode cX11_through 41 = .ok (.invokevirtual 179, 3) := by decide +kernel
theorem dX11_through_44 : decode cX11_through 44 = .ok (.ireturn, 1) := by decide +kernel
theorem dX11_through_45 : decode cX11_through 45 = .ok (.iconst 0, 1) := by decide +kernel
theorem dX11_through_46 : decode cX11_through 46 = .ok (.istore 4, 2) := by decide +kernel
theorem dX11_through_48 : decode cX11_through 48 = .ok (.iconst 0, 1) := by decide +kernel
theorem dX11_through_49 : decode cX11_through 49 = .ok (.istore 5, 2) := by decide +kernel
theorem dX11_through_51 : decode cX11_through 51 = .ok (.iload 5, 2) := by decide +kernel
theorem dX11_through_53 : decode cX11_through 53 = .ok (.iload_n 3, 1) := by decide +kernel
theorem dX11_through_54 : decode cX11_through 54 = .ok (.if_icmp .ge 37, 3) := by decide +kernel
theorem dX11_through_57 : decode cX11_through 57 = .ok (.iload 4, 2) := by decide +kernel
theorem dX11_through_59 : decode cX11_through 59 = .ok (.aload_n 0, 1) := by decide +kernel
theorem dX11_through_60 : decode cX11_through 60 = .ok (.iload_n 1, 1) := by decide +kernel
theorem dX11_through_61 : decode cX11_through 61 = .ok (.iload_n 2, 1) := by decide +kernel
theorem dX11_through_62 : decode cX11_through 62 = .ok (.iload 5, 2) := by decide +kernel
theorem dX11_through_64 : decode cX11_through 64 = .ok (.iadd, 1) := by decide +kernel
theorem dX11_through_65 : decode cX11_through 65 = .ok (.ldc_w 417, 3) := by decide +kernel
theorem dX11_through_68 : decode cX11_through 68 = .ok (.irem, 1) := by decide +kernel
theorem dX11_through_69 : decode cX11_through 69 = .ok (.invokevirtual 428, 3) := by decide +kernel
theorem dX11_through_72 : decode cX11_through 72 = .ok (.bipush (-2), 2) := by decide +kernel
theorem dX11_through_74 : decode cX11_through 74 = .ok (.if_icmp .ne 7, 3) := by decide +kernel
theorem dX11_through_77 : decode cX11_through 77 = .ok (.iconst 0, 1) := by decide +kernel
theorem dX11_through_78 : decode cX11_through 78 = .ok (.goto 4, 3) := by decide +kernel
theorem dX11_through_81 : decode cX11_through 81 = .ok (.iconst 1, 1) := by decide +kernel
theorem dX11_through_82 : decode cX11_through 82 = .ok (.iadd, 1) := by decide +kernel
theorem dX11_through_83 : decode cX11_through 83 = .ok (.istore 4, 2) := by decide +kernel
theorem dX11_through_85 : decode cX11_through 85 = .ok (.iinc 5 1, 3) := by decide +kernel
theorem dX11_through_88 : decode cX11_through 88 = .ok (.goto (-37), 3) := by decide +kernel
theorem dX11_through_91 : decode cX11_through 91 = .ok (.iload 4, 2) := by decide +kernel
theorem dX11_through_93 : decode cX11_through 93 = .ok (.ireturn, 1) := by decide +kernel
theorem dX11_beats_0 : decode cX11_beats 0 = .ok (.aload_n 0, 1) := by decide +kernel
theorem dX11_beats_1 : decode cX11_beats 1 = .ok (.invokevirtual 176, 3) := by decide +kernel
theorem dX11_beats_4 : decode cX11_beats 4 = .ok (.aload_n 0, 1) := by decide +kernel
theorem dX11_beats_5 : decode cX11_beats 5 = .ok (.iload_n 1, 1) := by decide +kernel
theorem dX11_beats_6 : decode cX11_beats 6 = .ok (.invokevirtual 299, 3) := by decide +kernel
theorem dX11_beats_9 : decode cX11_beats 9 = .ok (.ifCond .eq 11, 3) := by decide +kernel
theorem dX11_beats_12 : decode cX11_beats 12 = .ok (.aload_n 0, 1) := by decide +kernel
theorem dX11_beats_13 : decode cX11_beats 13 = .ok (.iload_n 2, 1) := by decide +kernel
theorem dX11_beats_14 : decode cX11_beats 14 = .ok (.invokevirtual 299, 3) := by decide +kernel
theorem dX11_beats_17 : decode cX11_beats 17 = .ok (.ifCond .ne 9, 3) := by decide +kernel
theorem dX11_beats_20 : decode cX11_beats 20 = .ok (.aload_n 0, 1) := by decide +kernel
theorem dX11_beats_21 : decode cX11_beats 21 = .ok (.iconst 1, 1) := by decide +kernel
theorem dX11_beats_22 : decode cX11_beats 22 = .ok (.invokevirtual 179, 3) := by decide +kernel
theorem dX11_beats_25 : decode cX11_beats 25 = .ok (.ireturn, 1) := by decide +kernel
theorem dX11_beats_26 : decode cX11_beats 26 = .ok (.iload_n 3, 1) := by decide +kernel
theorem dX11_beats_27 : decode cX11_beats 27 = .ok (.iconst 0, 1) := by decide +kernel
theorem dX11_beats_28 : decode cX11_beats 28 = .ok (.ldc_w 427, 3) := by decide +kernel
theorem dX11_beats_31 : decode cX11_beats 31 = .ok (.invokestatic 161, 3) := by decide +kernel
theorem dX11_beats_34 : decode cX11_beats 34 = .ok (.ifCond .eq 14, 3) := by decide +kernel
theorem dX11_beats_37 : decode cX11_beats 37 = .ok (.iload 4, 2) := by decide +kernel
theorem dX11_beats_39 : decode cX11_beats 39 = .ok (.iconst 1, 1) := by decide +kernel
theorem dX11_beats_40 : decode cX11_beats 40 = .ok (.bipush 50, 2) := by decide +kernel
theorem dX11_beats_42 : decode cX11_beats 42 = .ok (.invokestatic 161, 3) := by decide +kernel
theorem dX11_beats_45 : decode cX11_beats 45 = .ok (.ifCond .ne 9, 3) := by decide +kernel
theorem dX11_beats_48 : decode cX11_beats 48 = .ok (.aload_n 0, 1) := by decide +kernel
theorem dX11_beats_49 : decode cX11_beats 49 = .ok (.iconst 2, 1) := by decide +kernel
theorem dX11_beats_50 : decode cX11_beats 50 = .ok (.invokevirtual 179, 3) := by decide +kernel
theorem dX11_beats_53 : decode cX11_beats 53 = .ok (.ireturn, 1) := by decide +kernel
theorem dX11_beats_54 : decode cX11_beats 54 = .ok (.iconst 0, 1) := by decide +kernel
theorem dX11_beats_55 : decode cX11_beats 55 = .ok (.istore 5, 2) := by decide +kernel
theorem dX11_beats_57 : decode cX11_beats 57 = .ok (.iconst 0, 1) := by decide +kernel
theorem dX11_beats_58 : decode cX11_beats 58 = .ok (.istore 6, 2) := by decide +kernel
theorem dX11_beats_60 : decode cX11_beats 60 = .ok (.iload 6, 2) := by decide +kernel
theorem dX11_beats_62 : decode cX11_beats 62 = .ok (.iload 4, 2) := by decide +kernel
theorem dX11_beats_64 : decode cX11_beats 64 = .ok (.if_icmp .ge 70, 3) := by decide +kernel
theorem dX11_beats_67 : decode cX11_beats 67 = .ok (.aload_n 0, 1) := by decide +kernel
theorem dX11_beats_68 : decode cX11_beats 68 = .ok (.iload_n 1, 1) := by decide +kernel
theorem dX11_beats_69 : decode cX11_beats 69 = .ok (.iload_n 3, 1) := by decide +kernel
theorem dX11_beats_70 : decode cX11_beats 70 = .ok (.iload 6, 2) := by decide +kernel
theorem dX11_beats_72 : decode cX11_beats 72 = .ok (.iadd, 1) := by decide +kernel
theorem dX11_beats_73 : decode cX11_beats 73 = .ok (.ldc_w 417, 3) := by decide +kernel
theorem dX11_beats_76 : decode cX11_beats 76 = .ok (.irem, 1) := by decide +kernel
theorem dX11_beats_77 : decode cX11_beats 77 = .ok (.invokevirtual 428, 3) := by decide +kernel
theorem dX11_beats_80 : decode cX11_beats 80 = .ok (.istore 7, 2) := by decide +kernel
theorem dX11_beats_82 : decode cX11_beats 82 = .ok (.aload_n 0, 1) := by decide +kernel
theorem dX11_beats_83 : decode cX11_beats 83 = .ok (.iload_n 2, 1) := by decide +kernel
theorem dX11_beats_84 : decode cX11_beats 84 = .ok (.iload_n 3, 1) := by decide +kernel
theorem dX11_beats_85 : decode cX11_beats 85 = .ok (.iload 6, 2) := by decide +kernel
theorem dX11_beats_87 : decode cX11_beats 87 = .ok (.iadd, 1) := by decide +kernel
theorem dX11_beats_88 : decode cX11_beats 88 = .ok (.ldc_w 417, 3) := by decide +kernel
theorem dX11_beats_91 : decode cX11_beats 91 = .ok (.irem, 1) := by decide +kernel
theorem dX11_beats_92 : decode cX11_beats 92 = .ok (.invokevirtual 428, 3) := by decide +kernel
theorem dX11_beats_95 : decode cX11_beats 95 = .ok (.istore 8, 2) := by decide +kernel
theorem dX11_beats_97 : decode cX11_beats 97 = .ok (.iload 5, 2) := by decide +kernel
theorem dX11_beats_99 : decode cX11_beats 99 = .ok (.iload 7, 2) := by decide +kernel
theorem dX11_beats_101 : decode cX11_beats 101 = .ok (.bipush (-2), 2) := by decide +kernel
theorem dX11_beats_103 : decode cX11_beats 103 = .ok (.if_icmp .eq 21, 3) := by decide +kernel
theorem dX11_beats_106 : decode cX11_beats 106 = .ok (.iload 8, 2) := by decide +kernel
theorem dX11_beats_108 : decode cX11_beats 108 = .ok (.bipush (-2), 2) := by decide +kernel
theorem dX11_beats_110 : decode cX11_beats 110 = .ok (.if_icmp .eq 10, 3) := by decide +kernel
theorem dX11_beats_113 : decode cX11_beats 113 = .ok (.iload 7, 2) := by decide +kernel
theorem dX11_beats_115 : decode cX11_beats 115 = .ok (.iload 8, 2) := by decide +kernel
theorem dX11_beats_117 : decode cX11_beats 117 = .ok (.if_icmp .ge 7, 3) := by decide +kernel
theorem dX11_beats_120 : decode cX11_beats 120 = .ok (.iconst 1, 1) := by decide +kernel
theorem dX11_beats_121 : decode cX11_beats 121 = .ok (.goto 4, 3) := by decide +kernel
theorem dX11_beats_124 : decode cX11_beats 124 = .ok (.iconst 0, 1) := by decide +kernel
theorem dX11_beats_125 : decode cX11_beats 125 = .ok (.iadd, 1) := by decide +kernel
theorem dX11_beats_126 : decode cX11_beats 126 = .ok (.istore 5, 2) := by decide +kernel
theorem dX11_beats_128 : decode cX11_beats 128 = .ok (.iinc 6 1, 3) := by decide +kernel
theorem dX11_beats_131 : decode cX11_beats 131 = .ok (.goto (-71), 3) := by decide +kernel
theorem dX11_beats_134 : decode cX11_beats 134 = .ok (.iload 5, 2) := by decide +kernel
theorem dX11_beats_136 : decode cX11_beats 136 = .ok (.ireturn, 1) := by decide +kernel
theorem dX11_car_0 : decode cX11_car 0 = .ok (.aload_n 0, 1) := by decide +kernel
theorem dX11_car_1 : decode cX11_car 1 = .ok (.invokevirtual 176, 3) := by decide +kernel
theorem dX11_car_4 : decode cX11_car 4 = .ok (.aload_n 0, 1) := by decide +kernel
theorem dX11_car_5 : decode cX11_car 5 = .ok (.getfield 189, 3) := by decide +kernel
theorem dX11_car_8 : decode cX11_car 8 = .ok (.ifCond .eq 12, 3) := by decide +kernel
theorem dX11_car_11 : decode cX11_car 11 = .ok (.iload_n 1, 1) := by decide +kernel
theorem dX11_car_12 : decode cX11_car 12 = .ok (.iconst 0, 1) := by decide +kernel
theorem dX11_car_13 : decode cX11_car 13 = .ok (.iconst 4, 1) := by decide +kernel
theorem dX11_car_14 : decode cX11_car 14 = .ok (.invokestatic 161, 3) := by decide +kernel
theorem dX11_car_17 : decode cX11_car 17 = .ok (.ifCond .ne 9, 3) := by decide +kernel
theorem dX11_car_20 : decode cX11_car 20 = .ok (.aload_n 0, 1) := by decide +kernel
theorem dX11_car_21 : decode cX11_car 21 = .ok (.iconst 1, 1) := by decide +kernel
theorem dX11_car_22 : decode cX11_car 22 = .ok (.invokevirtual 179, 3) := by decide +kernel
theorem dX11_car_25 : decode cX11_car 25 = .ok (.ireturn, 1) := by decide +kernel
theorem dX11_car_26 : decode cX11_car 26 = .ok (.iload_n 1, 1) := by decide +kernel
theorem dX11_car_27 : decode cX11_car 27 = .ok (.iconst 4, 1) := by decide +kernel
theorem dX11_car_28 : decode cX11_car 28 = .ok (.if_icmp .ne 17, 3) := by decide +kernel
theorem dX11_car_31 : decode cX11_car 31 = .ok (.aload_n 0, 1) := by decide +kernel
theorem dX11_car_32 : decode cX11_car 32 = .ok (.getfield 29, 3) := by decide +kernel
theorem dX11_car_35 : decode cX11_car 35 = .ok (.iconst 4, 1) := by decide +kernel
theorem dX11_car_36 : decode cX11_car 36 = .ok (.iaload, 1) := by decide +kernel
theorem dX11_car_37 : decode cX11_car 37 = .ok (.ifCond .ne 8, 3) := by decide +kernel
theorem dX11_car_40 : decode cX11_car 40 = .ok (.bipush (-2), 2) := by decide +kernel
theorem dX11_car_42 : decode cX11_car 42 = .ok (.goto 9, 3) := by decide +kernel
theorem dX11_car_45 : decode cX11_car 45 = .ok (.aload_n 0, 1) := by decide +kernel
theorem dX11_car_46 : decode cX11_car 46 = .ok (.getfield 29, 3) := by decide +kernel
theorem dX11_car_49 : decode cX11_car 49 = .ok (.iload_n 1, 1) := by decide +kernel
theorem dX11_car_50 : decode cX11_car 50 = .ok (.iaload, 1) := by decide +kernel
theorem dX11_car_51 : decode cX11_car 51 = .ok (.ireturn, 1) := by decide +kernel
theorem dX11_note_0 : decode cX11_note 0 = .ok (.aload_n 0, 1) := by decide +kernel
theorem dX11_note_1 : decode cX11_note 1 = .ok (.getfield 192, 3) := by decide +kernel
theorem dX11_note_4 : decode cX11_note 4 = .ok (.bipush 12, 2) := by decide +kernel
theorem dX11_note_6 : decode cX11_note 6 = .ok (.if_icmp .ne 42, 3) := by decide +kernel
theorem dX11_note_9 : decode cX11_note 9 = .ok (.iconst 0, 1) := by decide +kernel
theorem dX11_note_10 : decode cX11_note 10 = .ok (.istore_n 1, 1) := by decide +kernel
theorem dX11_note_11 : decode cX11_note 11 = .ok (.iload_n 1, 1) := by decide +kernel
theorem dX11_note_12 : decode cX11_note 12 = .ok (.bipush 77, 2) := by decide +kernel
theorem dX11_note_14 : decode cX11_note 14 = .ok (.if_icmp .ge 24, 3) := by decide +kernel
theorem dX11_note_17 : decode cX11_note 17 = .ok (.aload_n 0, 1) := by decide +kernel
theorem dX11_note_18 : decode cX11_note 18 = .ok (.getfield 32, 3) := by decide +kernel
theorem dX11_note_21 : decode cX11_note 21 = .ok (.iload_n 1, 1) := by decide +kernel
theorem dX11_note_22 : decode cX11_note 22 = .ok (.aload_n 0, 1) := by decide +kernel
theorem dX11_note_23 : decode cX11_note 23 = .ok (.getfield 32, 3) := by decide +kernel
theorem dX11_note_26 : decode cX11_note 26 = .ok (.iload_n 1, 1) := by decide +kernel
theorem dX11_note_27 : decode cX11_note 27 = .ok (.bipush 7, 2) := by decide +kernel
theorem dX11_note_29 : decode cX11_note 29 = .ok (.iadd, 1) := by decide +kernel
theorem dX11_note_30 : decode cX11_note 30 = .ok (.iaload, 1) := by decide +kernel
theorem dX11_note_31 : decode cX11_note 31 = .ok (.iastore, 1) := by decide +kernel
theorem dX11_note_32 : decode cX11_note 32 = .ok (.iinc 1 1, 3) := by decide +kernel
theorem dX11_note_35 : decode cX11_note 35 = .ok (.goto (-24), 3) := by decide +kernel
theorem dX11_note_38 : decode cX11_note 38 = .ok (.aload_n 0, 1) := by decide +kernel
theorem dX11_note_39 : decode cX11_note 39 = .ok (.dup, 1) := by decide +kernel
theorem dX11_note_40 : decode cX11_note 40 = .ok (.getfield 192, 3) := by decide +kernel
theorem dX11_note_43 : decode cX11_note 43 = .ok (.iconst 1, 1) := by decide +kernel
theorem dX11_note_44 : decode cX11_note 44 = .ok (.isub, 1) := by decide +kernel
theorem dX11_note_45 : decode cX11_note 45 = .ok (.putfield 192, 3) := by decide +kernel
theorem dX11_note_48 : decode cX11_note 48 = .ok (.aload_n 0, 1) := by decide +kernel
theorem dX11_note_49 : decode cX11_note 49 = .ok (.getfield 29, 3) := by decide +kernel
theorem dX11_note_52 : decode cX11_note 52 = .ok (.iconst 0, 1) := by decide +kernel
theorem dX11_note_53 : decode cX11_note 53 = .ok (.aload_n 0, 1) := by decide +kernel
theorem dX11_note_54 : decode cX11_note 54 = .ok (.getfield 32, 3) := by decide +kernel
theorem dX11_note_57 : decode cX11_note 57 = .ok (.bipush 7, 2) := by decide +kernel
theorem dX11_note_59 : decode cX11_note 59 = .ok (.aload_n 0, 1) := by decide +kernel
theorem dX11_note_60 : decode cX11_note 60 = .ok (.getfield 192, 3) := by decide +kernel
theorem dX11_note_63 : decode cX11_note 63 = .ok (.imul, 1) := by decide +kernel
theorem dX11_note_64 : decode cX11_note 64 = .ok (.bipush 7, 2) := by decide +kernel
theorem dX11_note_66 : decode cX11_note 66 = .ok (.invokestatic 185, 3) := by decide +kernel
theorem dX11_note_69 : decode cX11_note 69 = .ok (.aload_n 0, 1) := by decide +kernel
theorem dX11_note_70 : decode cX11_note 70 = .ok (.dup, 1) := by decide +kernel
theorem dX11_note_71 : decode cX11_note 71 = .ok (.getfield 192, 3) := by decide +kernel
theorem dX11_note_74 : decode cX11_note 74 = .ok (.iconst 1, 1) := by decide +kernel
theorem dX11_note_75 : decode cX11_note 75 = .ok (.iadd, 1) := by decide +kernel
theorem dX11_note_76 : decode cX11_note 76 = .ok (.putfield 192, 3) := by decide +kernel
theorem dX11_note_79 : decode cX11_note 79 = .ok (.return_, 1) := by decide +kernel
theorem dX11_fill_0 : decode cX11_fill 0 = .ok (.aload_n 0, 1) := by decide +kernel
theorem dX11_fill_1 : decode cX11_fill 1 = .ok (.invokevirtual 176, 3) := by decide +kernel
theorem dX11_fill_4 : decode cX11_fill 4 = .ok (.aload_n 0, 1) := by decide +kernel
theorem dX11_fill_5 : decode cX11_fill 5 = .ok (.getfield 189, 3) := by decide +kernel
theorem dX11_fill_8 : decode cX11_fill 8 = .ok (.ifCond .ne 9, 3) := by decide +kernel
theorem dX11_fill_11 : decode cX11_fill 11 = .ok (.aload_n 0, 1) := by decide +kernel
theorem dX11_fill_12 : decode cX11_fill 12 = .ok (.iconst 1, 1) := by decide +kernel
theorem dX11_fill_13 : decode cX11_fill 13 = .ok (.invokevirtual 179, 3) := by decide +kernel
theorem dX11_fill_16 : decode cX11_fill 16 = .ok (.ireturn, 1) := by decide +kernel
theorem dX11_fill_17 : decode cX11_fill 17 = .ok (.aload_n 0, 1) := by decide +kernel
theorem dX11_fill_18 : decode cX11_fill 18 = .ok (.getfield 29, 3) := by decide +kernel
theorem dX11_fill_21 : decode cX11_fill 21 = .ok (.iconst 4, 1) := by decide +kernel
theorem dX11_fill_22 : decode cX11_fill 22 = .ok (.iaload, 1) := by decide +kernel
theorem dX11_fill_23 : decode cX11_fill 23 = .ok (.ifCond .ne 10, 3) := by decide +kernel
theorem dX11_fill_26 : decode cX11_fill 26 = .ok (.aload_n 0, 1) := by decide +kernel
theorem dX11_fill_27 : decode cX11_fill 27 = .ok (.bipush 6, 2) := by decide +kernel
theorem dX11_fill_29 : decode cX11_fill 29 = .ok (.invokevirtual 179, 3) := by decide +kernel
theorem dX11_fill_32 : decode cX11_fill 32 = .ok (.ireturn, 1) := by decide +kernel
theorem dX11_fill_33 : decode cX11_fill 33 = .ok (.iload_n 1, 1) := by decide +kernel
theorem dX11_fill_34 : decode cX11_fill 34 = .ok (.iconst 1, 1) := by decide +kernel
theorem dX11_fill_35 : decode cX11_fill 35 = .ok (.aload_n 0, 1) := by decide +kernel
theorem dX11_fill_36 : decode cX11_fill 36 = .ok (.getfield 20, 3) := by decide +kernel
theorem dX11_fill_39 : decode cX11_fill 39 = .ok (.iconst 0, 1) := by decide +kernel
theorem dX11_fill_40 : decode cX11_fill 40 = .ok (.iaload, 1) := by decide +kernel
theorem dX11_fill_41 : decode cX11_fill 41 = .ok (.aload_n 0, 1) := by decide +kernel
theorem dX11_fill_42 : decode cX11_fill 42 = .ok (.getfield 29, 3) := by decide +kernel
theorem dX11_fill_45 : decode cX11_fill 45 = .ok (.iconst 1, 1) := by decide +kernel
theorem dX11_fill_46 : decode cX11_fill 46 = .ok (.iaload, 1) := by decide +kernel
theorem dX11_fill_47 : decode cX11_fill 47 = .ok (.isub, 1) := by decide +kernel
theorem dX11_fill_48 : decode cX11_fill 48 = .ok (.invokestatic 161, 3) := by decide +kernel
theorem dX11_fill_51 : decode cX11_fill 51 = .ok (.ifCond .ne 9, 3) := by decide +kernel
theorem dX11_fill_54 : decode cX11_fill 54 = .ok (.aload_n 0, 1) := by decide +kernel
theorem dX11_fill_55 : decode cX11_fill 55 = .ok (.iconst 2, 1) := by decide +kernel
theorem dX11_fill_56 : decode cX11_fill 56 = .ok (.invokevirtual 179, 3) := by decide +kernel
theorem dX11_fill_59 : decode cX11_fill 59 = .ok (.ireturn, 1) := by decide +kernel
theorem dX11_fill_60 : decode cX11_fill 60 = .ok (.aload_n 0, 1) := by decide +kernel
theorem dX11_fill_61 : decode cX11_fill 61 = .ok (.invokevirtual 431, 3) := by decide +kernel
theorem dX11_fill_64 : decode cX11_fill 64 = .ok (.aload_n 0, 1) := by decide +kernel
theorem dX11_fill_65 : decode cX11_fill 65 = .ok (.getfield 29, 3) := by decide +kernel
theorem dX11_fill_68 : decode cX11_fill 68 = .ok (.iconst 5, 1) := by decide +kernel
theorem dX11_fill_69 : decode cX11_fill 69 = .ok (.iaload, 1) := by decide +kernel
theorem dX11_fill_70 : decode cX11_fill 70 = .ok (.ifCond .ne 33, 3) := by decide +kernel
theorem dX11_fill_73 : decode cX11_fill 73 = .ok (.aload_n 0, 1) := by decide +kernel
theorem dX11_fill_74 : decode cX11_fill 74 = .ok (.getfield 29, 3) := by decide +kernel
theorem dX11_fill_77 : decode cX11_fill 77 = .ok (.iconst 2, 1) := by decide +kernel
theorem dX11_fill_78 : decode cX11_fill 78 = .ok (.dup2, 1) := by decide +kernel
theorem dX11_fill_79 : decode cX11_fill 79 = .ok (.iaload, 1) := by decide +kernel
theorem dX11_fill_80 : decode cX11_fill 80 = .ok (.aload_n 0, 1) := by decide +kernel
theorem dX11_fill_81 : decode cX11_fill 81 = .ok (.getfield 20, 3) := by decide +kernel
theorem dX11_fill_84 : decode cX11_fill 84 = .ok (.iconst 2, 1) := by decide +kernel
theorem dX11_fill_85 : decode cX11_fill 85 = .ok (.iaload, 1) := by decide +kernel
theorem dX11_fill_86 : decode cX11_fill 86 = .ok (.iadd, 1) := by decide +kernel
theorem dX11_fill_87 : decode cX11_fill 87 = .ok (.iastore, 1) := by decide +kernel
theorem dX11_fill_88 : decode cX11_fill 88 = .ok (.aload_n 0, 1) := by decide +kernel
theorem dX11_fill_89 : decode cX11_fill 89 = .ok (.getfield 29, 3) := by decide +kernel
theorem dX11_fill_92 : decode cX11_fill 92 = .ok (.iconst 3, 1) := by decide +kernel
theorem dX11_fill_93 : decode cX11_fill 93 = .ok (.dup2, 1) := by decide +kernel
theorem dX11_fill_94 : decode cX11_fill 94 = .ok (.iaload, 1) := by decide +kernel
theorem dX11_fill_95 : decode cX11_fill 95 = .ok (.aload_n 0, 1) := by decide +kernel
theorem dX11_fill_96 : decode cX11_fill 96 = .ok (.getfield 20, 3) := by decide +kernel
theorem dX11_fill_99 : decode cX11_fill 99 = .ok (.iconst 3, 1) := by decide +kernel
theorem dX11_fill_100 : decode cX11_fill 100 = .ok (.iaload, 1) := by decide +kernel
theorem dX11_fill_101 : decode cX11_fill 101 = .ok (.iadd, 1) := by decide +kernel
theorem dX11_fill_102 : decode cX11_fill 102 = .ok (.iastore, 1) := by decide +kernel
theorem dX11_fill_103 : decode cX11_fill 103 = .ok (.aload_n 0, 1) := by decide +kernel
theorem dX11_fill_104 : decode cX11_fill 104 = .ok (.getfield 29, 3) := by decide +kernel
theorem dX11_fill_107 : decode cX11_fill 107 = .ok (.iconst 5, 1) := by decide +kernel
theorem dX11_fill_108 : decode cX11_fill 108 = .ok (.iconst 1, 1) := by decide +kernel
theorem dX11_fill_109 : decode cX11_fill 109 = .ok (.iastore, 1) := by decide +kernel
theorem dX11_fill_110 : decode cX11_fill 110 = .ok (.aload_n 0, 1) := by decide +kernel
theorem dX11_fill_111 : decode cX11_fill 111 = .ok (.getfield 29, 3) := by decide +kernel
theorem dX11_fill_114 : decode cX11_fill 114 = .ok (.iconst 1, 1) := by decide +kernel
theorem dX11_fill_115 : decode cX11_fill 115 = .ok (.dup2, 1) := by decide +kernel
theorem dX11_fill_116 : decode cX11_fill 116 = .ok (.iaload, 1) := by decide +kernel
theorem dX11_fill_117 : decode cX11_fill 117 = .ok (.iload_n 1, 1) := by decide +kernel
theorem dX11_fill_118 : decode cX11_fill 118 = .ok (.iadd, 1) := by decide +kernel
theorem dX11_fill_119 : decode cX11_fill 119 = .ok (.iastore, 1) := by decide +kernel
theorem dX11_fill_120 : decode cX11_fill 120 = .ok (.aload_n 0, 1) := by decide +kernel
theorem dX11_fill_121 : decode cX11_fill 121 = .ok (.getfield 29, 3) := by decide +kernel
theorem dX11_fill_124 : decode cX11_fill 124 = .ok (.iconst 2, 1) := by decide +kernel
theorem dX11_fill_125 : decode cX11_fill 125 = .ok (.dup2, 1) := by decide +kernel
theorem dX11_fill_126 : decode cX11_fill 126 = .ok (.iaload, 1) := by decide +kernel
theorem dX11_fill_127 : decode cX11_fill 127 = .ok (.iload_n 1, 1) := by decide +kernel
theorem dX11_fill_128 : decode cX11_fill 128 = .ok (.aload_n 0, 1) := by decide +kernel
theorem dX11_fill_129 : decode cX11_fill 129 = .ok (.getfield 29, 3) := by decide +kernel
theorem dX11_fill_132 : decode cX11_fill 132 = .ok (.iconst 4, 1) := by decide +kernel
theorem dX11_fill_133 : decode cX11_fill 133 = .ok (.iaload, 1) := by decide +kernel
theorem dX11_fill_134 : decode cX11_fill 134 = .ok (.imul, 1) := by decide +kernel
theorem dX11_fill_135 : decode cX11_fill 135 = .ok (.iadd, 1) := by decide +kernel
theorem dX11_fill_136 : decode cX11_fill 136 = .ok (.iastore, 1) := by decide +kernel
theorem dX11_fill_137 : decode cX11_fill 137 = .ok (.aload_n 0, 1) := by decide +kernel
theorem dX11_fill_138 : decode cX11_fill 138 = .ok (.getfield 29, 3) := by decide +kernel
theorem dX11_fill_141 : decode cX11_fill 141 = .ok (.iconst 2, 1) := by decide +kernel
theorem dX11_fill_142 : decode cX11_fill 142 = .ok (.iaload, 1) := by decide +kernel
theorem dX11_fill_143 : decode cX11_fill 143 = .ok (.ireturn, 1) := by decide +kernel
theorem dX11_drive_0 : decode cX11_drive 0 = .ok (.aload_n 0, 1) := by decide +kernel
theorem dX11_drive_1 : decode cX11_drive 1 = .ok (.invokevirtual 176, 3) := by decide +kernel
theorem dX11_drive_4 : decode cX11_drive 4 = .ok (.aload_n 0, 1) := by decide +kernel
theorem dX11_drive_5 : decode cX11_drive 5 = .ok (.iload_n 1, 1) := by decide +kernel
theorem dX11_drive_6 : decode cX11_drive 6 = .ok (.invokevirtual 269, 3) := by decide +kernel
theorem dX11_drive_9 : decode cX11_drive 9 = .ok (.ifCond .eq 13, 3) := by decide +kernel
theorem dX11_drive_12 : decode cX11_drive 12 = .ok (.iload_n 1, 1) := by decide +kernel
theorem dX11_drive_13 : decode cX11_drive 13 = .ok (.aload_n 0, 1) := by decide +kernel
theorem dX11_drive_14 : decode cX11_drive 14 = .ok (.getfield 29, 3) := by decide +kernel
theorem dX11_drive_17 : decode cX11_drive 17 = .ok (.iconst 0, 1) := by decide +kernel
theorem dX11_drive_18 : decode cX11_drive 18 = .ok (.iaload, 1) := by decide +kernel
theorem dX11_drive_19 : decode cX11_drive 19 = .ok (.if_icmp .ne 9, 3) := by decide +kernel
theorem dX11_drive_22 : decode cX11_drive 22 = .ok (.aload_n 0, 1) := by decide +kernel
theorem dX11_drive_23 : decode cX11_drive 23 = .ok (.iconst 1, 1) := by decide +kernel
theorem dX11_drive_24 : decode cX11_drive 24 = .ok (.invokevirtual 179, 3) := by decide +kernel
theorem dX11_drive_27 : decode cX11_drive 27 = .ok (.ireturn, 1) := by decide +kernel
theorem dX11_drive_28 : decode cX11_drive 28 = .ok (.aload_n 0, 1) := by decide +kernel
theorem dX11_drive_29 : decode cX11_drive 29 = .ok (.aload_n 0, 1) := by decide +kernel
theorem dX11_drive_30 : decode cX11_drive 30 = .ok (.getfield 29, 3) := by decide +kernel
theorem dX11_drive_33 : decode cX11_drive 33 = .ok (.iconst 0, 1) := by decide +kernel
theorem dX11_drive_34 : decode cX11_drive 34 = .ok (.iaload, 1) := by decide +kernel
theorem dX11_drive_35 : decode cX11_drive 35 = .ok (.iload_n 1, 1) := by decide +kernel
theorem dX11_drive_36 : decode cX11_drive 36 = .ok (.invokevirtual 263, 3) := by decide +kernel
theorem dX11_drive_39 : decode cX11_drive 39 = .ok (.istore_n 2, 1) := by decide +kernel
theorem dX11_drive_40 : decode cX11_drive 40 = .ok (.iload_n 2, 1) := by decide +kernel
theorem dX11_drive_41 : decode cX11_drive 41 = .ok (.ifCond .ne 10, 3) := by decide +kernel
theorem dX11_drive_44 : decode cX11_drive 44 = .ok (.aload_n 0, 1) := by decide +kernel
theorem dX11_drive_45 : decode cX11_drive 45 = .ok (.bipush 6, 2) := by decide +kernel
theorem dX11_drive_47 : decode cX11_drive 47 = .ok (.invokevirtual 179, 3) := by decide +kernel
theorem dX11_drive_50 : decode cX11_drive 50 = .ok (.ireturn, 1) := by decide +kernel
theorem dX11_drive_51 : decode cX11_drive 51 = .ok (.iload_n 2, 1) := by decide +kernel
theorem dX11_drive_52 : decode cX11_drive 52 = .ok (.aload_n 0, 1) := by decide +kernel
theorem dX11_drive_53 : decode cX11_drive 53 = .ok (.getfield 29, 3) := by decide +kernel
theorem dX11_drive_56 : decode cX11_drive 56 = .ok (.iconst 1, 1) := by decide +kernel
theorem dX11_drive_57 : decode cX11_drive 57 = .ok (.iaload, 1) := by decide +kernel
theorem dX11_drive_58 : decode cX11_drive 58 = .ok (.if_icmp .le 9, 3) := by decide +kernel
theorem dX11_drive_61 : decode cX11_drive 61 = .ok (.aload_n 0, 1) := by decide +kernel
theorem dX11_drive_62 : decode cX11_drive 62 = .ok (.iconst 5, 1) := by decide +kernel
theorem dX11_drive_63 : decode cX11_drive 63 = .ok (.invokevirtual 179, 3) := by decide +kernel
theorem dX11_drive_66 : decode cX11_drive 66 = .ok (.ireturn, 1) := by decide +kernel
theorem dX11_drive_67 : decode cX11_drive 67 = .ok (.aload_n 0, 1) := by decide +kernel
theorem dX11_drive_68 : decode cX11_drive 68 = .ok (.invokevirtual 431, 3) := by decide +kernel
theorem dX11_drive_71 : decode cX11_drive 71 = .ok (.aload_n 0, 1) := by decide +kernel
theorem dX11_drive_72 : decode cX11_drive 72 = .ok (.getfield 29, 3) := by decide +kernel
theorem dX11_drive_75 : decode cX11_drive 75 = .ok (.iconst 1, 1) := by decide +kernel
theorem dX11_drive_76 : decode cX11_drive 76 = .ok (.dup2, 1) := by decide +kernel
theorem dX11_drive_77 : decode cX11_drive 77 = .ok (.iaload, 1) := by decide +kernel
theorem dX11_drive_78 : decode cX11_drive 78 = .ok (.iload_n 2, 1) := by decide +kernel
theorem dX11_drive_79 : decode cX11_drive 79 = .ok (.isub, 1) := by decide +kernel
theorem dX11_drive_80 : decode cX11_drive 80 = .ok (.iastore, 1) := by decide +kernel
theorem dX11_drive_81 : decode cX11_drive 81 = .ok (.aload_n 0, 1) := by decide +kernel
theorem dX11_drive_82 : decode cX11_drive 82 = .ok (.getfield 29, 3) := by decide +kernel
theorem dX11_drive_85 : decode cX11_drive 85 = .ok (.iconst 3, 1) := by decide +kernel
theorem dX11_drive_86 : decode cX11_drive 86 = .ok (.dup2, 1) := by decide +kernel
theorem dX11_drive_87 : decode cX11_drive 87 = .ok (.iaload, 1) := by decide +kernel
theorem dX11_drive_88 : decode cX11_drive 88 = .ok (.aload_n 0, 1) := by decide +kernel
theorem dX11_drive_89 : decode cX11_drive 89 = .ok (.getfield 20, 3) := by decide +kernel
theorem dX11_drive_92 : decode cX11_drive 92 = .ok (.bipush 119, 2) := by decide +kernel
theorem dX11_drive_94 : decode cX11_drive 94 = .ok (.bipush 9, 2) := by decide +kernel
theorem dX11_drive_96 : decode cX11_drive 96 = .ok (.aload_n 0, 1) := by decide +kernel
theorem dX11_drive_97 : decode cX11_drive 97 = .ok (.getfield 29, 3) := by decide +kernel
theorem dX11_drive_100 : decode cX11_drive 100 = .ok (.iconst 0, 1) := by decide +kernel
theorem dX11_drive_101 : decode cX11_drive 101 = .ok (.iaload, 1) := by decide +kernel
theorem dX11_drive_102 : decode cX11_drive 102 = .ok (.imul, 1) := by decide +kernel
theorem dX11_drive_103 : decode cX11_drive 103 = .ok (.iadd, 1) := by decide +kernel
theorem dX11_drive_104 : decode cX11_drive 104 = .ok (.iload_n 1, 1) := by decide +kernel
theorem dX11_drive_105 : decode cX11_drive 105 = .ok (.iadd, 1) := by decide +kernel
theorem dX11_drive_106 : decode cX11_drive 106 = .ok (.iaload, 1) := by decide +kernel
theorem dX11_drive_107 : decode cX11_drive 107 = .ok (.iadd, 1) := by decide +kernel
theorem dX11_drive_108 : decode cX11_drive 108 = .ok (.iastore, 1) := by decide +kernel
theorem dX11_drive_109 : decode cX11_drive 109 = .ok (.aload_n 0, 1) := by decide +kernel
theorem dX11_drive_110 : decode cX11_drive 110 = .ok (.iload_n 1, 1) := by decide +kernel
theorem dX11_drive_111 : decode cX11_drive 111 = .ok (.invokevirtual 198, 3) := by decide +kernel
theorem dX11_drive_114 : decode cX11_drive 114 = .ok (.aload_n 0, 1) := by decide +kernel
theorem dX11_drive_115 : decode cX11_drive 115 = .ok (.getfield 29, 3) := by decide +kernel
theorem dX11_drive_118 : decode cX11_drive 118 = .ok (.iconst 1, 1) := by decide +kernel
theorem dX11_drive_119 : decode cX11_drive 119 = .ok (.iaload, 1) := by decide +kernel
theorem dX11_drive_120 : decode cX11_drive 120 = .ok (.ireturn, 1) := by decide +kernel
theorem dX11_waits_0 : decode cX11_waits 0 = .ok (.aload_n 0, 1) := by decide +kernel
theorem dX11_waits_1 : decode cX11_waits 1 = .ok (.invokevirtual 176, 3) := by decide +kernel
theorem dX11_waits_4 : decode cX11_waits 4 = .ok (.aload_n 0, 1) := by decide +kernel
theorem dX11_waits_5 : decode cX11_waits 5 = .ok (.getfield 189, 3) := by decide +kernel
theorem dX11_waits_8 : decode cX11_waits 8 = .ok (.ifCond .ne 9, 3) := by decide +kernel
theorem dX11_waits_11 : decode cX11_waits 11 = .ok (.aload_n 0, 1) := by decide +kernel
theorem dX11_waits_12 : decode cX11_waits 12 = .ok (.iconst 1, 1) := by decide +kernel
theorem dX11_waits_13 : decode cX11_waits 13 = .ok (.invokevirtual 179, 3) := by decide +kernel
theorem dX11_waits_16 : decode cX11_waits 16 = .ok (.ireturn, 1) := by decide +kernel
theorem dX11_waits_17 : decode cX11_waits 17 = .ok (.aload_n 0, 1) := by decide +kernel
theorem dX11_waits_18 : decode cX11_waits 18 = .ok (.invokevirtual 431, 3) := by decide +kernel
theorem dX11_waits_21 : decode cX11_waits 21 = .ok (.aload_n 0, 1) := by decide +kernel
theorem dX11_waits_22 : decode cX11_waits 22 = .ok (.getfield 29, 3) := by decide +kernel
theorem dX11_waits_25 : decode cX11_waits 25 = .ok (.iconst 3, 1) := by decide +kernel
theorem dX11_waits_26 : decode cX11_waits 26 = .ok (.dup2, 1) := by decide +kernel
theorem dX11_waits_27 : decode cX11_waits 27 = .ok (.iaload, 1) := by decide +kernel
theorem dX11_waits_28 : decode cX11_waits 28 = .ok (.bipush 10, 2) := by decide +kernel
theorem dX11_waits_30 : decode cX11_waits 30 = .ok (.iadd, 1) := by decide +kernel
theorem dX11_waits_31 : decode cX11_waits 31 = .ok (.iastore, 1) := by decide +kernel
theorem dX11_waits_32 : decode cX11_waits 32 = .ok (.aload_n 0, 1) := by decide +kernel
theorem dX11_waits_33 : decode cX11_waits 33 = .ok (.aload_n 0, 1) := by decide +kernel
theorem dX11_waits_34 : decode cX11_waits 34 = .ok (.getfield 29, 3) := by decide +kernel
theorem dX11_waits_37 : decode cX11_waits 37 = .ok (.iconst 0, 1) := by decide +kernel
theorem dX11_waits_38 : decode cX11_waits 38 = .ok (.iaload, 1) := by decide +kernel
theorem dX11_waits_39 : decode cX11_waits 39 = .ok (.invokevirtual 198, 3) := by decide +kernel
theorem dX11_waits_42 : decode cX11_waits 42 = .ok (.aload_n 0, 1) := by decide +kernel
theorem dX11_waits_43 : decode cX11_waits 43 = .ok (.getfield 29, 3) := by decide +kernel
theorem dX11_waits_46 : decode cX11_waits 46 = .ok (.iconst 4, 1) := by decide +kernel
theorem dX11_waits_47 : decode cX11_waits 47 = .ok (.iaload, 1) := by decide +kernel
theorem dX11_waits_48 : decode cX11_waits 48 = .ok (.ifCond .ne 8, 3) := by decide +kernel
theorem dX11_waits_51 : decode cX11_waits 51 = .ok (.bipush (-2), 2) := by decide +kernel
theorem dX11_waits_53 : decode cX11_waits 53 = .ok (.goto 9, 3) := by decide +kernel
theorem dX11_waits_56 : decode cX11_waits 56 = .ok (.aload_n 0, 1) := by decide +kernel
theorem dX11_waits_57 : decode cX11_waits 57 = .ok (.getfield 29, 3) := by decide +kernel
theorem dX11_waits_60 : decode cX11_waits 60 = .ok (.iconst 4, 1) := by decide +kernel
theorem dX11_waits_61 : decode cX11_waits 61 = .ok (.iaload, 1) := by decide +kernel
theorem dX11_waits_62 : decode cX11_waits 62 = .ok (.ireturn, 1) := by decide +kernel
theorem dX11_seed_0 : decode cX11_seed 0 = .ok (.aload_n 0, 1) := by decide +kernel
theorem dX11_seed_1 : decode cX11_seed 1 = .ok (.invokevirtual 176, 3) := by decide +kernel
theorem dX11_seed_4 : decode cX11_seed 4 = .ok (.aload_n 0, 1) := by decide +kernel
theorem dX11_seed_5 : decode cX11_seed 5 = .ok (.getfield 189, 3) := by decide +kernel
theorem dX11_seed_8 : decode cX11_seed 8 = .ok (.ifCond .ne 9, 3) := by decide +kernel
theorem dX11_seed_11 : decode cX11_seed 11 = .ok (.aload_n 0, 1) := by decide +kernel
theorem dX11_seed_12 : decode cX11_seed 12 = .ok (.iconst 1, 1) := by decide +kernel
theorem dX11_seed_13 : decode cX11_seed 13 = .ok (.invokevirtual 278, 3) := by decide +kernel
theorem dX11_seed_16 : decode cX11_seed 16 = .ok (.ireturn, 1) := by decide +kernel
theorem dX11_seed_17 : decode cX11_seed 17 = .ok (.iload_n 1, 1) := by decide +kernel
theorem dX11_seed_18 : decode cX11_seed 18 = .ok (.iconst 0, 1) := by decide +kernel
theorem dX11_seed_19 : decode cX11_seed 19 = .ok (.ldc_w 427, 3) := by decide +kernel
theorem dX11_seed_22 : decode cX11_seed 22 = .ok (.invokestatic 161, 3) := by decide +kernel
theorem dX11_seed_25 : decode cX11_seed 25 = .ok (.ifCond .ne 9, 3) := by decide +kernel
theorem dX11_seed_28 : decode cX11_seed 28 = .ok (.aload_n 0, 1) := by decide +kernel
theorem dX11_seed_29 : decode cX11_seed 29 = .ok (.iconst 2, 1) := by decide +kernel
theorem dX11_seed_30 : decode cX11_seed 30 = .ok (.invokevirtual 278, 3) := by decide +kernel
theorem dX11_seed_33 : decode cX11_seed 33 = .ok (.ireturn, 1) := by decide +kernel
theorem dX11_seed_34 : decode cX11_seed 34 = .ok (.aload_n 0, 1) := by decide +kernel
theorem dX11_seed_35 : decode cX11_seed 35 = .ok (.getfield 29, 3) := by decide +kernel
theorem dX11_seed_38 : decode cX11_seed 38 = .ok (.bipush 6, 2) := by decide +kernel
theorem dX11_seed_40 : decode cX11_seed 40 = .ok (.iload_n 1, 1) := by decide +kernel
theorem dX11_seed_41 : decode cX11_seed 41 = .ok (.iastore, 1) := by decide +kernel
theorem dX11_seed_42 : decode cX11_seed 42 = .ok (.iconst 1, 1) := by decide +kernel
theorem dX11_seed_43 : decode cX11_seed 43 = .ok (.ireturn, 1) := by decide +kernel
theorem dX11_undo_0 : decode cX11_undo 0 = .ok (.aload_n 0, 1) := by decide +kernel
theorem dX11_undo_1 : decode cX11_undo 1 = .ok (.invokevirtual 176, 3) := by decide +kernel
theorem dX11_undo_4 : decode cX11_undo 4 = .ok (.aload_n 0, 1) := by decide +kernel
theorem dX11_undo_5 : decode cX11_undo 5 = .ok (.getfield 192, 3) := by decide +kernel
theorem dX11_undo_8 : decode cX11_undo 8 = .ok (.ifCond .ne 10, 3) := by decide +kernel
theorem dX11_undo_11 : decode cX11_undo 11 = .ok (.aload_n 0, 1) := by decide +kernel
theorem dX11_undo_12 : decode cX11_undo 12 = .ok (.bipush 6, 2) := by decide +kernel
theorem dX11_undo_14 : decode cX11_undo 14 = .ok (.invokevirtual 278, 3) := by decide +kernel
theorem dX11_undo_17 : decode cX11_undo 17 = .ok (.ireturn, 1) := by decide +kernel
theorem dX11_undo_18 : decode cX11_undo 18 = .ok (.aload_n 0, 1) := by decide +kernel
theorem dX11_undo_19 : decode cX11_undo 19 = .ok (.dup, 1) := by decide +kernel
theorem dX11_undo_20 : decode cX11_undo 20 = .ok (.getfield 192, 3) := by decide +kernel
theorem dX11_undo_23 : decode cX11_undo 23 = .ok (.iconst 1, 1) := by decide +kernel
theorem dX11_undo_24 : decode cX11_undo 24 = .ok (.isub, 1) := by decide +kernel
theorem dX11_undo_25 : decode cX11_undo 25 = .ok (.putfield 192, 3) := by decide +kernel
theorem dX11_undo_28 : decode cX11_undo 28 = .ok (.aload_n 0, 1) := by decide +kernel
theorem dX11_undo_29 : decode cX11_undo 29 = .ok (.getfield 32, 3) := by decide +kernel
theorem dX11_undo_32 : decode cX11_undo 32 = .ok (.bipush 7, 2) := by decide +kernel
theorem dX11_undo_34 : decode cX11_undo 34 = .ok (.aload_n 0, 1) := by decide +kernel
theorem dX11_undo_35 : decode cX11_undo 35 = .ok (.getfield 192, 3) := by decide +kernel
theorem dX11_undo_38 : decode cX11_undo 38 = .ok (.imul, 1) := by decide +kernel
theorem dX11_undo_39 : decode cX11_undo 39 = .ok (.aload_n 0, 1) := by decide +kernel
theorem dX11_undo_40 : decode cX11_undo 40 = .ok (.getfield 29, 3) := by decide +kernel
theorem dX11_undo_43 : decode cX11_undo 43 = .ok (.iconst 0, 1) := by decide +kernel
theorem dX11_undo_44 : decode cX11_undo 44 = .ok (.bipush 7, 2) := by decide +kernel
theorem dX11_undo_46 : decode cX11_undo 46 = .ok (.invokestatic 185, 3) := by decide +kernel
theorem dX11_undo_49 : decode cX11_undo 49 = .ok (.iconst 1, 1) := by decide +kernel
theorem dX11_undo_50 : decode cX11_undo 50 = .ok (.ireturn, 1) := by decide +kernel
theorem dX11_image_0 : decode cX11_image 0 = .ok (.aload_n 0, 1) := by decide +kernel
theorem dX11_image_1 : decode cX11_image 1 = .ok (.invokevirtual 176, 3) := by decide +kernel
theorem dX11_image_4 : decode cX11_image 4 = .ok (.aload_n 0, 1) := by decide +kernel
theorem dX11_image_5 : decode cX11_image 5 = .ok (.getfield 189, 3) := by decide +kernel
theorem dX11_image_8 : decode cX11_image 8 = .ok (.ifCond .ne 9, 3) := by decide +kernel
theorem dX11_image_11 : decode cX11_image 11 = .ok (.aload_n 0, 1) := by decide +kernel
theorem dX11_image_12 : decode cX11_image 12 = .ok (.iconst 1, 1) := by decide +kernel
theorem dX11_image_13 : decode cX11_image 13 = .ok (.invokevirtual 179, 3) := by decide +kernel
theorem dX11_image_16 : decode cX11_image 16 = .ok (.ireturn, 1) := by decide +kernel
theorem dX11_image_17 : decode cX11_image 17 = .ok (.aload_n 0, 1) := by decide +kernel
theorem dX11_image_18 : decode cX11_image 18 = .ok (.getfield 195, 3) := by decide +kernel
theorem dX11_image_21 : decode cX11_image 21 = .ok (.iconst 3, 1) := by decide +kernel
theorem dX11_image_22 : decode cX11_image 22 = .ok (.if_icmp .ne 9, 3) := by decide +kernel
theorem dX11_image_25 : decode cX11_image 25 = .ok (.aload_n 0, 1) := by decide +kernel
theorem dX11_image_26 : decode cX11_image 26 = .ok (.iconst 3, 1) := by decide +kernel
theorem dX11_image_27 : decode cX11_image 27 = .ok (.invokevirtual 179, 3) := by decide +kernel
theorem dX11_image_30 : decode cX11_image 30 = .ok (.ireturn, 1) := by decide +kernel
theorem dX11_image_31 : decode cX11_image 31 = .ok (.aload_n 0, 1) := by decide +kernel
theorem dX11_image_32 : decode cX11_image 32 = .ok (.getfield 29, 3) := by decide +kernel
theorem dX11_image_35 : decode cX11_image 35 = .ok (.iconst 0, 1) := by decide +kernel
theorem dX11_image_36 : decode cX11_image 36 = .ok (.aload_n 0, 1) := by decide +kernel
theorem dX11_image_37 : decode cX11_image 37 = .ok (.getfield 35, 3) := by decide +kernel
theorem dX11_image_40 : decode cX11_image 40 = .ok (.bipush 7, 2) := by decide +kernel
theorem dX11_image_42 : decode cX11_image 42 = .ok (.aload_n 0, 1) := by decide +kernel
theorem dX11_image_43 : decode cX11_image 43 = .ok (.getfield 195, 3) := by decide +kernel
theorem dX11_image_46 : decode cX11_image 46 = .ok (.imul, 1) := by decide +kernel
theorem dX11_image_47 : decode cX11_image 47 = .ok (.bipush 7, 2) := by decide +kernel
theorem dX11_image_49 : decode cX11_image 49 = .ok (.invokestatic 185, 3) := by decide +kernel
theorem dX11_image_52 : decode cX11_image 52 = .ok (.aload_n 0, 1) := by decide +kernel
theorem dX11_image_53 : decode cX11_image 53 = .ok (.dup, 1) := by decide +kernel
theorem dX11_image_54 : decode cX11_image 54 = .ok (.getfield 195, 3) := by decide +kernel
theorem dX11_image_57 : decode cX11_image 57 = .ok (.iconst 1, 1) := by decide +kernel
theorem dX11_image_58 : decode cX11_image 58 = .ok (.iadd, 1) := by decide +kernel
theorem dX11_image_59 : decode cX11_image 59 = .ok (.putfield 195, 3) := by decide +kernel
theorem dX11_image_62 : decode cX11_image 62 = .ok (.aload_n 0, 1) := by decide +kernel
theorem dX11_image_63 : decode cX11_image 63 = .ok (.getfield 195, 3) := by decide +kernel
theorem dX11_image_66 : decode cX11_image 66 = .ok (.iconst 1, 1) := by decide +kernel
theorem dX11_image_67 : decode cX11_image 67 = .ok (.isub, 1) := by decide +kernel
theorem dX11_image_68 : decode cX11_image 68 = .ok (.ireturn, 1) := by decide +kernel
theorem dX11_back_0 : decode cX11_back 0 = .ok (.aload_n 0, 1) := by decide +kernel
theorem dX11_back_1 : decode cX11_back 1 = .ok (.invokevirtual 176, 3) := by decide +kernel
theorem dX11_back_4 : decode cX11_back 4 = .ok (.iload_n 1, 1) := by decide +kernel
theorem dX11_back_5 : decode cX11_back 5 = .ok (.iconst 0, 1) := by decide +kernel
theorem dX11_back_6 : decode cX11_back 6 = .ok (.aload_n 0, 1) := by decide +kernel
theorem dX11_back_7 : decode cX11_back 7 = .ok (.getfield 195, 3) := by decide +kernel
theorem dX11_back_10 : decode cX11_back 10 = .ok (.iconst 1, 1) := by decide +kernel
theorem dX11_back_11 : decode cX11_back 11 = .ok (.isub, 1) := by decide +kernel
theorem dX11_back_12 : decode cX11_back 12 = .ok (.invokestatic 161, 3) := by decide +kernel
theorem dX11_back_15 : decode cX11_back 15 = .ok (.ifCond .ne 9, 3) := by decide +kernel
theorem dX11_back_18 : decode cX11_back 18 = .ok (.aload_n 0, 1) := by decide +kernel
theorem dX11_back_19 : decode cX11_back 19 = .ok (.iconst 1, 1) := by decide +kernel
theorem dX11_back_20 : decode cX11_back 20 = .ok (.invokevirtual 278, 3) := by decide +kernel
theorem dX11_back_23 : decode cX11_back 23 = .ok (.ireturn, 1) := by decide +kernel
theorem dX11_back_24 : decode cX11_back 24 = .ok (.aload_n 0, 1) := by decide +kernel
theorem dX11_back_25 : decode cX11_back 25 = .ok (.getfield 35, 3) := by decide +kernel
theorem dX11_back_28 : decode cX11_back 28 = .ok (.bipush 7, 2) := by decide +kernel
theorem dX11_back_30 : decode cX11_back 30 = .ok (.iload_n 1, 1) := by decide +kernel
theorem dX11_back_31 : decode cX11_back 31 = .ok (.imul, 1) := by decide +kernel
theorem dX11_back_32 : decode cX11_back 32 = .ok (.aload_n 0, 1) := by decide +kernel
theorem dX11_back_33 : decode cX11_back 33 = .ok (.getfield 29, 3) := by decide +kernel
theorem dX11_back_36 : decode cX11_back 36 = .ok (.iconst 0, 1) := by decide +kernel
theorem dX11_back_37 : decode cX11_back 37 = .ok (.bipush 7, 2) := by decide +kernel
theorem dX11_back_39 : decode cX11_back 39 = .ok (.invokestatic 185, 3) := by decide +kernel
theorem dX11_back_42 : decode cX11_back 42 = .ok (.aload_n 0, 1) := by decide +kernel
theorem dX11_back_43 : decode cX11_back 43 = .ok (.iconst 0, 1) := by decide +kernel
theorem dX11_back_44 : decode cX11_back 44 = .ok (.putfield 192, 3) := by decide +kernel
theorem dX11_back_47 : decode cX11_back 47 = .ok (.iconst 1, 1) := by decide +kernel
theorem dX11_back_48 : decode cX11_back 48 = .ok (.ireturn, 1) := by decide +kernel
theorem dX11_led_0 : decode cX11_led 0 = .ok (.iconst 0, 1) := by decide +kernel
theorem dX11_led_1 : decode cX11_led 1 = .ok (.istore_n 2, 1) := by decide +kernel
theorem dX11_led_2 : decode cX11_led 2 = .ok (.iconst 0, 1) := by decide +kernel
theorem dX11_led_3 : decode cX11_led 3 = .ok (.istore_n 3, 1) := by decide +kernel
theorem dX11_led_4 : decode cX11_led 4 = .ok (.aload_n 0, 1) := by decide +kernel
theorem dX11_led_5 : decode cX11_led 5 = .ok (.getfield 189, 3) := by decide +kernel
theorem dX11_led_8 : decode cX11_led 8 = .ok (.ifCond .eq 71, 3) := by decide +kernel
theorem dX11_led_11 : decode cX11_led 11 = .ok (.iload_n 3, 1) := by decide +kernel
theorem dX11_led_12 : decode cX11_led 12 = .ok (.aload_n 0, 1) := by decide +kernel
theorem dX11_led_13 : decode cX11_led 13 = .ok (.getfield 20, 3) := by decide +kernel
theorem dX11_led_16 : decode cX11_led 16 = .ok (.iconst 5, 1) := by decide +kernel
theorem dX11_led_17 : decode cX11_led 17 = .ok (.iaload, 1) := by decide +kernel
theorem dX11_led_18 : decode cX11_led 18 = .ok (.if_icmp .ge 61, 3) := by decide +kernel
theorem dX11_led_21 : decode cX11_led 21 = .ok (.aload_n 0, 1) := by decide +kernel
theorem dX11_led_22 : decode cX11_led 22 = .ok (.aload_n 0, 1) := by decide +kernel
theorem dX11_led_23 : decode cX11_led 23 = .ok (.getfield 29, 3) := by decide +kernel
theorem dX11_led_26 : decode cX11_led 26 = .ok (.iconst 0, 1) := by decide +kernel
theorem dX11_led_27 : decode cX11_led 27 = .ok (.iaload, 1) := by decide +kernel
theorem dX11_led_28 : decode cX11_led 28 = .ok (.iload_n 3, 1) := by decide +kernel
theorem dX11_led_29 : decode cX11_led 29 = .ok (.invokevirtual 263, 3) := by decide +kernel
theorem dX11_led_32 : decode cX11_led 32 = .ok (.ifCond .eq 41, 3) := by decide +kernel
theorem dX11_led_35 : decode cX11_led 35 = .ok (.aload_n 0, 1) := by decide +kernel
theorem dX11_led_36 : decode cX11_led 36 = .ok (.aload_n 0, 1) := by decide +kernel
theorem dX11_led_37 : decode cX11_led 37 = .ok (.getfield 29, 3) := by decide +kernel
theorem dX11_led_40 : decode cX11_led 40 = .ok (.iconst 0, 1) := by decide +kernel
theorem dX11_led_41 : decode cX11_led 41 = .ok (.iaload, 1) := by decide +kernel
theorem dX11_led_42 : decode cX11_led 42 = .ok (.iload_n 3, 1) := by decide +kernel
theorem dX11_led_43 : decode cX11_led 43 = .ok (.invokevirtual 263, 3) := by decide +kernel
theorem dX11_led_46 : decode cX11_led 46 = .ok (.aload_n 0, 1) := by decide +kernel
theorem dX11_led_47 : decode cX11_led 47 = .ok (.getfield 29, 3) := by decide +kernel
theorem dX11_led_50 : decode cX11_led 50 = .ok (.iconst 1, 1) := by decide +kernel
theorem dX11_led_51 : decode cX11_led 51 = .ok (.iaload, 1) := by decide +kernel
theorem dX11_led_52 : decode cX11_led 52 = .ok (.if_icmp .le 6, 3) := by decide +kernel
theorem dX11_led_55 : decode cX11_led 55 = .ok (.goto 18, 3) := by decide +kernel
theorem dX11_led_58 : decode cX11_led 58 = .ok (.iload_n 2, 1) := by decide +kernel
theorem dX11_led_59 : decode cX11_led 59 = .ok (.iload_n 1, 1) := by decide +kernel
theorem dX11_led_60 : decode cX11_led 60 = .ok (.if_icmp .ne 10, 3) := by decide +kernel
theorem dX11_led_63 : decode cX11_led 63 = .ok (.aload_n 0, 1) := by decide +kernel
theorem dX11_led_64 : decode cX11_led 64 = .ok (.iconst 0, 1) := by decide +kernel
theorem dX11_led_65 : decode cX11_led 65 = .ok (.putfield 66, 3) := by decide +kernel
theorem dX11_led_68 : decode cX11_led 68 = .ok (.iload_n 3, 1) := by decide +kernel
theorem dX11_led_69 : decode cX11_led 69 = .ok (.ireturn, 1) := by decide +kernel
theorem dX11_led_70 : decode cX11_led 70 = .ok (.iinc 2 1, 3) := by decide +kernel
theorem dX11_led_73 : decode cX11_led 73 = .ok (.iinc 3 1, 3) := by decide +kernel
theorem dX11_led_76 : decode cX11_led 76 = .ok (.goto (-72), 3) := by decide +kernel
theorem dX11_led_79 : decode cX11_led 79 = .ok (.aload_n 0, 1) := by decide +kernel
theorem dX11_led_80 : decode cX11_led 80 = .ok (.iconst 1, 1) := by decide +kernel
theorem dX11_led_81 : decode cX11_led 81 = .ok (.putfield 66, 3) := by decide +kernel
theorem dX11_led_84 : decode cX11_led 84 = .ok (.iconst 0, 1) := by decide +kernel
theorem dX11_led_85 : decode cX11_led 85 = .ok (.ireturn, 1) := by decide +kernel
theorem dX11_size_0 : decode cX11_size 0 = .ok (.aload_n 0, 1) := by decide +kernel
theorem dX11_size_1 : decode cX11_size 1 = .ok (.iconst 0, 1) := by decide +kernel
theorem dX11_size_2 : decode cX11_size 2 = .ok (.putfield 66, 3) := by decide +kernel
theorem dX11_size_5 : decode cX11_size 5 = .ok (.iload_n 1, 1) := by decide +kernel
theorem dX11_size_6 : decode cX11_size 6 = .ok (.bipush 13, 2) := by decide +kernel
theorem dX11_size_8 : decode cX11_size 8 = .ok (.if_icmp .ne 8, 3) := by decide +kernel
theorem dX11_size_11 : decode cX11_size 11 = .ok (.aload_n 0, 1) := by decide +kernel
theorem dX11_size_12 : decode cX11_size 12 = .ok (.getfield 76, 3) := by decide +kernel
theorem dX11_size_15 : decode cX11_size 15 = .ok (.ireturn, 1) := by decide +kernel
theorem dX11_size_16 : decode cX11_size 16 = .ok (.aload_n 0, 1) := by decide +kernel
theorem dX11_size_17 : decode cX11_size 17 = .ok (.getfield 189, 3) := by decide +kernel
theorem dX11_size_20 : decode cX11_size 20 = .ok (.ifCond .ne 19, 3) := by decide +kernel
theorem dX11_size_23 : decode cX11_size 23 = .ok (.iload_n 1, 1) := by decide +kernel
theorem dX11_size_24 : decode cX11_size 24 = .ok (.iconst 0, 1) := by decide +kernel
theorem dX11_size_25 : decode cX11_size 25 = .ok (.bipush 12, 2) := by decide +kernel
theorem dX11_size_27 : decode cX11_size 27 = .ok (.invokestatic 161, 3) := by decide +kernel
theorem dX11_size_30 : decode cX11_size 30 = .ok (.ifCond .eq 7, 3) := by decide +kernel
theorem dX11_size_33 : decode cX11_size 33 = .ok (.iconst 0, 1) := by decide +kernel
theorem dX11_size_34 : decode cX11_size 34 = .ok (.goto 4, 3) := by decide +kernel
theorem dX11_size_37 : decode cX11_size 37 = .ok (.iconst (-1), 1) := by decide +kernel
theorem dX11_size_38 : decode cX11_size 38 = .ok (.ireturn, 1) := by decide +kernel
theorem dX11_size_39 : decode cX11_size 39 = .ok (.iload_n 1, 1) := by decide +kernel
theorem dX11_size_40 : decode cX11_size 40 = .ok (.iconst 0, 1) := by decide +kernel
theorem dX11_size_41 : decode cX11_size 41 = .ok (.bipush 9, 2) := by decide +kernel
theorem dX11_size_43 : decode cX11_size 43 = .ok (.invokestatic 161, 3) := by decide +kernel
theorem dX11_size_46 : decode cX11_size 46 = .ok (.ifCond .eq 10, 3) := by decide +kernel
theorem dX11_size_49 : decode cX11_size 49 = .ok (.aload_n 0, 1) := by decide +kernel
theorem dX11_size_50 : decode cX11_size 50 = .ok (.getfield 20, 3) := by decide +kernel
theorem dX11_size_53 : decode cX11_size 53 = .ok (.iload_n 1, 1) := by decide +kernel
theorem dX11_size_54 : decode cX11_size 54 = .ok (.iaload, 1) := by decide +kernel
theorem dX11_size_55 : decode cX11_size 55 = .ok (.ireturn, 1) := by decide +kernel
theorem dX11_size_56 : decode cX11_size 56 = .ok (.iload_n 1, 1) := by decide +kernel
theorem dX11_size_57 : decode cX11_size 57 = .ok (.bipush 10, 2) := by decide +kernel
theorem dX11_size_59 : decode cX11_size 59 = .ok (.if_icmp .ne 13, 3) := by decide +kernel
theorem dX11_size_62 : decode cX11_size 62 = .ok (.aload_n 0, 1) := by decide +kernel
theorem dX11_size_63 : decode cX11_size 63 = .ok (.getfield 29, 3) := by decide +kernel
theorem dX11_size_66 : decode cX11_size 66 = .ok (.bipush 6, 2) := by decide +kernel
theorem dX11_size_68 : decode cX11_size 68 = .ok (.iaload, 1) := by decide +kernel
theorem dX11_size_69 : decode cX11_size 69 = .ok (.goto 30, 3) := by decide +kernel
theorem dX11_size_72 : decode cX11_size 72 = .ok (.iload_n 1, 1) := by decide +kernel
theorem dX11_size_73 : decode cX11_size 73 = .ok (.bipush 11, 2) := by decide +kernel
theorem dX11_size_75 : decode cX11_size 75 = .ok (.if_icmp .ne 10, 3) := by decide +kernel
theorem dX11_size_78 : decode cX11_size 78 = .ok (.aload_n 0, 1) := by decide +kernel
theorem dX11_size_79 : decode cX11_size 79 = .ok (.getfield 192, 3) := by decide +kernel
theorem dX11_size_82 : decode cX11_size 82 = .ok (.goto 17, 3) := by decide +kernel
theorem dX11_size_85 : decode cX11_size 85 = .ok (.iload_n 1, 1) := by decide +kernel
theorem dX11_size_86 : decode cX11_size 86 = .ok (.bipush 12, 2) := by decide +kernel
theorem dX11_size_88 : decode cX11_size 88 = .ok (.if_icmp .ne 10, 3) := by decide +kernel
theorem dX11_size_91 : decode cX11_size 91 = .ok (.aload_n 0, 1) := by decide +kernel
theorem dX11_size_92 : decode cX11_size 92 = .ok (.getfield 195, 3) := by decide +kernel
theorem dX11_size_95 : decode cX11_size 95 = .ok (.goto 4, 3) := by decide +kernel
theorem dX11_size_98 : decode cX11_size 98 = .ok (.iconst (-1), 1) := by decide +kernel
theorem dX11_size_99 : decode cX11_size 99 = .ok (.ireturn, 1) := by decide +kernel
theorem dX11_trouble_0 : decode cX11_trouble 0 = .ok (.aload_n 0, 1) := by decide +kernel
theorem dX11_trouble_1 : decode cX11_trouble 1 = .ok (.iconst 0, 1) := by decide +kernel
theorem dX11_trouble_2 : decode cX11_trouble 2 = .ok (.putfield 66, 3) := by decide +kernel
theorem dX11_trouble_5 : decode cX11_trouble 5 = .ok (.aload_n 0, 1) := by decide +kernel
theorem dX11_trouble_6 : decode cX11_trouble 6 = .ok (.getfield 69, 3) := by decide +kernel
theorem dX11_trouble_9 : decode cX11_trouble 9 = .ok (.ireturn, 1) := by decide +kernel
