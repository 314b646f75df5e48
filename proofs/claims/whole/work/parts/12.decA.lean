theorem dX0_init_0 : decode cX0_init 0 = .ok (.aload_n 0, 1) := by decide +kernel
theorem dX0_init_1 : decode cX0_init 1 = .ok (.invokespecial 3, 3) := by decide +kernel
theorem dX0_init_4 : decode cX0_init 4 = .ok (.return_, 1) := by decide +kernel
theorem dX0_next_0 : decode cX0_next 0 = .ok (.aload_n 0, 1) := by decide +kernel
theorem dX0_next_1 : decode cX0_next 1 = .ok (.bipush 75, 2) := by decide +kernel
theorem dX0_next_3 : decode cX0_next 3 = .ok (.aload_n 0, 1) := by decide +kernel
theorem dX0_next_4 : decode cX0_next 4 = .ok (.getfield 9, 3) := by decide +kernel
theorem dX0_next_7 : decode cX0_next 7 = .ok (.imul, 1) := by decide +kernel
theorem dX0_next_8 : decode cX0_next 8 = .ok (.bipush 74, 2) := by decide +kernel
theorem dX0_next_10 : decode cX0_next 10 = .ok (.iadd, 1) := by decide +kernel
theorem dX0_next_11 : decode cX0_next 11 = .ok (.ldc 15, 2) := by decide +kernel
theorem dX0_next_13 : decode cX0_next 13 = .ok (.irem, 1) := by decide +kernel
theorem dX0_next_14 : decode cX0_next 14 = .ok (.putfield 9, 3) := by decide +kernel
theorem dX0_next_17 : decode cX0_next 17 = .ok (.aload_n 0, 1) := by decide +kernel
theorem dX0_next_18 : decode cX0_next 18 = .ok (.getfield 9, 3) := by decide +kernel
theorem dX0_next_21 : decode cX0_next 21 = .ok (.ireturn, 1) := by decide +kernel
theorem dX0_priceSeen_0 : decode cX0_priceSeen 0 = .ok (.aload_n 1, 1) := by decide +kernel
theorem dX0_priceSeen_1 : decode cX0_priceSeen 1 = .ok (.getfield 16, 3) := by decide +kernel
theorem dX0_priceSeen_4 : decode cX0_priceSeen 4 = .ok (.iload_n 2, 1) := by decide +kernel
theorem dX0_priceSeen_5 : decode cX0_priceSeen 5 = .ok (.iaload, 1) := by decide +kernel
theorem dX0_priceSeen_6 : decode cX0_priceSeen 6 = .ok (.istore_n 3, 1) := by decide +kernel
theorem dX0_priceSeen_7 : decode cX0_priceSeen 7 = .ok (.iload_n 3, 1) := by decide +kernel
theorem dX0_priceSeen_8 : decode cX0_priceSeen 8 = .ok (.ifCond .ne 6, 3) := by decide +kernel
theorem dX0_priceSeen_11 : decode cX0_priceSeen 11 = .ok (.bipush (-2), 2) := by decide +kernel
theorem dX0_priceSeen_13 : decode cX0_priceSeen 13 = .ok (.ireturn, 1) := by decide +kernel
theorem dX0_priceSeen_14 : decode cX0_priceSeen 14 = .ok (.aload_n 0, 1) := by decide +kernel
theorem dX0_priceSeen_15 : decode cX0_priceSeen 15 = .ok (.invokevirtual 22, 3) := by decide +kernel
theorem dX0_priceSeen_18 : decode cX0_priceSeen 18 = .ok (.bipush 10, 2) := by decide +kernel
theorem dX0_priceSeen_20 : decode cX0_priceSeen 20 = .ok (.irem, 1) := by decide +kernel
theorem dX0_priceSeen_21 : decode cX0_priceSeen 21 = .ok (.aload_n 1, 1) := by decide +kernel
theorem dX0_priceSeen_22 : decode cX0_priceSeen 22 = .ok (.getfield 26, 3) := by decide +kernel
theorem dX0_priceSeen_25 : decode cX0_priceSeen 25 = .ok (.iload_n 2, 1) := by decide +kernel
theorem dX0_priceSeen_26 : decode cX0_priceSeen 26 = .ok (.iaload, 1) := by decide +kernel
theorem dX0_priceSeen_27 : decode cX0_priceSeen 27 = .ok (.if_icmp .ge 7, 3) := by decide +kernel
theorem dX0_priceSeen_30 : decode cX0_priceSeen 30 = .ok (.iconst 1, 1) := by decide +kernel
theorem dX0_priceSeen_31 : decode cX0_priceSeen 31 = .ok (.goto 4, 3) := by decide +kernel
theorem dX0_priceSeen_34 : decode cX0_priceSeen 34 = .ok (.iconst 0, 1) := by decide +kernel
theorem dX0_priceSeen_35 : decode cX0_priceSeen 35 = .ok (.istore 4, 2) := by decide +kernel
theorem dX0_priceSeen_37 : decode cX0_priceSeen 37 = .ok (.aload_n 1, 1) := by decide +kernel
theorem dX0_priceSeen_38 : decode cX0_priceSeen 38 = .ok (.getfield 29, 3) := by decide +kernel
theorem dX0_priceSeen_41 : decode cX0_priceSeen 41 = .ok (.iload_n 2, 1) := by decide +kernel
theorem dX0_priceSeen_42 : decode cX0_priceSeen 42 = .ok (.iaload, 1) := by decide +kernel
theorem dX0_priceSeen_43 : decode cX0_priceSeen 43 = .ok (.ifCond .le 20, 3) := by decide +kernel
theorem dX0_priceSeen_46 : decode cX0_priceSeen 46 = .ok (.aload_n 0, 1) := by decide +kernel
theorem dX0_priceSeen_47 : decode cX0_priceSeen 47 = .ok (.invokevirtual 22, 3) := by decide +kernel
theorem dX0_priceSeen_50 : decode cX0_priceSeen 50 = .ok (.iconst 2, 1) := by decide +kernel
theorem dX0_priceSeen_51 : decode cX0_priceSeen 51 = .ok (.irem, 1) := by decide +kernel
theorem dX0_priceSeen_52 : decode cX0_priceSeen 52 = .ok (.iconst 1, 1) := by decide +kernel
theorem dX0_priceSeen_53 : decode cX0_priceSeen 53 = .ok (.if_icmp .ne 10, 3) := by decide +kernel
theorem dX0_priceSeen_56 : decode cX0_priceSeen 56 = .ok (.aload_n 1, 1) := by decide +kernel
theorem dX0_priceSeen_57 : decode cX0_priceSeen 57 = .ok (.getfield 29, 3) := by decide +kernel
theorem dX0_priceSeen_60 : decode cX0_priceSeen 60 = .ok (.iload_n 2, 1) := by decide +kernel
theorem dX0_priceSeen_61 : decode cX0_priceSeen 61 = .ok (.iaload, 1) := by decide +kernel
theorem dX0_priceSeen_62 : decode cX0_priceSeen 62 = .ok (.istore_n 3, 1) := by decide +kernel
theorem dX0_priceSeen_63 : decode cX0_priceSeen 63 = .ok (.iload 4, 2) := by decide +kernel
theorem dX0_priceSeen_65 : decode cX0_priceSeen 65 = .ok (.ifCond .eq 8, 3) := by decide +kernel
theorem dX0_priceSeen_68 : decode cX0_priceSeen 68 = .ok (.bipush (-2), 2) := by decide +kernel
theorem dX0_priceSeen_70 : decode cX0_priceSeen 70 = .ok (.goto 4, 3) := by decide +kernel
theorem dX0_priceSeen_73 : decode cX0_priceSeen 73 = .ok (.iload_n 3, 1) := by decide +kernel
theorem dX0_priceSeen_74 : decode cX0_priceSeen 74 = .ok (.ireturn, 1) := by decide +kernel
theorem dX1_init_0 : decode cX1_init 0 = .ok (.aload_n 0, 1) := by decide +kernel
theorem dX1_init_1 : decode cX1_init 1 = .ok (.invokespecial 3, 3) := by decide +kernel
theorem dX1_init_4 : decode cX1_init 4 = .ok (.aload_n 0, 1) := by decide +kernel
theorem dX1_init_5 : decode cX1_init 5 = .ok (.new 9, 3) := by decide +kernel
theorem dX1_init_8 : decode cX1_init 8 = .ok (.dup, 1) := by decide +kernel
theorem dX1_init_9 : decode cX1_init 9 = .ok (.invokespecial 11, 3) := by decide +kernel
theorem dX1_init_12 : decode cX1_init 12 = .ok (.putfield 12, 3) := by decide +kernel
theorem dX1_init_15 : decode cX1_init 15 = .ok (.aload_n 0, 1) := by decide +kernel
theorem dX1_init_16 : decode cX1_init 16 = .ok (.bipush 41, 2) := by decide +kernel
theorem dX1_init_18 : decode cX1_init 18 = .ok (.newarray .long, 2) := by decide +kernel
theorem dX1_init_20 : decode cX1_init 20 = .ok (.putfield 18, 3) := by decide +kernel
theorem dX1_init_23 : decode cX1_init 23 = .ok (.aload_n 0, 1) := by decide +kernel
theorem dX1_init_24 : decode cX1_init 24 = .ok (.bipush 41, 2) := by decide +kernel
theorem dX1_init_26 : decode cX1_init 26 = .ok (.newarray .int, 2) := by decide +kernel
theorem dX1_init_28 : decode cX1_init 28 = .ok (.putfield 22, 3) := by decide +kernel
theorem dX1_init_31 : decode cX1_init 31 = .ok (.aload_n 0, 1) := by decide +kernel
theorem dX1_init_32 : decode cX1_init 32 = .ok (.bipush 41, 2) := by decide +kernel
theorem dX1_init_34 : decode cX1_init 34 = .ok (.newarray .int, 2) := by decide +kernel
theorem dX1_init_36 : decode cX1_init 36 = .ok (.putfield 26, 3) := by decide +kernel
theorem dX1_init_39 : decode cX1_init 39 = .ok (.return_, 1) := by decide +kernel
theorem dX1_pintsByRule_0 : decode cX1_pintsByRule 0 = .ok (.iload_n 2, 1) := by decide +kernel
theorem dX1_pintsByRule_1 : decode cX1_pintsByRule 1 = .ok (.tableswitch 63 0 2 #[27, 35, 50], 27) := by decide +kernel
theorem dX1_pintsByRule_28 : decode cX1_pintsByRule 28 = .ok (.aload_n 1, 1) := by decide +kernel
theorem dX1_pintsByRule_29 : decode cX1_pintsByRule 29 = .ok (.getfield 29, 3) := by decide +kernel
theorem dX1_pintsByRule_32 : decode cX1_pintsByRule 32 = .ok (.iload 4, 2) := by decide +kernel
theorem dX1_pintsByRule_34 : decode cX1_pintsByRule 34 = .ok (.isub, 1) := by decide +kernel
theorem dX1_pintsByRule_35 : decode cX1_pintsByRule 35 = .ok (.ireturn, 1) := by decide +kernel
theorem dX1_pintsByRule_36 : decode cX1_pintsByRule 36 = .ok (.aload_n 1, 1) := by decide +kernel
theorem dX1_pintsByRule_37 : decode cX1_pintsByRule 37 = .ok (.iload_n 3, 1) := by decide +kernel
theorem dX1_pintsByRule_38 : decode cX1_pintsByRule 38 = .ok (.aload_n 1, 1) := by decide +kernel
theorem dX1_pintsByRule_39 : decode cX1_pintsByRule 39 = .ok (.iload_n 3, 1) := by decide +kernel
theorem dX1_pintsByRule_40 : decode cX1_pintsByRule 40 = .ok (.iload 5, 2) := by decide +kernel
theorem dX1_pintsByRule_42 : decode cX1_pintsByRule 42 = .ok (.invokestatic 35, 3) := by decide +kernel
theorem dX1_pintsByRule_45 : decode cX1_pintsByRule 45 = .ok (.iload 4, 2) := by decide +kernel
theorem dX1_pintsByRule_47 : decode cX1_pintsByRule 47 = .ok (.invokestatic 39, 3) := by decide +kernel
theorem dX1_pintsByRule_50 : decode cX1_pintsByRule 50 = .ok (.ireturn, 1) := by decide +kernel
theorem dX1_pintsByRule_51 : decode cX1_pintsByRule 51 = .ok (.aload_n 1, 1) := by decide +kernel
theorem dX1_pintsByRule_52 : decode cX1_pintsByRule 52 = .ok (.iload_n 3, 1) := by decide +kernel
theorem dX1_pintsByRule_53 : decode cX1_pintsByRule 53 = .ok (.aload_n 1, 1) := by decide +kernel
theorem dX1_pintsByRule_54 : decode cX1_pintsByRule 54 = .ok (.iload_n 3, 1) := by decide +kernel
theorem dX1_pintsByRule_55 : decode cX1_pintsByRule 55 = .ok (.invokestatic 43, 3) := by decide +kernel
theorem dX1_pintsByRule_58 : decode cX1_pintsByRule 58 = .ok (.iload 4, 2) := by decide +kernel
theorem dX1_pintsByRule_60 : decode cX1_pintsByRule 60 = .ok (.invokestatic 39, 3) := by decide +kernel
theorem dX1_pintsByRule_63 : decode cX1_pintsByRule 63 = .ok (.ireturn, 1) := by decide +kernel
theorem dX1_pintsByRule_64 : decode cX1_pintsByRule 64 = .ok (.iconst 2, 1) := by decide +kernel
theorem dX1_pintsByRule_65 : decode cX1_pintsByRule 65 = .ok (.iload 4, 2) := by decide +kernel
theorem dX1_pintsByRule_67 : decode cX1_pintsByRule 67 = .ok (.imul, 1) := by decide +kernel
theorem dX1_pintsByRule_68 : decode cX1_pintsByRule 68 = .ok (.aload_n 1, 1) := by decide +kernel
theorem dX1_pintsByRule_69 : decode cX1_pintsByRule 69 = .ok (.getfield 29, 3) := by decide +kernel
theorem dX1_pintsByRule_72 : decode cX1_pintsByRule 72 = .ok (.if_icmp .ge 13, 3) := by decide +kernel
theorem dX1_pintsByRule_75 : decode cX1_pintsByRule 75 = .ok (.aload_n 1, 1) := by decide +kernel
theorem dX1_pintsByRule_76 : decode cX1_pintsByRule 76 = .ok (.getfield 29, 3) := by decide +kernel
theorem dX1_pintsByRule_79 : decode cX1_pintsByRule 79 = .ok (.iload 4, 2) := by decide +kernel
theorem dX1_pintsByRule_81 : decode cX1_pintsByRule 81 = .ok (.isub, 1) := by decide +kernel
theorem dX1_pintsByRule_82 : decode cX1_pintsByRule 82 = .ok (.goto 4, 3) := by decide +kernel
theorem dX1_pintsByRule_85 : decode cX1_pintsByRule 85 = .ok (.iconst 0, 1) := by decide +kernel
theorem dX1_pintsByRule_86 : decode cX1_pintsByRule 86 = .ok (.ireturn, 1) := by decide +kernel
theorem dX1_pintsTo_0 : decode cX1_pintsTo 0 = .ok (.aload_n 0, 1) := by decide +kernel
theorem dX1_pintsTo_1 : decode cX1_pintsTo 1 = .ok (.getfield 47, 3) := by decide +kernel
theorem dX1_pintsTo_4 : decode cX1_pintsTo 4 = .ok (.iload_n 2, 1) := by decide +kernel
theorem dX1_pintsTo_5 : decode cX1_pintsTo 5 = .ok (.iaload, 1) := by decide +kernel
theorem dX1_pintsTo_6 : decode cX1_pintsTo 6 = .ok (.aload_n 0, 1) := by decide +kernel
theorem dX1_pintsTo_7 : decode cX1_pintsTo 7 = .ok (.getfield 47, 3) := by decide +kernel
theorem dX1_pintsTo_10 : decode cX1_pintsTo 10 = .ok (.iload_n 1, 1) := by decide +kernel
theorem dX1_pintsTo_11 : decode cX1_pintsTo 11 = .ok (.iaload, 1) := by decide +kernel
theorem dX1_pintsTo_12 : decode cX1_pintsTo 12 = .ok (.isub, 1) := by decide +kernel
theorem dX1_pintsTo_13 : decode cX1_pintsTo 13 = .ok (.istore 4, 2) := by decide +kernel
theorem dX1_pintsTo_15 : decode cX1_pintsTo 15 = .ok (.iload 4, 2) := by decide +kernel
theorem dX1_pintsTo_17 : decode cX1_pintsTo 17 = .ok (.aload_n 0, 1) := by decide +kernel
theorem dX1_pintsTo_18 : decode cX1_pintsTo 18 = .ok (.getfield 29, 3) := by decide +kernel
theorem dX1_pintsTo_21 : decode cX1_pintsTo 21 = .ok (.if_icmp .gt 14, 3) := by decide +kernel
theorem dX1_pintsTo_24 : decode cX1_pintsTo 24 = .ok (.iconst 0, 1) := by decide +kernel
theorem dX1_pintsTo_25 : decode cX1_pintsTo 25 = .ok (.iload 4, 2) := by decide +kernel
theorem dX1_pintsTo_27 : decode cX1_pintsTo 27 = .ok (.iload_n 3, 1) := by decide +kernel
theorem dX1_pintsTo_28 : decode cX1_pintsTo 28 = .ok (.isub, 1) := by decide +kernel
theorem dX1_pintsTo_29 : decode cX1_pintsTo 29 = .ok (.invokestatic 50, 3) := by decide +kernel
theorem dX1_pintsTo_32 : decode cX1_pintsTo 32 = .ok (.goto 9, 3) := by decide +kernel
theorem dX1_pintsTo_35 : decode cX1_pintsTo 35 = .ok (.aload_n 0, 1) := by decide +kernel
theorem dX1_pintsTo_36 : decode cX1_pintsTo 36 = .ok (.getfield 29, 3) := by decide +kernel
theorem dX1_pintsTo_39 : decode cX1_pintsTo 39 = .ok (.iload_n 3, 1) := by decide +kernel
theorem dX1_pintsTo_40 : decode cX1_pintsTo 40 = .ok (.isub, 1) := by decide +kernel
theorem dX1_pintsTo_41 : decode cX1_pintsTo 41 = .ok (.ireturn, 1) := by decide +kernel
theorem dX1_nextCheaper_0 : decode cX1_nextCheaper 0 = .ok (.iload_n 1, 1) := by decide +kernel
theorem dX1_nextCheaper_1 : decode cX1_nextCheaper 1 = .ok (.iconst 1, 1) := by decide +kernel
theorem dX1_nextCheaper_2 : decode cX1_nextCheaper 2 = .ok (.iadd, 1) := by decide +kernel
theorem dX1_nextCheaper_3 : decode cX1_nextCheaper 3 = .ok (.istore_n 3, 1) := by decide +kernel
theorem dX1_nextCheaper_4 : decode cX1_nextCheaper 4 = .ok (.iload_n 3, 1) := by decide +kernel
theorem dX1_nextCheaper_5 : decode cX1_nextCheaper 5 = .ok (.aload_n 0, 1) := by decide +kernel
theorem dX1_nextCheaper_6 : decode cX1_nextCheaper 6 = .ok (.getfield 56, 3) := by decide +kernel
theorem dX1_nextCheaper_9 : decode cX1_nextCheaper 9 = .ok (.iconst 1, 1) := by decide +kernel
theorem dX1_nextCheaper_10 : decode cX1_nextCheaper 10 = .ok (.isub, 1) := by decide +kernel
theorem dX1_nextCheaper_11 : decode cX1_nextCheaper 11 = .ok (.if_icmp .ge 29, 3) := by decide +kernel
theorem dX1_nextCheaper_14 : decode cX1_nextCheaper 14 = .ok (.aload_n 0, 1) := by decide +kernel
theorem dX1_nextCheaper_15 : decode cX1_nextCheaper 15 = .ok (.iload_n 3, 1) := by decide +kernel
theorem dX1_nextCheaper_16 : decode cX1_nextCheaper 16 = .ok (.invokevirtual 59, 3) := by decide +kernel
theorem dX1_nextCheaper_19 : decode cX1_nextCheaper 19 = .ok (.ifCond .eq 15, 3) := by decide +kernel
theorem dX1_nextCheaper_22 : decode cX1_nextCheaper 22 = .ok (.aload_n 0, 1) := by decide +kernel
theorem dX1_nextCheaper_23 : decode cX1_nextCheaper 23 = .ok (.iload_n 3, 1) := by decide +kernel
theorem dX1_nextCheaper_24 : decode cX1_nextCheaper 24 = .ok (.iconst 0, 1) := by decide +kernel
theorem dX1_nextCheaper_25 : decode cX1_nextCheaper 25 = .ok (.invokevirtual 63, 3) := by decide +kernel
theorem dX1_nextCheaper_28 : decode cX1_nextCheaper 28 = .ok (.iload_n 2, 1) := by decide +kernel
theorem dX1_nextCheaper_29 : decode cX1_nextCheaper 29 = .ok (.if_icmp .ge 5, 3) := by decide +kernel
theorem dX1_nextCheaper_32 : decode cX1_nextCheaper 32 = .ok (.iload_n 3, 1) := by decide +kernel
theorem dX1_nextCheaper_33 : decode cX1_nextCheaper 33 = .ok (.ireturn, 1) := by decide +kernel
theorem dX1_nextCheaper_34 : decode cX1_nextCheaper 34 = .ok (.iinc 3 1, 3) := by decide +kernel
theorem dX1_nextCheaper_37 : decode cX1_nextCheaper 37 = .ok (.goto (-33), 3) := by decide +kernel
theorem dX1_nextCheaper_40 : decode cX1_nextCheaper 40 = .ok (.aload_n 0, 1) := by decide +kernel
theorem dX1_nextCheaper_41 : decode cX1_nextCheaper 41 = .ok (.getfield 56, 3) := by decide +kernel
theorem dX1_nextCheaper_44 : decode cX1_nextCheaper 44 = .ok (.iconst 1, 1) := by decide +kernel
theorem dX1_nextCheaper_45 : decode cX1_nextCheaper 45 = .ok (.isub, 1) := by decide +kernel
theorem dX1_nextCheaper_46 : decode cX1_nextCheaper 46 = .ok (.ireturn, 1) := by decide +kernel
theorem dX1_nextPump_0 : decode cX1_nextPump 0 = .ok (.iload_n 1, 1) := by decide +kernel
theorem dX1_nextPump_1 : decode cX1_nextPump 1 = .ok (.iconst 1, 1) := by decide +kernel
theorem dX1_nextPump_2 : decode cX1_nextPump 2 = .ok (.iadd, 1) := by decide +kernel
theorem dX1_nextPump_3 : decode cX1_nextPump 3 = .ok (.istore_n 2, 1) := by decide +kernel
theorem dX1_nextPump_4 : decode cX1_nextPump 4 = .ok (.iload_n 2, 1) := by decide +kernel
theorem dX1_nextPump_5 : decode cX1_nextPump 5 = .ok (.aload_n 0, 1) := by decide +kernel
theorem dX1_nextPump_6 : decode cX1_nextPump 6 = .ok (.getfield 56, 3) := by decide +kernel
theorem dX1_nextPump_9 : decode cX1_nextPump 9 = .ok (.iconst 1, 1) := by decide +kernel
theorem dX1_nextPump_10 : decode cX1_nextPump 10 = .ok (.isub, 1) := by decide +kernel
theorem dX1_nextPump_11 : decode cX1_nextPump 11 = .ok (.if_icmp .ge 19, 3) := by decide +kernel
theorem dX1_nextPump_14 : decode cX1_nextPump 14 = .ok (.aload_n 0, 1) := by decide +kernel
theorem dX1_nextPump_15 : decode cX1_nextPump 15 = .ok (.iload_n 2, 1) := by decide +kernel
theorem dX1_nextPump_16 : decode cX1_nextPump 16 = .ok (.invokevirtual 59, 3) := by decide +kernel
theorem dX1_nextPump_19 : decode cX1_nextPump 19 = .ok (.ifCond .eq 5, 3) := by decide +kernel
theorem dX1_nextPump_22 : decode cX1_nextPump 22 = .ok (.iload_n 2, 1) := by decide +kernel
theorem dX1_nextPump_23 : decode cX1_nextPump 23 = .ok (.ireturn, 1) := by decide +kernel
theorem dX1_nextPump_24 : decode cX1_nextPump 24 = .ok (.iinc 2 1, 3) := by decide +kernel
theorem dX1_nextPump_27 : decode cX1_nextPump 27 = .ok (.goto (-23), 3) := by decide +kernel
theorem dX1_nextPump_30 : decode cX1_nextPump 30 = .ok (.aload_n 0, 1) := by decide +kernel
theorem dX1_nextPump_31 : decode cX1_nextPump 31 = .ok (.getfield 56, 3) := by decide +kernel
theorem dX1_nextPump_34 : decode cX1_nextPump 34 = .ok (.iconst 1, 1) := by decide +kernel
theorem dX1_nextPump_35 : decode cX1_nextPump 35 = .ok (.isub, 1) := by decide +kernel
theorem dX1_nextPump_36 : decode cX1_nextPump 36 = .ok (.ireturn, 1) := by decide +kernel
theorem dX1_travelOpen_0 : decode cX1_travelOpen 0 = .ok (.aload_n 0, 1) := by decide +kernel
theorem dX1_travelOpen_1 : decode cX1_travelOpen 1 = .ok (.aload_n 1, 1) := by decide +kernel
theorem dX1_travelOpen_2 : decode cX1_travelOpen 2 = .ok (.iload_n 2, 1) := by decide +kernel
theorem dX1_travelOpen_3 : decode cX1_travelOpen 3 = .ok (.iconst 0, 1) := by decide +kernel
theorem dX1_travelOpen_4 : decode cX1_travelOpen 4 = .ok (.invokevirtual 67, 3) := by decide +kernel
theorem dX1_travelOpen_7 : decode cX1_travelOpen 7 = .ok (.ireturn, 1) := by decide +kernel
theorem dX1_travelDrawn_0 : decode cX1_travelDrawn 0 = .ok (.aload_n 0, 1) := by decide +kernel
theorem dX1_travelDrawn_1 : decode cX1_travelDrawn 1 = .ok (.getfield 12, 3) := by decide +kernel
theorem dX1_travelDrawn_4 : decode cX1_travelDrawn 4 = .ok (.iload_n 3, 1) := by decide +kernel
theorem dX1_travelDrawn_5 : decode cX1_travelDrawn 5 = .ok (.putfield 71, 3) := by decide +kernel
theorem dX1_travelDrawn_8 : decode cX1_travelDrawn 8 = .ok (.aload_n 0, 1) := by decide +kernel
theorem dX1_travelDrawn_9 : decode cX1_travelDrawn 9 = .ok (.aload_n 1, 1) := by decide +kernel
theorem dX1_travelDrawn_10 : decode cX1_travelDrawn 10 = .ok (.iload_n 2, 1) := by decide +kernel
theorem dX1_travelDrawn_11 : decode cX1_travelDrawn 11 = .ok (.iconst 1, 1) := by decide +kernel
theorem dX1_travelDrawn_12 : decode cX1_travelDrawn 12 = .ok (.invokevirtual 67, 3) := by decide +kernel
theorem dX1_travelDrawn_15 : decode cX1_travelDrawn 15 = .ok (.ireturn, 1) := by decide +kernel
theorem dX1_travel_0 : decode cX1_travel 0 = .ok (.aload_n 0, 1) := by decide +kernel
theorem dX1_travel_1 : decode cX1_travel 1 = .ok (.bipush (-2), 2) := by decide +kernel
theorem dX1_travel_3 : decode cX1_travel 3 = .ok (.putfield 74, 3) := by decide +kernel
theorem dX1_travel_6 : decode cX1_travel 6 = .ok (.aload_n 1, 1) := by decide +kernel
theorem dX1_travel_7 : decode cX1_travel 7 = .ok (.getfield 77, 3) := by decide +kernel
theorem dX1_travel_10 : decode cX1_travel 10 = .ok (.istore 4, 2) := by decide +kernel
theorem dX1_travel_12 : decode cX1_travel 12 = .ok (.iconst 0, 1) := by decide +kernel
theorem dX1_travel_13 : decode cX1_travel 13 = .ok (.istore 5, 2) := by decide +kernel
theorem dX1_travel_15 : decode cX1_travel 15 = .ok (.iconst 0, 1) := by decide +kernel
theorem dX1_travel_16 : decode cX1_travel 16 = .ok (.istore 6, 2) := by decide +kernel
theorem dX1_travel_18 : decode cX1_travel 18 = .ok (.iload 6, 2) := by decide +kernel
theorem dX1_travel_20 : decode cX1_travel 20 = .ok (.aload_n 1, 1) := by decide +kernel
theorem dX1_travel_21 : decode cX1_travel 21 = .ok (.getfield 56, 3) := by decide +kernel
theorem dX1_travel_24 : decode cX1_travel 24 = .ok (.iconst 1, 1) := by decide +kernel
theorem dX1_travel_25 : decode cX1_travel 25 = .ok (.isub, 1) := by decide +kernel
theorem dX1_travel_26 : decode cX1_travel 26 = .ok (.if_icmp .ge 115, 3) := by decide +kernel
theorem dX1_travel_29 : decode cX1_travel 29 = .ok (.iload_n 3, 1) := by decide +kernel
theorem dX1_travel_30 : decode cX1_travel 30 = .ok (.ifCond .eq 21, 3) := by decide +kernel
theorem dX1_travel_33 : decode cX1_travel 33 = .ok (.aload_n 0, 1) := by decide +kernel
theorem dX1_travel_34 : decode cX1_travel 34 = .ok (.getfield 12, 3) := by decide +kernel
theorem dX1_travel_37 : decode cX1_travel 37 = .ok (.aload_n 1, 1) := by decide +kernel
theorem dX1_travel_38 : decode cX1_travel 38 = .ok (.aload_n 1, 1) := by decide +kernel
theorem dX1_travel_39 : decode cX1_travel 39 = .ok (.getfield 80, 3) := by decide +kernel
theorem dX1_travel_42 : decode cX1_travel 42 = .ok (.iload 6, 2) := by decide +kernel
theorem dX1_travel_44 : decode cX1_travel 44 = .ok (.iaload, 1) := by decide +kernel
theorem dX1_travel_45 : decode cX1_travel 45 = .ok (.invokevirtual 83, 3) := by decide +kernel
theorem dX1_travel_48 : decode cX1_travel 48 = .ok (.goto 10, 3) := by decide +kernel
theorem dX1_travel_51 : decode cX1_travel 51 = .ok (.aload_n 1, 1) := by decide +kernel
theorem dX1_travel_52 : decode cX1_travel 52 = .ok (.iload 6, 2) := by decide +kernel
theorem dX1_travel_54 : decode cX1_travel 54 = .ok (.iconst 0, 1) := by decide +kernel
theorem dX1_travel_55 : decode cX1_travel 55 = .ok (.invokevirtual 63, 3) := by decide +kernel
theorem dX1_travel_58 : decode cX1_travel 58 = .ok (.istore 7, 2) := by decide +kernel
theorem dX1_travel_60 : decode cX1_travel 60 = .ok (.iload 7, 2) := by decide +kernel
theorem dX1_travel_62 : decode cX1_travel 62 = .ok (.ifCond .le 18, 3) := by decide +kernel
theorem dX1_travel_65 : decode cX1_travel 65 = .ok (.aload_n 0, 1) := by decide +kernel
theorem dX1_travel_66 : decode cX1_travel 66 = .ok (.aload_n 1, 1) := by decide +kernel
theorem dX1_travel_67 : decode cX1_travel 67 = .ok (.iload_n 2, 1) := by decide +kernel
theorem dX1_travel_68 : decode cX1_travel 68 = .ok (.iload 6, 2) := by decide +kernel
theorem dX1_travel_70 : decode cX1_travel 70 = .ok (.iload 4, 2) := by decide +kernel
theorem dX1_travel_72 : decode cX1_travel 72 = .ok (.iload 7, 2) := by decide +kernel
theorem dX1_travel_74 : decode cX1_travel 74 = .ok (.invokevirtual 86, 3) := by decide +kernel
theorem dX1_travel_77 : decode cX1_travel 77 = .ok (.goto 4, 3) := by decide +kernel
theorem dX1_travel_80 : decode cX1_travel 80 = .ok (.iconst 0, 1) := by decide +kernel
theorem dX1_travel_81 : decode cX1_travel 81 = .ok (.istore 8, 2) := by decide +kernel
theorem dX1_travel_83 : decode cX1_travel 83 = .ok (.iload 5, 2) := by decide +kernel
theorem dX1_travel_85 : decode cX1_travel 85 = .ok (.iload 8, 2) := by decide +kernel
theorem dX1_travel_87 : decode cX1_travel 87 = .ok (.ifCond .le 16, 3) := by decide +kernel
theorem dX1_travel_90 : decode cX1_travel 90 = .ok (.iload 8, 2) := by decide +kernel
theorem dX1_travel_92 : decode cX1_travel 92 = .ok (.iload 7, 2) := by decide +kernel
theorem dX1_travel_94 : decode cX1_travel 94 = .ok (.imul, 1) := by decide +kernel
theorem dX1_travel_95 : decode cX1_travel 95 = .ok (.aload_n 1, 1) := by decide +kernel
theorem dX1_travel_96 : decode cX1_travel 96 = .ok (.getfield 90, 3) := by decide +kernel
theorem dX1_travel_99 : decode cX1_travel 99 = .ok (.iadd, 1) := by decide +kernel
theorem dX1_travel_100 : decode cX1_travel 100 = .ok (.goto 4, 3) := by decide +kernel
theorem dX1_travel_103 : decode cX1_travel 103 = .ok (.iconst 0, 1) := by decide +kernel
theorem dX1_travel_104 : decode cX1_travel 104 = .ok (.iadd, 1) := by decide +kernel
theorem dX1_travel_105 : decode cX1_travel 105 = .ok (.istore 5, 2) := by decide +kernel
theorem dX1_travel_107 : decode cX1_travel 107 = .ok (.iload 4, 2) := by decide +kernel
theorem dX1_travel_109 : decode cX1_travel 109 = .ok (.iload 8, 2) := by decide +kernel
theorem dX1_travel_111 : decode cX1_travel 111 = .ok (.aload_n 1, 1) := by decide +kernel
theorem dX1_travel_112 : decode cX1_travel 112 = .ok (.iload 6, 2) := by decide +kernel
theorem dX1_travel_114 : decode cX1_travel 114 = .ok (.invokevirtual 93, 3) := by decide +kernel
theorem dX1_travel_117 : decode cX1_travel 117 = .ok (.isub, 1) := by decide +kernel
theorem dX1_travel_118 : decode cX1_travel 118 = .ok (.iadd, 1) := by decide +kernel
theorem dX1_travel_119 : decode cX1_travel 119 = .ok (.istore 4, 2) := by decide +kernel
theorem dX1_travel_121 : decode cX1_travel 121 = .ok (.iload 4, 2) := by decide +kernel
theorem dX1_travel_123 : decode cX1_travel 123 = .ok (.ifCond .ge 12, 3) := by decide +kernel
theorem dX1_travel_126 : decode cX1_travel 126 = .ok (.aload_n 0, 1) := by decide +kernel
theorem dX1_travel_127 : decode cX1_travel 127 = .ok (.iload 6, 2) := by decide +kernel
theorem dX1_travel_129 : decode cX1_travel 129 = .ok (.putfield 74, 3) := by decide +kernel
theorem dX1_travel_132 : decode cX1_travel 132 = .ok (.bipush (-2), 2) := by decide +kernel
theorem dX1_travel_134 : decode cX1_travel 134 = .ok (.ireturn, 1) := by decide +kernel
theorem dX1_travel_135 : decode cX1_travel 135 = .ok (.iinc 6 1, 3) := by decide +kernel
theorem dX1_travel_138 : decode cX1_travel 138 = .ok (.goto (-120), 3) := by decide +kernel
theorem dX1_travel_141 : decode cX1_travel 141 = .ok (.iload 5, 2) := by decide +kernel
theorem dX1_travel_143 : decode cX1_travel 143 = .ok (.ireturn, 1) := by decide +kernel
theorem dX1_reckonMean_0 : decode cX1_reckonMean 0 = .ok (.aload_n 0, 1) := by decide +kernel
theorem dX1_reckonMean_1 : decode cX1_reckonMean 1 = .ok (.aload_n 1, 1) := by decide +kernel
theorem dX1_reckonMean_2 : decode cX1_reckonMean 2 = .ok (.iload_n 2, 1) := by decide +kernel
theorem dX1_reckonMean_3 : decode cX1_reckonMean 3 = .ok (.iconst 0, 1) := by decide +kernel
theorem dX1_reckonMean_4 : decode cX1_reckonMean 4 = .ok (.iconst 0, 1) := by decide +kernel
theorem dX1_reckonMean_5 : decode cX1_reckonMean 5 = .ok (.invokevirtual 97, 3) := by decide +kernel
theorem dX1_reckonMean_8 : decode cX1_reckonMean 8 = .ok (.aload_n 3, 1) := by decide +kernel
theorem dX1_reckonMean_9 : decode cX1_reckonMean 9 = .ok (.aload_n 0, 1) := by decide +kernel
theorem dX1_reckonMean_10 : decode cX1_reckonMean 10 = .ok (.getfield 18, 3) := by decide +kernel
theorem dX1_reckonMean_13 : decode cX1_reckonMean 13 = .ok (.aload_n 1, 1) := by decide +kernel
theorem dX1_reckonMean_14 : decode cX1_reckonMean 14 = .ok (.getfield 77, 3) := by decide +kernel
theorem dX1_reckonMean_17 : decode cX1_reckonMean 17 = .ok (.laload, 1) := by decide +kernel
theorem dX1_reckonMean_18 : decode cX1_reckonMean 18 = .ok (.aload_n 0, 1) := by decide +kernel
theorem dX1_reckonMean_19 : decode cX1_reckonMean 19 = .ok (.getfield 101, 3) := by decide +kernel
theorem dX1_reckonMean_22 : decode cX1_reckonMean 22 = .ok (.invokevirtual 105, 3) := by decide +kernel
theorem dX1_reckonMean_25 : decode cX1_reckonMean 25 = .ok (.return_, 1) := by decide +kernel
theorem dX1_reckonOdds_0 : decode cX1_reckonOdds 0 = .ok (.aload_n 0, 1) := by decide +kernel
theorem dX1_reckonOdds_1 : decode cX1_reckonOdds 1 = .ok (.aload_n 1, 1) := by decide +kernel
theorem dX1_reckonOdds_2 : decode cX1_reckonOdds 2 = .ok (.iload_n 2, 1) := by decide +kernel
theorem dX1_reckonOdds_3 : decode cX1_reckonOdds 3 = .ok (.iconst 1, 1) := by decide +kernel
theorem dX1_reckonOdds_4 : decode cX1_reckonOdds 4 = .ok (.iconst 0, 1) := by decide +kernel
theorem dX1_reckonOdds_5 : decode cX1_reckonOdds 5 = .ok (.invokevirtual 97, 3) := by decide +kernel
theorem dX1_reckonOdds_8 : decode cX1_reckonOdds 8 = .ok (.aload_n 3, 1) := by decide +kernel
theorem dX1_reckonOdds_9 : decode cX1_reckonOdds 9 = .ok (.aload_n 0, 1) := by decide +kernel
theorem dX1_reckonOdds_10 : decode cX1_reckonOdds 10 = .ok (.getfield 18, 3) := by decide +kernel
theorem dX1_reckonOdds_13 : decode cX1_reckonOdds 13 = .ok (.aload_n 1, 1) := by decide +kernel
theorem dX1_reckonOdds_14 : decode cX1_reckonOdds 14 = .ok (.getfield 77, 3) := by decide +kernel
theorem dX1_reckonOdds_17 : decode cX1_reckonOdds 17 = .ok (.laload, 1) := by decide +kernel
theorem dX1_reckonOdds_18 : decode cX1_reckonOdds 18 = .ok (.aload_n 0, 1) := by decide +kernel
theorem dX1_reckonOdds_19 : decode cX1_reckonOdds 19 = .ok (.getfield 101, 3) := by decide +kernel
theorem dX1_reckonOdds_22 : decode cX1_reckonOdds 22 = .ok (.invokevirtual 105, 3) := by decide +kernel
theorem dX1_reckonOdds_25 : decode cX1_reckonOdds 25 = .ok (.return_, 1) := by decide +kernel
theorem dX1_ruleOfLeastMean_0 : decode cX1_ruleOfLeastMean 0 = .ok (.iconst 0, 1) := by decide +kernel
theorem dX1_ruleOfLeastMean_1 : decode cX1_ruleOfLeastMean 1 = .ok (.istore_n 2, 1) := by decide +kernel
theorem dX1_ruleOfLeastMean_2 : decode cX1_ruleOfLeastMean 2 = .ok (.lconst 0, 1) := by decide +kernel
theorem dX1_ruleOfLeastMean_3 : decode cX1_ruleOfLeastMean 3 = .ok (.lstore_n 3, 1) := by decide +kernel
theorem dX1_ruleOfLeastMean_4 : decode cX1_ruleOfLeastMean 4 = .ok (.iconst 0, 1) := by decide +kernel
theorem dX1_ruleOfLeastMean_5 : decode cX1_ruleOfLeastMean 5 = .ok (.istore 5, 2) := by decide +kernel
theorem dX1_ruleOfLeastMean_7 : decode cX1_ruleOfLeastMean 7 = .ok (.iload 5, 2) := by decide +kernel
theorem dX1_ruleOfLeastMean_9 : decode cX1_ruleOfLeastMean 9 = .ok (.iconst 4, 1) := by decide +kernel
theorem dX1_ruleOfLeastMean_10 : decode cX1_ruleOfLeastMean 10 = .ok (.if_icmp .ge 50, 3) := by decide +kernel
theorem dX1_ruleOfLeastMean_13 : decode cX1_ruleOfLeastMean 13 = .ok (.aload_n 0, 1) := by decide +kernel
theorem dX1_ruleOfLeastMean_14 : decode cX1_ruleOfLeastMean 14 = .ok (.aload_n 1, 1) := by decide +kernel
theorem dX1_ruleOfLeastMean_15 : decode cX1_ruleOfLeastMean 15 = .ok (.iload 5, 2) := by decide +kernel
theorem dX1_ruleOfLeastMean_17 : decode cX1_ruleOfLeastMean 17 = .ok (.iconst 0, 1) := by decide +kernel
theorem dX1_ruleOfLeastMean_18 : decode cX1_ruleOfLeastMean 18 = .ok (.iconst 0, 1) := by decide +kernel
theorem dX1_ruleOfLeastMean_19 : decode cX1_ruleOfLeastMean 19 = .ok (.invokevirtual 97, 3) := by decide +kernel
theorem dX1_ruleOfLeastMean_22 : decode cX1_ruleOfLeastMean 22 = .ok (.iload 5, 2) := by decide +kernel
theorem dX1_ruleOfLeastMean_24 : decode cX1_ruleOfLeastMean 24 = .ok (.ifCond .eq 17, 3) := by decide +kernel
theorem dX1_ruleOfLeastMean_27 : decode cX1_ruleOfLeastMean 27 = .ok (.aload_n 0, 1) := by decide +kernel
theorem dX1_ruleOfLeastMean_28 : decode cX1_ruleOfLeastMean 28 = .ok (.getfield 18, 3) := by decide +kernel
theorem dX1_ruleOfLeastMean_31 : decode cX1_ruleOfLeastMean 31 = .ok (.aload_n 1, 1) := by decide +kernel
theorem dX1_ruleOfLeastMean_32 : decode cX1_ruleOfLeastMean 32 = .ok (.getfield 77, 3) := by decide +kernel
theorem dX1_ruleOfLeastMean_35 : decode cX1_ruleOfLeastMean 35 = .ok (.laload, 1) := by decide +kernel
theorem dX1_ruleOfLeastMean_36 : decode cX1_ruleOfLeastMean 36 = .ok (.lload_n 3, 1) := by decide +kernel
theorem dX1_ruleOfLeastMean_37 : decode cX1_ruleOfLeastMean 37 = .ok (.lcmp, 1) := by decide +kernel
theorem dX1_ruleOfLeastMean_38 : decode cX1_ruleOfLeastMean 38 = .ok (.ifCond .ge 16, 3) := by decide +kernel
theorem dX1_ruleOfLeastMean_41 : decode cX1_ruleOfLeastMean 41 = .ok (.aload_n 0, 1) := by decide +kernel
theorem dX1_ruleOfLeastMean_42 : decode cX1_ruleOfLeastMean 42 = .ok (.getfield 18, 3) := by decide +kernel
theorem dX1_ruleOfLeastMean_45 : decode cX1_ruleOfLeastMean 45 = .ok (.aload_n 1, 1) := by decide +kernel
theorem dX1_ruleOfLeastMean_46 : decode cX1_ruleOfLeastMean 46 = .ok (.getfield 77, 3) := by decide +kernel
theorem dX1_ruleOfLeastMean_49 : decode cX1_ruleOfLeastMean 49 = .ok (.laload, 1) := by decide +kernel
theorem dX1_ruleOfLeastMean_50 : decode cX1_ruleOfLeastMean 50 = .ok (.lstore_n 3, 1) := by decide +kernel
theorem dX1_ruleOfLeastMean_51 : decode cX1_ruleOfLeastMean 51 = .ok (.iload 5, 2) := by decide +kernel
theorem dX1_ruleOfLeastMean_53 : decode cX1_ruleOfLeastMean 53 = .ok (.istore_n 2, 1) := by decide +kernel
theorem dX1_ruleOfLeastMean_54 : decode cX1_ruleOfLeastMean 54 = .ok (.iinc 5 1, 3) := by decide +kernel
theorem dX1_ruleOfLeastMean_57 : decode cX1_ruleOfLeastMean 57 = .ok (.goto (-50), 3) := by decide +kernel
theorem dX1_ruleOfLeastMean_60 : decode cX1_ruleOfLeastMean 60 = .ok (.iload_n 2, 1) := by decide +kernel
theorem dX1_ruleOfLeastMean_61 : decode cX1_ruleOfLeastMean 61 = .ok (.ireturn, 1) := by decide +kernel
theorem dX1_bestPints_0 : decode cX1_bestPints 0 = .ok (.aload_n 0, 1) := by decide +kernel
theorem dX1_bestPints_1 : decode cX1_bestPints 1 = .ok (.aload_n 1, 1) := by decide +kernel
theorem dX1_bestPints_2 : decode cX1_bestPints 2 = .ok (.iconst 4, 1) := by decide +kernel
theorem dX1_bestPints_3 : decode cX1_bestPints 3 = .ok (.iconst 0, 1) := by decide +kernel
theorem dX1_bestPints_4 : decode cX1_bestPints 4 = .ok (.iload_n 2, 1) := by decide +kernel
theorem dX1_bestPints_5 : decode cX1_bestPints 5 = .ok (.iconst 1, 1) := by decide +kernel
theorem dX1_bestPints_6 : decode cX1_bestPints 6 = .ok (.iadd, 1) := by decide +kernel
theorem dX1_bestPints_7 : decode cX1_bestPints 7 = .ok (.invokevirtual 97, 3) := by decide +kernel
theorem dX1_bestPints_10 : decode cX1_bestPints 10 = .ok (.aload_n 0, 1) := by decide +kernel
theorem dX1_bestPints_11 : decode cX1_bestPints 11 = .ok (.aload_n 1, 1) := by decide +kernel
theorem dX1_bestPints_12 : decode cX1_bestPints 12 = .ok (.iload_n 2, 1) := by decide +kernel
theorem dX1_bestPints_13 : decode cX1_bestPints 13 = .ok (.iconst 0, 1) := by decide +kernel
theorem dX1_bestPints_14 : decode cX1_bestPints 14 = .ok (.invokevirtual 111, 3) := by decide +kernel
theorem dX1_bestPints_17 : decode cX1_bestPints 17 = .ok (.aload_n 0, 1) := by decide +kernel
theorem dX1_bestPints_18 : decode cX1_bestPints 18 = .ok (.aload_n 1, 1) := by decide +kernel
theorem dX1_bestPints_19 : decode cX1_bestPints 19 = .ok (.iconst 4, 1) := by decide +kernel
theorem dX1_bestPints_20 : decode cX1_bestPints 20 = .ok (.iload_n 2, 1) := by decide +kernel
theorem dX1_bestPints_21 : decode cX1_bestPints 21 = .ok (.iload 4, 2) := by decide +kernel
theorem dX1_bestPints_23 : decode cX1_bestPints 23 = .ok (.aload_n 0, 1) := by decide +kernel
theorem dX1_bestPints_24 : decode cX1_bestPints 24 = .ok (.getfield 101, 3) := by decide +kernel
theorem dX1_bestPints_27 : decode cX1_bestPints 27 = .ok (.aload_n 0, 1) := by decide +kernel
theorem dX1_bestPints_28 : decode cX1_bestPints 28 = .ok (.getfield 22, 3) := by decide +kernel
theorem dX1_bestPints_31 : decode cX1_bestPints 31 = .ok (.invokevirtual 115, 3) := by decide +kernel
theorem dX1_bestPints_34 : decode cX1_bestPints 34 = .ok (.aload_n 0, 1) := by decide +kernel
theorem dX1_bestPints_35 : decode cX1_bestPints 35 = .ok (.getfield 22, 3) := by decide +kernel
theorem dX1_bestPints_38 : decode cX1_bestPints 38 = .ok (.iload_n 3, 1) := by decide +kernel
theorem dX1_bestPints_39 : decode cX1_bestPints 39 = .ok (.iaload, 1) := by decide +kernel
theorem dX1_bestPints_40 : decode cX1_bestPints 40 = .ok (.iload_n 3, 1) := by decide +kernel
theorem dX1_bestPints_41 : decode cX1_bestPints 41 = .ok (.isub, 1) := by decide +kernel
theorem dX1_bestPints_42 : decode cX1_bestPints 42 = .ok (.ireturn, 1) := by decide +kernel
theorem dX1_lookDownTo_0 : decode cX1_lookDownTo 0 = .ok (.aload_n 0, 1) := by decide +kernel
theorem dX1_lookDownTo_1 : decode cX1_lookDownTo 1 = .ok (.lconst 1, 1) := by decide +kernel
theorem dX1_lookDownTo_2 : decode cX1_lookDownTo 2 = .ok (.putfield 101, 3) := by decide +kernel
theorem dX1_lookDownTo_5 : decode cX1_lookDownTo 5 = .ok (.aload_n 0, 1) := by decide +kernel
theorem dX1_lookDownTo_6 : decode cX1_lookDownTo 6 = .ok (.getfield 18, 3) := by decide +kernel
theorem dX1_lookDownTo_9 : decode cX1_lookDownTo 9 = .ok (.iload_n 3, 1) := by decide +kernel
theorem dX1_lookDownTo_10 : decode cX1_lookDownTo 10 = .ok (.ifCond .eq 7, 3) := by decide +kernel
theorem dX1_lookDownTo_13 : decode cX1_lookDownTo 13 = .ok (.lconst 1, 1) := by decide +kernel
theorem dX1_lookDownTo_14 : decode cX1_lookDownTo 14 = .ok (.goto 4, 3) := by decide +kernel
theorem dX1_lookDownTo_17 : decode cX1_lookDownTo 17 = .ok (.lconst 0, 1) := by decide +kernel
theorem dX1_lookDownTo_18 : decode cX1_lookDownTo 18 = .ok (.invokestatic 119, 3) := by decide +kernel
theorem dX1_lookDownTo_21 : decode cX1_lookDownTo 21 = .ok (.aload_n 1, 1) := by decide +kernel
theorem dX1_lookDownTo_22 : decode cX1_lookDownTo 22 = .ok (.getfield 56, 3) := by decide +kernel
theorem dX1_lookDownTo_25 : decode cX1_lookDownTo 25 = .ok (.iconst 2, 1) := by decide +kernel
theorem dX1_lookDownTo_26 : decode cX1_lookDownTo 26 = .ok (.isub, 1) := by decide +kernel
theorem dX1_lookDownTo_27 : decode cX1_lookDownTo 27 = .ok (.istore 5, 2) := by decide +kernel
theorem dX1_lookDownTo_29 : decode cX1_lookDownTo 29 = .ok (.iload 5, 2) := by decide +kernel
theorem dX1_lookDownTo_31 : decode cX1_lookDownTo 31 = .ok (.iload 4, 2) := by decide +kernel
theorem dX1_lookDownTo_33 : decode cX1_lookDownTo 33 = .ok (.if_icmp .lt 58, 3) := by decide +kernel
theorem dX1_lookDownTo_36 : decode cX1_lookDownTo 36 = .ok (.aload_n 0, 1) := by decide +kernel
theorem dX1_lookDownTo_37 : decode cX1_lookDownTo 37 = .ok (.aload_n 1, 1) := by decide +kernel
theorem dX1_lookDownTo_38 : decode cX1_lookDownTo 38 = .ok (.iload 5, 2) := by decide +kernel
theorem dX1_lookDownTo_40 : decode cX1_lookDownTo 40 = .ok (.iload_n 3, 1) := by decide +kernel
theorem dX1_lookDownTo_41 : decode cX1_lookDownTo 41 = .ok (.invokevirtual 111, 3) := by decide +kernel
theorem dX1_lookDownTo_44 : decode cX1_lookDownTo 44 = .ok (.aload_n 1, 1) := by decide +kernel
theorem dX1_lookDownTo_45 : decode cX1_lookDownTo 45 = .ok (.iload 5, 2) := by decide +kernel
theorem dX1_lookDownTo_47 : decode cX1_lookDownTo 47 = .ok (.invokevirtual 59, 3) := by decide +kernel
theorem dX1_lookDownTo_50 : decode cX1_lookDownTo 50 = .ok (.ifCond .eq 35, 3) := by decide +kernel
theorem dX1_lookDownTo_53 : decode cX1_lookDownTo 53 = .ok (.aload_n 0, 1) := by decide +kernel
theorem dX1_lookDownTo_54 : decode cX1_lookDownTo 54 = .ok (.aload_n 1, 1) := by decide +kernel
theorem dX1_lookDownTo_55 : decode cX1_lookDownTo 55 = .ok (.iload_n 2, 1) := by decide +kernel
theorem dX1_lookDownTo_56 : decode cX1_lookDownTo 56 = .ok (.iload 5, 2) := by decide +kernel
theorem dX1_lookDownTo_58 : decode cX1_lookDownTo 58 = .ok (.iload_n 3, 1) := by decide +kernel
theorem dX1_lookDownTo_59 : decode cX1_lookDownTo 59 = .ok (.ifCond .eq 7, 3) := by decide +kernel
theorem dX1_lookDownTo_62 : decode cX1_lookDownTo 62 = .ok (.lconst 0, 1) := by decide +kernel
theorem dX1_lookDownTo_63 : decode cX1_lookDownTo 63 = .ok (.goto 7, 3) := by decide +kernel
theorem dX1_lookDownTo_66 : decode cX1_lookDownTo 66 = .ok (.aload_n 0, 1) := by decide +kernel
theorem dX1_lookDownTo_67 : decode cX1_lookDownTo 67 = .ok (.getfield 101, 3) := by decide +kernel
theorem dX1_lookDownTo_70 : decode cX1_lookDownTo 70 = .ok (.invokevirtual 125, 3) := by decide +kernel
theorem dX1_lookDownTo_73 : decode cX1_lookDownTo 73 = .ok (.aload_n 0, 1) := by decide +kernel
theorem dX1_lookDownTo_74 : decode cX1_lookDownTo 74 = .ok (.dup, 1) := by decide +kernel
theorem dX1_lookDownTo_75 : decode cX1_lookDownTo 75 = .ok (.getfield 101, 3) := by decide +kernel
theorem dX1_lookDownTo_78 : decode cX1_lookDownTo 78 = .ok (.ldc2_w 129, 3) := by decide +kernel
theorem dX1_lookDownTo_81 : decode cX1_lookDownTo 81 = .ok (.lmul, 1) := by decide +kernel
theorem dX1_lookDownTo_82 : decode cX1_lookDownTo 82 = .ok (.putfield 101, 3) := by decide +kernel
theorem dX1_lookDownTo_85 : decode cX1_lookDownTo 85 = .ok (.iinc 5 (-1), 3) := by decide +kernel
theorem dX1_lookDownTo_88 : decode cX1_lookDownTo 88 = .ok (.goto (-59), 3) := by decide +kernel
theorem dX1_lookDownTo_91 : decode cX1_lookDownTo 91 = .ok (.return_, 1) := by decide +kernel
theorem dX1_leaveStation_0 : decode cX1_leaveStation 0 = .ok (.aload_n 0, 1) := by decide +kernel
theorem dX1_leaveStation_1 : decode cX1_leaveStation 1 = .ok (.getfield 18, 3) := by decide +kernel
theorem dX1_leaveStation_4 : decode cX1_leaveStation 4 = .ok (.aload_n 1, 1) := by decide +kernel
theorem dX1_leaveStation_5 : decode cX1_leaveStation 5 = .ok (.getfield 29, 3) := by decide +kernel
theorem dX1_leaveStation_8 : decode cX1_leaveStation 8 = .ok (.aload_n 1, 1) := by decide +kernel
theorem dX1_leaveStation_9 : decode cX1_leaveStation 9 = .ok (.iload_n 2, 1) := by decide +kernel
theorem dX1_leaveStation_10 : decode cX1_leaveStation 10 = .ok (.invokevirtual 93, 3) := by decide +kernel
theorem dX1_leaveStation_13 : decode cX1_leaveStation 13 = .ok (.iload_n 3, 1) := by decide +kernel
theorem dX1_leaveStation_14 : decode cX1_leaveStation 14 = .ok (.ifCond .eq 7, 3) := by decide +kernel
theorem dX1_leaveStation_17 : decode cX1_leaveStation 17 = .ok (.lconst 0, 1) := by decide +kernel
theorem dX1_leaveStation_18 : decode cX1_leaveStation 18 = .ok (.goto 13, 3) := by decide +kernel
theorem dX1_leaveStation_21 : decode cX1_leaveStation 21 = .ok (.aload_n 1, 1) := by decide +kernel
theorem dX1_leaveStation_22 : decode cX1_leaveStation 22 = .ok (.getfield 131, 3) := by decide +kernel
theorem dX1_leaveStation_25 : decode cX1_leaveStation 25 = .ok (.i2l, 1) := by decide +kernel
theorem dX1_leaveStation_26 : decode cX1_leaveStation 26 = .ok (.aload_n 0, 1) := by decide +kernel
theorem dX1_leaveStation_27 : decode cX1_leaveStation 27 = .ok (.getfield 101, 3) := by decide +kernel
theorem dX1_leaveStation_30 : decode cX1_leaveStation 30 = .ok (.lmul, 1) := by decide +kernel
theorem dX1_leaveStation_31 : decode cX1_leaveStation 31 = .ok (.invokestatic 134, 3) := by decide +kernel
theorem dX1_leaveStation_34 : decode cX1_leaveStation 34 = .ok (.return_, 1) := by decide +kernel
theorem dX1_meetPump_0 : decode cX1_meetPump 0 = .ok (.aload_n 1, 1) := by decide +kernel
theorem dX1_meetPump_1 : decode cX1_meetPump 1 = .ok (.iload_n 3, 1) := by decide +kernel
theorem dX1_meetPump_2 : decode cX1_meetPump 2 = .ok (.iconst 0, 1) := by decide +kernel
theorem dX1_meetPump_3 : decode cX1_meetPump 3 = .ok (.invokevirtual 63, 3) := by decide +kernel
theorem dX1_meetPump_6 : decode cX1_meetPump 6 = .ok (.istore 6, 2) := by decide +kernel
theorem dX1_meetPump_8 : decode cX1_meetPump 8 = .ok (.aload_n 1, 1) := by decide +kernel
theorem dX1_meetPump_9 : decode cX1_meetPump 9 = .ok (.iload_n 3, 1) := by decide +kernel
theorem dX1_meetPump_10 : decode cX1_meetPump 10 = .ok (.iconst 1, 1) := by decide +kernel
theorem dX1_meetPump_11 : decode cX1_meetPump 11 = .ok (.invokevirtual 63, 3) := by decide +kernel
theorem dX1_meetPump_14 : decode cX1_meetPump 14 = .ok (.ifCond .le 12, 3) := by decide +kernel
theorem dX1_meetPump_17 : decode cX1_meetPump 17 = .ok (.aload_n 1, 1) := by decide +kernel
theorem dX1_meetPump_18 : decode cX1_meetPump 18 = .ok (.iload_n 3, 1) := by decide +kernel
theorem dX1_meetPump_19 : decode cX1_meetPump 19 = .ok (.iconst 1, 1) := by decide +kernel
theorem dX1_meetPump_20 : decode cX1_meetPump 20 = .ok (.invokevirtual 63, 3) := by decide +kernel
theorem dX1_meetPump_23 : decode cX1_meetPump 23 = .ok (.goto 5, 3) := by decide +kernel
theorem dX1_meetPump_26 : decode cX1_meetPump 26 = .ok (.iload 6, 2) := by decide +kernel
theorem dX1_meetPump_28 : decode cX1_meetPump 28 = .ok (.istore 7, 2) := by decide +kernel
theorem dX1_meetPump_30 : decode cX1_meetPump 30 = .ok (.aload_n 0, 1) := by decide +kernel
theorem dX1_meetPump_31 : decode cX1_meetPump 31 = .ok (.aload_n 1, 1) := by decide +kernel
theorem dX1_meetPump_32 : decode cX1_meetPump 32 = .ok (.iload_n 2, 1) := by decide +kernel
theorem dX1_meetPump_33 : decode cX1_meetPump 33 = .ok (.iload_n 3, 1) := by decide +kernel
theorem dX1_meetPump_34 : decode cX1_meetPump 34 = .ok (.iload 6, 2) := by decide +kernel
theorem dX1_meetPump_36 : decode cX1_meetPump 36 = .ok (.lload 4, 2) := by decide +kernel
theorem dX1_meetPump_38 : decode cX1_meetPump 38 = .ok (.aload_n 0, 1) := by decide +kernel
theorem dX1_meetPump_39 : decode cX1_meetPump 39 = .ok (.getfield 22, 3) := by decide +kernel
theorem dX1_meetPump_42 : decode cX1_meetPump 42 = .ok (.invokevirtual 115, 3) := by decide +kernel
theorem dX1_meetPump_45 : decode cX1_meetPump 45 = .ok (.aload_n 0, 1) := by decide +kernel
theorem dX1_meetPump_46 : decode cX1_meetPump 46 = .ok (.aload_n 1, 1) := by decide +kernel
theorem dX1_meetPump_47 : decode cX1_meetPump 47 = .ok (.iload_n 2, 1) := by decide +kernel
theorem dX1_meetPump_48 : decode cX1_meetPump 48 = .ok (.iload_n 3, 1) := by decide +kernel
theorem dX1_meetPump_49 : decode cX1_meetPump 49 = .ok (.iload 7, 2) := by decide +kernel
theorem dX1_meetPump_51 : decode cX1_meetPump 51 = .ok (.lload 4, 2) := by decide +kernel
theorem dX1_meetPump_53 : decode cX1_meetPump 53 = .ok (.aload_n 0, 1) := by decide +kernel
theorem dX1_meetPump_54 : decode cX1_meetPump 54 = .ok (.getfield 26, 3) := by decide +kernel
theorem dX1_meetPump_57 : decode cX1_meetPump 57 = .ok (.invokevirtual 115, 3) := by decide +kernel
theorem dX1_meetPump_60 : decode cX1_meetPump 60 = .ok (.aload_n 1, 1) := by decide +kernel
theorem dX1_meetPump_61 : decode cX1_meetPump 61 = .ok (.getfield 140, 3) := by decide +kernel
theorem dX1_meetPump_64 : decode cX1_meetPump 64 = .ok (.aload_n 1, 1) := by decide +kernel
theorem dX1_meetPump_65 : decode cX1_meetPump 65 = .ok (.getfield 80, 3) := by decide +kernel
theorem dX1_meetPump_68 : decode cX1_meetPump 68 = .ok (.iload_n 3, 1) := by decide +kernel
theorem dX1_meetPump_69 : decode cX1_meetPump 69 = .ok (.iaload, 1) := by decide +kernel
theorem dX1_meetPump_70 : decode cX1_meetPump 70 = .ok (.iaload, 1) := by decide +kernel
theorem dX1_meetPump_71 : decode cX1_meetPump 71 = .ok (.istore 8, 2) := by decide +kernel
theorem dX1_meetPump_73 : decode cX1_meetPump 73 = .ok (.aload_n 1, 1) := by decide +kernel
theorem dX1_meetPump_74 : decode cX1_meetPump 74 = .ok (.getfield 90, 3) := by decide +kernel
theorem dX1_meetPump_77 : decode cX1_meetPump 77 = .ok (.i2l, 1) := by decide +kernel
theorem dX1_meetPump_78 : decode cX1_meetPump 78 = .ok (.lload 4, 2) := by decide +kernel
theorem dX1_meetPump_80 : decode cX1_meetPump 80 = .ok (.lmul, 1) := by decide +kernel
theorem dX1_meetPump_81 : decode cX1_meetPump 81 = .ok (.lstore 9, 2) := by decide +kernel
theorem dX1_meetPump_83 : decode cX1_meetPump 83 = .ok (.iconst 0, 1) := by decide +kernel
theorem dX1_meetPump_84 : decode cX1_meetPump 84 = .ok (.istore 11, 2) := by decide +kernel
theorem dX1_meetPump_86 : decode cX1_meetPump 86 = .ok (.iload 11, 2) := by decide +kernel
theorem dX1_meetPump_88 : decode cX1_meetPump 88 = .ok (.aload_n 1, 1) := by decide +kernel
theorem dX1_meetPump_89 : decode cX1_meetPump 89 = .ok (.getfield 29, 3) := by decide +kernel
theorem dX1_meetPump_92 : decode cX1_meetPump 92 = .ok (.if_icmp .gt 94, 3) := by decide +kernel
theorem dX1_meetPump_95 : decode cX1_meetPump 95 = .ok (.aload_n 0, 1) := by decide +kernel
theorem dX1_meetPump_96 : decode cX1_meetPump 96 = .ok (.getfield 18, 3) := by decide +kernel
theorem dX1_meetPump_99 : decode cX1_meetPump 99 = .ok (.iload 11, 2) := by decide +kernel
theorem dX1_meetPump_101 : decode cX1_meetPump 101 = .ok (.aload_n 0, 1) := by decide +kernel
theorem dX1_meetPump_102 : decode cX1_meetPump 102 = .ok (.getfield 22, 3) := by decide +kernel
theorem dX1_meetPump_105 : decode cX1_meetPump 105 = .ok (.iload 11, 2) := by decide +kernel
theorem dX1_meetPump_107 : decode cX1_meetPump 107 = .ok (.iaload, 1) := by decide +kernel
theorem dX1_meetPump_108 : decode cX1_meetPump 108 = .ok (.iload 6, 2) := by decide +kernel
theorem dX1_meetPump_110 : decode cX1_meetPump 110 = .ok (.i2l, 1) := by decide +kernel
theorem dX1_meetPump_111 : decode cX1_meetPump 111 = .ok (.lload 4, 2) := by decide +kernel
theorem dX1_meetPump_113 : decode cX1_meetPump 113 = .ok (.lmul, 1) := by decide +kernel
theorem dX1_meetPump_114 : decode cX1_meetPump 114 = .ok (.lload 9, 2) := by decide +kernel
theorem dX1_meetPump_116 : decode cX1_meetPump 116 = .ok (.invokestatic 143, 3) := by decide +kernel
theorem dX1_meetPump_119 : decode cX1_meetPump 119 = .ok (.lstore 12, 2) := by decide +kernel
theorem dX1_meetPump_121 : decode cX1_meetPump 121 = .ok (.aload_n 0, 1) := by decide +kernel
theorem dX1_meetPump_122 : decode cX1_meetPump 122 = .ok (.getfield 18, 3) := by decide +kernel
theorem dX1_meetPump_125 : decode cX1_meetPump 125 = .ok (.iload 11, 2) := by decide +kernel
theorem dX1_meetPump_127 : decode cX1_meetPump 127 = .ok (.aload_n 0, 1) := by decide +kernel
theorem dX1_meetPump_128 : decode cX1_meetPump 128 = .ok (.getfield 26, 3) := by decide +kernel
theorem dX1_meetPump_131 : decode cX1_meetPump 131 = .ok (.iload 11, 2) := by decide +kernel
theorem dX1_meetPump_133 : decode cX1_meetPump 133 = .ok (.iaload, 1) := by decide +kernel
theorem dX1_meetPump_134 : decode cX1_meetPump 134 = .ok (.iload 7, 2) := by decide +kernel
theorem dX1_meetPump_136 : decode cX1_meetPump 136 = .ok (.i2l, 1) := by decide +kernel
theorem dX1_meetPump_137 : decode cX1_meetPump 137 = .ok (.lload 4, 2) := by decide +kernel
theorem dX1_meetPump_139 : decode cX1_meetPump 139 = .ok (.lmul, 1) := by decide +kernel
theorem dX1_meetPump_140 : decode cX1_meetPump 140 = .ok (.lload 9, 2) := by decide +kernel
theorem dX1_meetPump_142 : decode cX1_meetPump 142 = .ok (.invokestatic 143, 3) := by decide +kernel
theorem dX1_meetPump_145 : decode cX1_meetPump 145 = .ok (.lstore 14, 2) := by decide +kernel
theorem dX1_meetPump_147 : decode cX1_meetPump 147 = .ok (.aload_n 0, 1) := by decide +kernel
theorem dX1_meetPump_148 : decode cX1_meetPump 148 = .ok (.getfield 18, 3) := by decide +kernel
theorem dX1_meetPump_151 : decode cX1_meetPump 151 = .ok (.iload 11, 2) := by decide +kernel
theorem dX1_meetPump_153 : decode cX1_meetPump 153 = .ok (.iconst 2, 1) := by decide +kernel
theorem dX1_meetPump_154 : decode cX1_meetPump 154 = .ok (.iload 8, 2) := by decide +kernel
theorem dX1_meetPump_156 : decode cX1_meetPump 156 = .ok (.imul, 1) := by decide +kernel
theorem dX1_meetPump_157 : decode cX1_meetPump 157 = .ok (.i2l, 1) := by decide +kernel
theorem dX1_meetPump_158 : decode cX1_meetPump 158 = .ok (.aload_n 0, 1) := by decide +kernel
theorem dX1_meetPump_159 : decode cX1_meetPump 159 = .ok (.getfield 18, 3) := by decide +kernel
theorem dX1_meetPump_162 : decode cX1_meetPump 162 = .ok (.iload 11, 2) := by decide +kernel
theorem dX1_meetPump_164 : decode cX1_meetPump 164 = .ok (.laload, 1) := by decide +kernel
theorem dX1_meetPump_165 : decode cX1_meetPump 165 = .ok (.lmul, 1) := by decide +kernel
theorem dX1_meetPump_166 : decode cX1_meetPump 166 = .ok (.bipush 10, 2) := by decide +kernel
theorem dX1_meetPump_168 : decode cX1_meetPump 168 = .ok (.iload 8, 2) := by decide +kernel
theorem dX1_meetPump_170 : decode cX1_meetPump 170 = .ok (.isub, 1) := by decide +kernel
theorem dX1_meetPump_171 : decode cX1_meetPump 171 = .ok (.i2l, 1) := by decide +kernel
theorem dX1_meetPump_172 : decode cX1_meetPump 172 = .ok (.lload 12, 2) := by decide +kernel
theorem dX1_meetPump_174 : decode cX1_meetPump 174 = .ok (.lload 14, 2) := by decide +kernel
theorem dX1_meetPump_176 : decode cX1_meetPump 176 = .ok (.ladd, 1) := by decide +kernel
theorem dX1_meetPump_177 : decode cX1_meetPump 177 = .ok (.lmul, 1) := by decide +kernel
theorem dX1_meetPump_178 : decode cX1_meetPump 178 = .ok (.ladd, 1) := by decide +kernel
theorem dX1_meetPump_179 : decode cX1_meetPump 179 = .ok (.lastore, 1) := by decide +kernel
theorem dX1_meetPump_180 : decode cX1_meetPump 180 = .ok (.iinc 11 1, 3) := by decide +kernel
theorem dX1_meetPump_183 : decode cX1_meetPump 183 = .ok (.goto (-97), 3) := by decide +kernel
theorem dX1_meetPump_186 : decode cX1_meetPump 186 = .ok (.return_, 1) := by decide +kernel
theorem dX1_chooseAll_0 : decode cX1_chooseAll 0 = .ok (.iload_n 2, 1) := by decide +kernel
theorem dX1_chooseAll_1 : decode cX1_chooseAll 1 = .ok (.iconst 4, 1) := by decide +kernel
theorem dX1_chooseAll_2 : decode cX1_chooseAll 2 = .ok (.if_icmp .ne 31, 3) := by decide +kernel
theorem dX1_chooseAll_5 : decode cX1_chooseAll 5 = .ok (.aload_n 0, 1) := by decide +kernel
theorem dX1_chooseAll_6 : decode cX1_chooseAll 6 = .ok (.getfield 18, 3) := by decide +kernel
theorem dX1_chooseAll_9 : decode cX1_chooseAll 9 = .ok (.aload_n 1, 1) := by decide +kernel
theorem dX1_chooseAll_10 : decode cX1_chooseAll 10 = .ok (.getfield 29, 3) := by decide +kernel
theorem dX1_chooseAll_13 : decode cX1_chooseAll 13 = .ok (.iload 4, 2) := by decide +kernel
theorem dX1_chooseAll_15 : decode cX1_chooseAll 15 = .ok (.i2l, 1) := by decide +kernel
theorem dX1_chooseAll_16 : decode cX1_chooseAll 16 = .ok (.lload 5, 2) := by decide +kernel
theorem dX1_chooseAll_18 : decode cX1_chooseAll 18 = .ok (.lmul, 1) := by decide +kernel
theorem dX1_chooseAll_19 : decode cX1_chooseAll 19 = .ok (.aload_n 1, 1) := by decide +kernel
theorem dX1_chooseAll_20 : decode cX1_chooseAll 20 = .ok (.getfield 90, 3) := by decide +kernel
theorem dX1_chooseAll_23 : decode cX1_chooseAll 23 = .ok (.i2l, 1) := by decide +kernel
theorem dX1_chooseAll_24 : decode cX1_chooseAll 24 = .ok (.lload 5, 2) := by decide +kernel
theorem dX1_chooseAll_26 : decode cX1_chooseAll 26 = .ok (.lmul, 1) := by decide +kernel
theorem dX1_chooseAll_27 : decode cX1_chooseAll 27 = .ok (.aload 7, 2) := by decide +kernel
theorem dX1_chooseAll_29 : decode cX1_chooseAll 29 = .ok (.invokestatic 147, 3) := by decide +kernel
theorem dX1_chooseAll_32 : decode cX1_chooseAll 32 = .ok (.return_, 1) := by decide +kernel
theorem dX1_chooseAll_33 : decode cX1_chooseAll 33 = .ok (.iconst 0, 1) := by decide +kernel
theorem dX1_chooseAll_34 : decode cX1_chooseAll 34 = .ok (.istore 8, 2) := by decide +kernel
theorem dX1_chooseAll_36 : decode cX1_chooseAll 36 = .ok (.iload 8, 2) := by decide +kernel
theorem dX1_chooseAll_38 : decode cX1_chooseAll 38 = .ok (.aload_n 1, 1) := by decide +kernel
theorem dX1_chooseAll_39 : decode cX1_chooseAll 39 = .ok (.getfield 29, 3) := by decide +kernel
theorem dX1_chooseAll_42 : decode cX1_chooseAll 42 = .ok (.if_icmp .gt 28, 3) := by decide +kernel
theorem dX1_chooseAll_45 : decode cX1_chooseAll 45 = .ok (.aload 7, 2) := by decide +kernel
theorem dX1_chooseAll_47 : decode cX1_chooseAll 47 = .ok (.iload 8, 2) := by decide +kernel
theorem dX1_chooseAll_49 : decode cX1_chooseAll 49 = .ok (.iload 8, 2) := by decide +kernel
theorem dX1_chooseAll_51 : decode cX1_chooseAll 51 = .ok (.aload_n 0, 1) := by decide +kernel
theorem dX1_chooseAll_52 : decode cX1_chooseAll 52 = .ok (.aload_n 1, 1) := by decide +kernel
theorem dX1_chooseAll_53 : decode cX1_chooseAll 53 = .ok (.iload_n 2, 1) := by decide +kernel
theorem dX1_chooseAll_54 : decode cX1_chooseAll 54 = .ok (.iload_n 3, 1) := by decide +kernel
theorem dX1_chooseAll_55 : decode cX1_chooseAll 55 = .ok (.iload 8, 2) := by decide +kernel
theorem dX1_chooseAll_57 : decode cX1_chooseAll 57 = .ok (.iload 4, 2) := by decide +kernel
theorem dX1_chooseAll_59 : decode cX1_chooseAll 59 = .ok (.invokevirtual 86, 3) := by decide +kernel
theorem dX1_chooseAll_62 : decode cX1_chooseAll 62 = .ok (.iadd, 1) := by decide +kernel
theorem dX1_chooseAll_63 : decode cX1_chooseAll 63 = .ok (.iastore, 1) := by decide +kernel
theorem dX1_chooseAll_64 : decode cX1_chooseAll 64 = .ok (.iinc 8 1, 3) := by decide +kernel
theorem dX1_chooseAll_67 : decode cX1_chooseAll 67 = .ok (.goto (-31), 3) := by decide +kernel
theorem dX1_chooseAll_70 : decode cX1_chooseAll 70 = .ok (.return_, 1) := by decide +kernel
theorem dX2_init_0 : decode cX2_init 0 = .ok (.aload_n 0, 1) := by decide +kernel
theorem dX2_init_1 : decode cX2_init 1 = .ok (.invokespecial 1, 3) := by decide +kernel
theorem dX2_init_4 : decode cX2_init 4 = .ok (.aload_n 0, 1) := by decide +kernel
theorem dX2_init_5 : decode cX2_init 5 = .ok (.lconst 1, 1) := by decide +kernel
theorem dX2_init_6 : decode cX2_init 6 = .ok (.putfield 7, 3) := by decide +kernel
theorem dX2_init_9 : decode cX2_init 9 = .ok (.return_, 1) := by decide +kernel
theorem dX2_become_0 : decode cX2_become 0 = .ok (.lload_n 1, 1) := by decide +kernel
theorem dX2_become_1 : decode cX2_become 1 = .ok (.lload_n 3, 1) := by decide +kernel
theorem dX2_become_2 : decode cX2_become 2 = .ok (.invokestatic 13, 3) := by decide +kernel
theorem dX2_become_5 : decode cX2_become 5 = .ok (.lstore 5, 2) := by decide +kernel
theorem dX2_become_7 : decode cX2_become 7 = .ok (.lload 5, 2) := by decide +kernel
theorem dX2_become_9 : decode cX2_become 9 = .ok (.lconst 0, 1) := by decide +kernel
theorem dX2_become_10 : decode cX2_become 10 = .ok (.lcmp, 1) := by decide +kernel
theorem dX2_become_11 : decode cX2_become 11 = .ok (.ifCond .ne 6, 3) := by decide +kernel
theorem dX2_become_14 : decode cX2_become 14 = .ok (.lconst 1, 1) := by decide +kernel
theorem dX2_become_15 : decode cX2_become 15 = .ok (.lstore 5, 2) := by decide +kernel
theorem dX2_become_17 : decode cX2_become 17 = .ok (.aload_n 0, 1) := by decide +kernel
theorem dX2_become_18 : decode cX2_become 18 = .ok (.lload_n 1, 1) := by decide +kernel
theorem dX2_become_19 : decode cX2_become 19 = .ok (.lload 5, 2) := by decide +kernel
theorem dX2_become_21 : decode cX2_become 21 = .ok (.ldiv, 1) := by decide +kernel
theorem dX2_become_22 : decode cX2_become 22 = .ok (.putfield 17, 3) := by decide +kernel
theorem dX2_become_25 : decode cX2_become 25 = .ok (.aload_n 0, 1) := by decide +kernel
theorem dX2_become_26 : decode cX2_become 26 = .ok (.lload_n 3, 1) := by decide +kernel
theorem dX2_become_27 : decode cX2_become 27 = .ok (.lload 5, 2) := by decide +kernel
theorem dX2_become_29 : decode cX2_become 29 = .ok (.ldiv, 1) := by decide +kernel
theorem dX2_become_30 : decode cX2_become 30 = .ok (.putfield 7, 3) := by decide +kernel
theorem dX2_become_33 : decode cX2_become 33 = .ok (.return_, 1) := by decide +kernel
theorem dX2_plus_0 : decode cX2_plus 0 = .ok (.aload_n 0, 1) := by decide +kernel
theorem dX2_plus_1 : decode cX2_plus 1 = .ok (.aload_n 0, 1) := by decide +kernel
theorem dX2_plus_2 : decode cX2_plus 2 = .ok (.getfield 17, 3) := by decide +kernel
theorem dX2_plus_5 : decode cX2_plus 5 = .ok (.lload_n 3, 1) := by decide +kernel
theorem dX2_plus_6 : decode cX2_plus 6 = .ok (.lmul, 1) := by decide +kernel
theorem dX2_plus_7 : decode cX2_plus 7 = .ok (.lload_n 1, 1) := by decide +kernel
theorem dX2_plus_8 : decode cX2_plus 8 = .ok (.aload_n 0, 1) := by decide +kernel
theorem dX2_plus_9 : decode cX2_plus 9 = .ok (.getfield 7, 3) := by decide +kernel
theorem dX2_plus_12 : decode cX2_plus 12 = .ok (.lmul, 1) := by decide +kernel
theorem dX2_plus_13 : decode cX2_plus 13 = .ok (.ladd, 1) := by decide +kernel
theorem dX2_plus_14 : decode cX2_plus 14 = .ok (.aload_n 0, 1) := by decide +kernel
theorem dX2_plus_15 : decode cX2_plus 15 = .ok (.getfield 7, 3) := by decide +kernel
theorem dX2_plus_18 : decode cX2_plus 18 = .ok (.lload_n 3, 1) := by decide +kernel
theorem dX2_plus_19 : decode cX2_plus 19 = .ok (.lmul, 1) := by decide +kernel
theorem dX2_plus_20 : decode cX2_plus 20 = .ok (.invokevirtual 20, 3) := by decide +kernel
theorem dX2_plus_23 : decode cX2_plus 23 = .ok (.return_, 1) := by decide +kernel
theorem dX2_commonDivisor_0 : decode cX2_commonDivisor 0 = .ok (.lload_n 0, 1) := by decide +kernel
theorem dX2_commonDivisor_1 : decode cX2_commonDivisor 1 = .ok (.lstore 4, 2) := by decide +kernel
theorem dX2_commonDivisor_3 : decode cX2_commonDivisor 3 = .ok (.lload_n 2, 1) := by decide +kernel
theorem dX2_commonDivisor_4 : decode cX2_commonDivisor 4 = .ok (.lstore 6, 2) := by decide +kernel
theorem dX2_commonDivisor_6 : decode cX2_commonDivisor 6 = .ok (.iconst 0, 1) := by decide +kernel
theorem dX2_commonDivisor_7 : decode cX2_commonDivisor 7 = .ok (.istore 8, 2) := by decide +kernel
theorem dX2_commonDivisor_9 : decode cX2_commonDivisor 9 = .ok (.iload 8, 2) := by decide +kernel
theorem dX2_commonDivisor_11 : decode cX2_commonDivisor 11 = .ok (.sipush 200, 3) := by decide +kernel
theorem dX2_commonDivisor_14 : decode cX2_commonDivisor 14 = .ok (.if_icmp .ge 31, 3) := by decide +kernel
theorem dX2_commonDivisor_17 : decode cX2_commonDivisor 17 = .ok (.lload 6, 2) := by decide +kernel
theorem dX2_commonDivisor_19 : decode cX2_commonDivisor 19 = .ok (.lconst 0, 1) := by decide +kernel
theorem dX2_commonDivisor_20 : decode cX2_commonDivisor 20 = .ok (.lcmp, 1) := by decide +kernel
theorem dX2_commonDivisor_21 : decode cX2_commonDivisor 21 = .ok (.ifCond .eq 24, 3) := by decide +kernel
theorem dX2_commonDivisor_24 : decode cX2_commonDivisor 24 = .ok (.lload 4, 2) := by decide +kernel
theorem dX2_commonDivisor_26 : decode cX2_commonDivisor 26 = .ok (.lload 6, 2) := by decide +kernel
theorem dX2_commonDivisor_28 : decode cX2_commonDivisor 28 = .ok (.lrem, 1) := by decide +kernel
theorem dX2_commonDivisor_29 : decode cX2_commonDivisor 29 = .ok (.lstore 9, 2) := by decide +kernel
theorem dX2_commonDivisor_31 : decode cX2_commonDivisor 31 = .ok (.lload 6, 2) := by decide +kernel
theorem dX2_commonDivisor_33 : decode cX2_commonDivisor 33 = .ok (.lstore 4, 2) := by decide +kernel
theorem dX2_commonDivisor_35 : decode cX2_commonDivisor 35 = .ok (.lload 9, 2) := by decide +kernel
theorem dX2_commonDivisor_37 : decode cX2_commonDivisor 37 = .ok (.lstore 6, 2) := by decide +kernel
theorem dX2_commonDivisor_39 : decode cX2_commonDivisor 39 = .ok (.iinc 8 1, 3) := by decide +kernel
theorem dX2_commonDivisor_42 : decode cX2_commonDivisor 42 = .ok (.goto (-33), 3) := by decide +kernel
theorem dX2_commonDivisor_45 : decode cX2_commonDivisor 45 = .ok (.lload 4, 2) := by decide +kernel
theorem dX2_commonDivisor_47 : decode cX2_commonDivisor 47 = .ok (.lreturn, 1) := by decide +kernel
theorem dX3_init_0 : decode cX3_init 0 = .ok (.aload_n 0, 1) := by decide +kernel
theorem dX3_init_1 : decode cX3_init 1 = .ok (.invokespecial 3, 3) := by decide +kernel
theorem dX3_init_4 : decode cX3_init 4 = .ok (.aload_n 0, 1) := by decide +kernel
theorem dX3_init_5 : decode cX3_init 5 = .ok (.bipush 7, 2) := by decide +kernel
theorem dX3_init_7 : decode cX3_init 7 = .ok (.newarray .int, 2) := by decide +kernel
theorem dX3_init_9 : decode cX3_init 9 = .ok (.putfield 11, 3) := by decide +kernel
theorem dX3_init_12 : decode cX3_init 12 = .ok (.aload_n 0, 1) := by decide +kernel
theorem dX3_init_13 : decode cX3_init 13 = .ok (.bipush 12, 2) := by decide +kernel
theorem dX3_init_15 : decode cX3_init 15 = .ok (.bipush 7, 2) := by decide +kernel
theorem dX3_init_17 : decode cX3_init 17 = .ok (.multianewarray 15 2, 4) := by decide +kernel
theorem dX3_init_21 : decode cX3_init 21 = .ok (.putfield 17, 3) := by decide +kernel
theorem dX3_init_24 : decode cX3_init 24 = .ok (.aload_n 0, 1) := by decide +kernel
theorem dX3_init_25 : decode cX3_init 25 = .ok (.iconst 3, 1) := by decide +kernel
theorem dX3_init_26 : decode cX3_init 26 = .ok (.bipush 7, 2) := by decide +kernel
theorem dX3_init_28 : decode cX3_init 28 = .ok (.multianewarray 15 2, 4) := by decide +kernel
theorem dX3_init_32 : decode cX3_init 32 = .ok (.putfield 20, 3) := by decide +kernel
theorem dX3_init_35 : decode cX3_init 35 = .ok (.aload_n 0, 1) := by decide +kernel
theorem dX3_init_36 : decode cX3_init 36 = .ok (.new 23, 3) := by decide +kernel
theorem dX3_init_39 : decode cX3_init 39 = .ok (.dup, 1) := by decide +kernel
theorem dX3_init_40 : decode cX3_init 40 = .ok (.invokespecial 25, 3) := by decide +kernel
theorem dX3_init_43 : decode cX3_init 43 = .ok (.putfield 26, 3) := by decide +kernel
theorem dX3_init_46 : decode cX3_init 46 = .ok (.return_, 1) := by decide +kernel
theorem dX3_begin_0 : decode cX3_begin 0 = .ok (.aload_n 0, 1) := by decide +kernel
theorem dX3_begin_1 : decode cX3_begin 1 = .ok (.iconst 0, 1) := by decide +kernel
theorem dX3_begin_2 : decode cX3_begin 2 = .ok (.putfield 30, 3) := by decide +kernel
theorem dX3_begin_5 : decode cX3_begin 5 = .ok (.aload_n 0, 1) := by decide +kernel
theorem dX3_begin_6 : decode cX3_begin 6 = .ok (.iconst 0, 1) := by decide +kernel
theorem dX3_begin_7 : decode cX3_begin 7 = .ok (.putfield 34, 3) := by decide +kernel
theorem dX3_begin_10 : decode cX3_begin 10 = .ok (.aload_n 0, 1) := by decide +kernel
theorem dX3_begin_11 : decode cX3_begin 11 = .ok (.getfield 11, 3) := by decide +kernel
theorem dX3_begin_14 : decode cX3_begin 14 = .ok (.iconst 0, 1) := by decide +kernel
theorem dX3_begin_15 : decode cX3_begin 15 = .ok (.invokestatic 37, 3) := by decide +kernel
theorem dX3_begin_18 : decode cX3_begin 18 = .ok (.aload_n 0, 1) := by decide +kernel
theorem dX3_begin_19 : decode cX3_begin 19 = .ok (.getfield 11, 3) := by decide +kernel
theorem dX3_begin_22 : decode cX3_begin 22 = .ok (.iconst 0, 1) := by decide +kernel
theorem dX3_begin_23 : decode cX3_begin 23 = .ok (.aload_n 1, 1) := by decide +kernel
theorem dX3_begin_24 : decode cX3_begin 24 = .ok (.invokevirtual 43, 3) := by decide +kernel
theorem dX3_begin_27 : decode cX3_begin 27 = .ok (.iastore, 1) := by decide +kernel
theorem dX3_begin_28 : decode cX3_begin 28 = .ok (.aload_n 0, 1) := by decide +kernel
theorem dX3_begin_29 : decode cX3_begin 29 = .ok (.getfield 11, 3) := by decide +kernel
theorem dX3_begin_32 : decode cX3_begin 32 = .ok (.iconst 1, 1) := by decide +kernel
theorem dX3_begin_33 : decode cX3_begin 33 = .ok (.aload_n 1, 1) := by decide +kernel
theorem dX3_begin_34 : decode cX3_begin 34 = .ok (.getfield 49, 3) := by decide +kernel
theorem dX3_begin_37 : decode cX3_begin 37 = .ok (.iastore, 1) := by decide +kernel
theorem dX3_begin_38 : decode cX3_begin 38 = .ok (.aload_n 0, 1) := by decide +kernel
theorem dX3_begin_39 : decode cX3_begin 39 = .ok (.aload_n 1, 1) := by decide +kernel
theorem dX3_begin_40 : decode cX3_begin 40 = .ok (.invokevirtual 52, 3) := by decide +kernel
theorem dX3_begin_43 : decode cX3_begin 43 = .ok (.return_, 1) := by decide +kernel
theorem dX3_seePump_0 : decode cX3_seePump 0 = .ok (.aload_n 0, 1) := by decide +kernel
theorem dX3_seePump_1 : decode cX3_seePump 1 = .ok (.getfield 26, 3) := by decide +kernel
theorem dX3_seePump_4 : decode cX3_seePump 4 = .ok (.aload_n 0, 1) := by decide +kernel
theorem dX3_seePump_5 : decode cX3_seePump 5 = .ok (.getfield 11, 3) := by decide +kernel
theorem dX3_seePump_8 : decode cX3_seePump 8 = .ok (.bipush 6, 2) := by decide +kernel
theorem dX3_seePump_10 : decode cX3_seePump 10 = .ok (.iaload, 1) := by decide +kernel
theorem dX3_seePump_11 : decode cX3_seePump 11 = .ok (.putfield 56, 3) := by decide +kernel
theorem dX3_seePump_14 : decode cX3_seePump 14 = .ok (.aload_n 0, 1) := by decide +kernel
theorem dX3_seePump_15 : decode cX3_seePump 15 = .ok (.getfield 11, 3) := by decide +kernel
theorem dX3_seePump_18 : decode cX3_seePump 18 = .ok (.iconst 4, 1) := by decide +kernel
theorem dX3_seePump_19 : decode cX3_seePump 19 = .ok (.aload_n 0, 1) := by decide +kernel
theorem dX3_seePump_20 : decode cX3_seePump 20 = .ok (.getfield 26, 3) := by decide +kernel
theorem dX3_seePump_23 : decode cX3_seePump 23 = .ok (.aload_n 1, 1) := by decide +kernel
theorem dX3_seePump_24 : decode cX3_seePump 24 = .ok (.aload_n 0, 1) := by decide +kernel
theorem dX3_seePump_25 : decode cX3_seePump 25 = .ok (.getfield 11, 3) := by decide +kernel
theorem dX3_seePump_28 : decode cX3_seePump 28 = .ok (.iconst 0, 1) := by decide +kernel
theorem dX3_seePump_29 : decode cX3_seePump 29 = .ok (.iaload, 1) := by decide +kernel
theorem dX3_seePump_30 : decode cX3_seePump 30 = .ok (.invokevirtual 59, 3) := by decide +kernel
theorem dX3_seePump_33 : decode cX3_seePump 33 = .ok (.iastore, 1) := by decide +kernel
theorem dX3_seePump_34 : decode cX3_seePump 34 = .ok (.aload_n 0, 1) := by decide +kernel
theorem dX3_seePump_35 : decode cX3_seePump 35 = .ok (.getfield 11, 3) := by decide +kernel
theorem dX3_seePump_38 : decode cX3_seePump 38 = .ok (.bipush 6, 2) := by decide +kernel
theorem dX3_seePump_40 : decode cX3_seePump 40 = .ok (.aload_n 0, 1) := by decide +kernel
theorem dX3_seePump_41 : decode cX3_seePump 41 = .ok (.getfield 26, 3) := by decide +kernel
theorem dX3_seePump_44 : decode cX3_seePump 44 = .ok (.getfield 56, 3) := by decide +kernel
theorem dX3_seePump_47 : decode cX3_seePump 47 = .ok (.iastore, 1) := by decide +kernel
theorem dX3_seePump_48 : decode cX3_seePump 48 = .ok (.aload_n 0, 1) := by decide +kernel
theorem dX3_seePump_49 : decode cX3_seePump 49 = .ok (.getfield 11, 3) := by decide +kernel
theorem dX3_seePump_52 : decode cX3_seePump 52 = .ok (.iconst 5, 1) := by decide +kernel
theorem dX3_seePump_53 : decode cX3_seePump 53 = .ok (.iconst 0, 1) := by decide +kernel
theorem dX3_seePump_54 : decode cX3_seePump 54 = .ok (.iastore, 1) := by decide +kernel
theorem dX3_seePump_55 : decode cX3_seePump 55 = .ok (.return_, 1) := by decide +kernel
theorem dX3_keep_0 : decode cX3_keep 0 = .ok (.aload_n 0, 1) := by decide +kernel
theorem dX3_keep_1 : decode cX3_keep 1 = .ok (.aload_n 0, 1) := by decide +kernel
theorem dX3_keep_2 : decode cX3_keep 2 = .ok (.getfield 63, 3) := by decide +kernel
theorem dX3_keep_5 : decode cX3_keep 5 = .ok (.iconst 1, 1) := by decide +kernel
theorem dX3_keep_6 : decode cX3_keep 6 = .ok (.iadd, 1) := by decide +kernel
theorem dX3_keep_7 : decode cX3_keep 7 = .ok (.bipush 12, 2) := by decide +kernel
theorem dX3_keep_9 : decode cX3_keep 9 = .ok (.irem, 1) := by decide +kernel
theorem dX3_keep_10 : decode cX3_keep 10 = .ok (.putfield 63, 3) := by decide +kernel
theorem dX3_keep_13 : decode cX3_keep 13 = .ok (.aload_n 0, 1) := by decide +kernel
theorem dX3_keep_14 : decode cX3_keep 14 = .ok (.getfield 11, 3) := by decide +kernel
theorem dX3_keep_17 : decode cX3_keep 17 = .ok (.iconst 0, 1) := by decide +kernel
theorem dX3_keep_18 : decode cX3_keep 18 = .ok (.aload_n 0, 1) := by decide +kernel
theorem dX3_keep_19 : decode cX3_keep 19 = .ok (.getfield 17, 3) := by decide +kernel
theorem dX3_keep_22 : decode cX3_keep 22 = .ok (.aload_n 0, 1) := by decide +kernel
theorem dX3_keep_23 : decode cX3_keep 23 = .ok (.getfield 63, 3) := by decide +kernel
theorem dX3_keep_26 : decode cX3_keep 26 = .ok (.aaload, 1) := by decide +kernel
theorem dX3_keep_27 : decode cX3_keep 27 = .ok (.iconst 0, 1) := by decide +kernel
theorem dX3_keep_28 : decode cX3_keep 28 = .ok (.bipush 7, 2) := by decide +kernel
theorem dX3_keep_30 : decode cX3_keep 30 = .ok (.invokestatic 66, 3) := by decide +kernel
theorem dX3_keep_33 : decode cX3_keep 33 = .ok (.aload_n 0, 1) := by decide +kernel
theorem dX3_keep_34 : decode cX3_keep 34 = .ok (.bipush 12, 2) := by decide +kernel
theorem dX3_keep_36 : decode cX3_keep 36 = .ok (.aload_n 0, 1) := by decide +kernel
theorem dX3_keep_37 : decode cX3_keep 37 = .ok (.getfield 30, 3) := by decide +kernel
theorem dX3_keep_40 : decode cX3_keep 40 = .ok (.iconst 1, 1) := by decide +kernel
theorem dX3_keep_41 : decode cX3_keep 41 = .ok (.iadd, 1) := by decide +kernel
theorem dX3_keep_42 : decode cX3_keep 42 = .ok (.invokestatic 72, 3) := by decide +kernel
theorem dX3_keep_45 : decode cX3_keep 45 = .ok (.putfield 30, 3) := by decide +kernel
theorem dX3_keep_48 : decode cX3_keep 48 = .ok (.return_, 1) := by decide +kernel
theorem dX3_takeIn_0 : decode cX3_takeIn 0 = .ok (.aload_n 0, 1) := by decide +kernel
theorem dX3_takeIn_1 : decode cX3_takeIn 1 = .ok (.invokevirtual 78, 3) := by decide +kernel
theorem dX3_takeIn_4 : decode cX3_takeIn 4 = .ok (.aload_n 0, 1) := by decide +kernel
theorem dX3_takeIn_5 : decode cX3_takeIn 5 = .ok (.getfield 11, 3) := by decide +kernel
theorem dX3_takeIn_8 : decode cX3_takeIn 8 = .ok (.iconst 5, 1) := by decide +kernel
theorem dX3_takeIn_9 : decode cX3_takeIn 9 = .ok (.iaload, 1) := by decide +kernel
theorem dX3_takeIn_10 : decode cX3_takeIn 10 = .ok (.ifCond .ne 36, 3) := by decide +kernel
theorem dX3_takeIn_13 : decode cX3_takeIn 13 = .ok (.aload_n 0, 1) := by decide +kernel
theorem dX3_takeIn_14 : decode cX3_takeIn 14 = .ok (.getfield 11, 3) := by decide +kernel
theorem dX3_takeIn_17 : decode cX3_takeIn 17 = .ok (.iconst 2, 1) := by decide +kernel
theorem dX3_takeIn_18 : decode cX3_takeIn 18 = .ok (.dup2, 1) := by decide +kernel
theorem dX3_takeIn_19 : decode cX3_takeIn 19 = .ok (.iaload, 1) := by decide +kernel
theorem dX3_takeIn_20 : decode cX3_takeIn 20 = .ok (.aload_n 1, 1) := by decide +kernel
theorem dX3_takeIn_21 : decode cX3_takeIn 21 = .ok (.getfield 81, 3) := by decide +kernel
theorem dX3_takeIn_24 : decode cX3_takeIn 24 = .ok (.iadd, 1) := by decide +kernel
theorem dX3_takeIn_25 : decode cX3_takeIn 25 = .ok (.iastore, 1) := by decide +kernel
theorem dX3_takeIn_26 : decode cX3_takeIn 26 = .ok (.aload_n 0, 1) := by decide +kernel
theorem dX3_takeIn_27 : decode cX3_takeIn 27 = .ok (.getfield 11, 3) := by decide +kernel
theorem dX3_takeIn_30 : decode cX3_takeIn 30 = .ok (.iconst 3, 1) := by decide +kernel
theorem dX3_takeIn_31 : decode cX3_takeIn 31 = .ok (.dup2, 1) := by decide +kernel
theorem dX3_takeIn_32 : decode cX3_takeIn 32 = .ok (.iaload, 1) := by decide +kernel
theorem dX3_takeIn_33 : decode cX3_takeIn 33 = .ok (.aload_n 1, 1) := by decide +kernel
theorem dX3_takeIn_34 : decode cX3_takeIn 34 = .ok (.getfield 84, 3) := by decide +kernel
theorem dX3_takeIn_37 : decode cX3_takeIn 37 = .ok (.iadd, 1) := by decide +kernel
theorem dX3_takeIn_38 : decode cX3_takeIn 38 = .ok (.iastore, 1) := by decide +kernel
theorem dX3_takeIn_39 : decode cX3_takeIn 39 = .ok (.aload_n 0, 1) := by decide +kernel
theorem dX3_takeIn_40 : decode cX3_takeIn 40 = .ok (.getfield 11, 3) := by decide +kernel
theorem dX3_takeIn_43 : decode cX3_takeIn 43 = .ok (.iconst 5, 1) := by decide +kernel
theorem dX3_takeIn_44 : decode cX3_takeIn 44 = .ok (.iconst 1, 1) := by decide +kernel
theorem dX3_takeIn_45 : decode cX3_takeIn 45 = .ok (.iastore, 1) := by decide +kernel
theorem dX3_takeIn_46 : decode cX3_takeIn 46 = .ok (.aload_n 0, 1) := by decide +kernel
theorem dX3_takeIn_47 : decode cX3_takeIn 47 = .ok (.getfield 11, 3) := by decide +kernel
theorem dX3_takeIn_50 : decode cX3_takeIn 50 = .ok (.iconst 1, 1) := by decide +kernel
theorem dX3_takeIn_51 : decode cX3_takeIn 51 = .ok (.dup2, 1) := by decide +kernel
theorem dX3_takeIn_52 : decode cX3_takeIn 52 = .ok (.iaload, 1) := by decide +kernel
theorem dX3_takeIn_53 : decode cX3_takeIn 53 = .ok (.iload_n 2, 1) := by decide +kernel
theorem dX3_takeIn_54 : decode cX3_takeIn 54 = .ok (.iadd, 1) := by decide +kernel
theorem dX3_takeIn_55 : decode cX3_takeIn 55 = .ok (.iastore, 1) := by decide +kernel
theorem dX3_takeIn_56 : decode cX3_takeIn 56 = .ok (.aload_n 0, 1) := by decide +kernel
theorem dX3_takeIn_57 : decode cX3_takeIn 57 = .ok (.getfield 11, 3) := by decide +kernel
theorem dX3_takeIn_60 : decode cX3_takeIn 60 = .ok (.iconst 2, 1) := by decide +kernel
theorem dX3_takeIn_61 : decode cX3_takeIn 61 = .ok (.dup2, 1) := by decide +kernel
theorem dX3_takeIn_62 : decode cX3_takeIn 62 = .ok (.iaload, 1) := by decide +kernel
theorem dX3_takeIn_63 : decode cX3_takeIn 63 = .ok (.iload_n 2, 1) := by decide +kernel
theorem dX3_takeIn_64 : decode cX3_takeIn 64 = .ok (.aload_n 0, 1) := by decide +kernel
theorem dX3_takeIn_65 : decode cX3_takeIn 65 = .ok (.getfield 11, 3) := by decide +kernel
theorem dX3_takeIn_68 : decode cX3_takeIn 68 = .ok (.iconst 4, 1) := by decide +kernel
theorem dX3_takeIn_69 : decode cX3_takeIn 69 = .ok (.iaload, 1) := by decide +kernel
theorem dX3_takeIn_70 : decode cX3_takeIn 70 = .ok (.imul, 1) := by decide +kernel
theorem dX3_takeIn_71 : decode cX3_takeIn 71 = .ok (.iadd, 1) := by decide +kernel
theorem dX3_takeIn_72 : decode cX3_takeIn 72 = .ok (.iastore, 1) := by decide +kernel
theorem dX3_takeIn_73 : decode cX3_takeIn 73 = .ok (.return_, 1) := by decide +kernel
theorem dX3_canGo_0 : decode cX3_canGo 0 = .ok (.aload_n 1, 1) := by decide +kernel
theorem dX3_canGo_1 : decode cX3_canGo 1 = .ok (.aload_n 0, 1) := by decide +kernel
theorem dX3_canGo_2 : decode cX3_canGo 2 = .ok (.getfield 11, 3) := by decide +kernel
theorem dX3_canGo_5 : decode cX3_canGo 5 = .ok (.iconst 0, 1) := by decide +kernel
theorem dX3_canGo_6 : decode cX3_canGo 6 = .ok (.iaload, 1) := by decide +kernel
theorem dX3_canGo_7 : decode cX3_canGo 7 = .ok (.iload_n 2, 1) := by decide +kernel
theorem dX3_canGo_8 : decode cX3_canGo 8 = .ok (.invokevirtual 87, 3) := by decide +kernel
theorem dX3_canGo_11 : decode cX3_canGo 11 = .ok (.ifCond .eq 27, 3) := by decide +kernel
theorem dX3_canGo_14 : decode cX3_canGo 14 = .ok (.aload_n 0, 1) := by decide +kernel
theorem dX3_canGo_15 : decode cX3_canGo 15 = .ok (.getfield 11, 3) := by decide +kernel
theorem dX3_canGo_18 : decode cX3_canGo 18 = .ok (.iconst 1, 1) := by decide +kernel
theorem dX3_canGo_19 : decode cX3_canGo 19 = .ok (.iaload, 1) := by decide +kernel
theorem dX3_canGo_20 : decode cX3_canGo 20 = .ok (.aload_n 1, 1) := by decide +kernel
theorem dX3_canGo_21 : decode cX3_canGo 21 = .ok (.aload_n 0, 1) := by decide +kernel
theorem dX3_canGo_22 : decode cX3_canGo 22 = .ok (.getfield 11, 3) := by decide +kernel
theorem dX3_canGo_25 : decode cX3_canGo 25 = .ok (.iconst 0, 1) := by decide +kernel
theorem dX3_canGo_26 : decode cX3_canGo 26 = .ok (.iaload, 1) := by decide +kernel
theorem dX3_canGo_27 : decode cX3_canGo 27 = .ok (.iload_n 2, 1) := by decide +kernel
theorem dX3_canGo_28 : decode cX3_canGo 28 = .ok (.invokevirtual 91, 3) := by decide +kernel
theorem dX3_canGo_31 : decode cX3_canGo 31 = .ok (.if_icmp .lt 7, 3) := by decide +kernel
theorem dX3_canGo_34 : decode cX3_canGo 34 = .ok (.iconst 1, 1) := by decide +kernel
theorem dX3_canGo_35 : decode cX3_canGo 35 = .ok (.goto 4, 3) := by decide +kernel
theorem dX3_canGo_38 : decode cX3_canGo 38 = .ok (.iconst 0, 1) := by decide +kernel
theorem dX3_canGo_39 : decode cX3_canGo 39 = .ok (.ireturn, 1) := by decide +kernel
theorem dX3_goTo_0 : decode cX3_goTo 0 = .ok (.aload_n 0, 1) := by decide +kernel
theorem dX3_goTo_1 : decode cX3_goTo 1 = .ok (.invokevirtual 78, 3) := by decide +kernel
theorem dX3_goTo_4 : decode cX3_goTo 4 = .ok (.aload_n 0, 1) := by decide +kernel
theorem dX3_goTo_5 : decode cX3_goTo 5 = .ok (.getfield 11, 3) := by decide +kernel
theorem dX3_goTo_8 : decode cX3_goTo 8 = .ok (.iconst 1, 1) := by decide +kernel
theorem dX3_goTo_9 : decode cX3_goTo 9 = .ok (.dup2, 1) := by decide +kernel
theorem dX3_goTo_10 : decode cX3_goTo 10 = .ok (.iaload, 1) := by decide +kernel
theorem dX3_goTo_11 : decode cX3_goTo 11 = .ok (.aload_n 1, 1) := by decide +kernel
theorem dX3_goTo_12 : decode cX3_goTo 12 = .ok (.aload_n 0, 1) := by decide +kernel
theorem dX3_goTo_13 : decode cX3_goTo 13 = .ok (.getfield 11, 3) := by decide +kernel
theorem dX3_goTo_16 : decode cX3_goTo 16 = .ok (.iconst 0, 1) := by decide +kernel
theorem dX3_goTo_17 : decode cX3_goTo 17 = .ok (.iaload, 1) := by decide +kernel
theorem dX3_goTo_18 : decode cX3_goTo 18 = .ok (.iload_n 2, 1) := by decide +kernel
theorem dX3_goTo_19 : decode cX3_goTo 19 = .ok (.invokevirtual 91, 3) := by decide +kernel
theorem dX3_goTo_22 : decode cX3_goTo 22 = .ok (.isub, 1) := by decide +kernel
theorem dX3_goTo_23 : decode cX3_goTo 23 = .ok (.iastore, 1) := by decide +kernel
theorem dX3_goTo_24 : decode cX3_goTo 24 = .ok (.aload_n 0, 1) := by decide +kernel
theorem dX3_goTo_25 : decode cX3_goTo 25 = .ok (.getfield 11, 3) := by decide +kernel
theorem dX3_goTo_28 : decode cX3_goTo 28 = .ok (.iconst 3, 1) := by decide +kernel
theorem dX3_goTo_29 : decode cX3_goTo 29 = .ok (.dup2, 1) := by decide +kernel
theorem dX3_goTo_30 : decode cX3_goTo 30 = .ok (.iaload, 1) := by decide +kernel
theorem dX3_goTo_31 : decode cX3_goTo 31 = .ok (.aload_n 1, 1) := by decide +kernel
theorem dX3_goTo_32 : decode cX3_goTo 32 = .ok (.aload_n 0, 1) := by decide +kernel
theorem dX3_goTo_33 : decode cX3_goTo 33 = .ok (.getfield 11, 3) := by decide +kernel
theorem dX3_goTo_36 : decode cX3_goTo 36 = .ok (.iconst 0, 1) := by decide +kernel
theorem dX3_goTo_37 : decode cX3_goTo 37 = .ok (.iaload, 1) := by decide +kernel
theorem dX3_goTo_38 : decode cX3_goTo 38 = .ok (.iload_n 2, 1) := by decide +kernel
theorem dX3_goTo_39 : decode cX3_goTo 39 = .ok (.invokevirtual 94, 3) := by decide +kernel
theorem dX3_goTo_42 : decode cX3_goTo 42 = .ok (.iadd, 1) := by decide +kernel
theorem dX3_goTo_43 : decode cX3_goTo 43 = .ok (.iastore, 1) := by decide +kernel
theorem dX3_goTo_44 : decode cX3_goTo 44 = .ok (.aload_n 0, 1) := by decide +kernel
theorem dX3_goTo_45 : decode cX3_goTo 45 = .ok (.getfield 11, 3) := by decide +kernel
theorem dX3_goTo_48 : decode cX3_goTo 48 = .ok (.iconst 0, 1) := by decide +kernel
theorem dX3_goTo_49 : decode cX3_goTo 49 = .ok (.iload_n 2, 1) := by decide +kernel
theorem dX3_goTo_50 : decode cX3_goTo 50 = .ok (.iastore, 1) := by decide +kernel
theorem dX3_goTo_51 : decode cX3_goTo 51 = .ok (.aload_n 0, 1) := by decide +kernel
theorem dX3_goTo_52 : decode cX3_goTo 52 = .ok (.aload_n 1, 1) := by decide +kernel
theorem dX3_goTo_53 : decode cX3_goTo 53 = .ok (.invokevirtual 52, 3) := by decide +kernel
theorem dX3_goTo_56 : decode cX3_goTo 56 = .ok (.return_, 1) := by decide +kernel
theorem dX3_stay_0 : decode cX3_stay 0 = .ok (.aload_n 0, 1) := by decide +kernel
theorem dX3_stay_1 : decode cX3_stay 1 = .ok (.invokevirtual 78, 3) := by decide +kernel
theorem dX3_stay_4 : decode cX3_stay 4 = .ok (.aload_n 0, 1) := by decide +kernel
theorem dX3_stay_5 : decode cX3_stay 5 = .ok (.getfield 11, 3) := by decide +kernel
theorem dX3_stay_8 : decode cX3_stay 8 = .ok (.iconst 3, 1) := by decide +kernel
theorem dX3_stay_9 : decode cX3_stay 9 = .ok (.dup2, 1) := by decide +kernel
theorem dX3_stay_10 : decode cX3_stay 10 = .ok (.iaload, 1) := by decide +kernel
theorem dX3_stay_11 : decode cX3_stay 11 = .ok (.bipush 10, 2) := by decide +kernel
theorem dX3_stay_13 : decode cX3_stay 13 = .ok (.iadd, 1) := by decide +kernel
theorem dX3_stay_14 : decode cX3_stay 14 = .ok (.iastore, 1) := by decide +kernel
theorem dX3_stay_15 : decode cX3_stay 15 = .ok (.aload_n 0, 1) := by decide +kernel
theorem dX3_stay_16 : decode cX3_stay 16 = .ok (.aload_n 1, 1) := by decide +kernel
theorem dX3_stay_17 : decode cX3_stay 17 = .ok (.invokevirtual 52, 3) := by decide +kernel
theorem dX3_stay_20 : decode cX3_stay 20 = .ok (.return_, 1) := by decide +kernel
theorem dX3_takeBack_0 : decode cX3_takeBack 0 = .ok (.aload_n 0, 1) := by decide +kernel
theorem dX3_takeBack_1 : decode cX3_takeBack 1 = .ok (.getfield 17, 3) := by decide +kernel
theorem dX3_takeBack_4 : decode cX3_takeBack 4 = .ok (.aload_n 0, 1) := by decide +kernel
theorem dX3_takeBack_5 : decode cX3_takeBack 5 = .ok (.getfield 63, 3) := by decide +kernel
theorem dX3_takeBack_8 : decode cX3_takeBack 8 = .ok (.aaload, 1) := by decide +kernel
theorem dX3_takeBack_9 : decode cX3_takeBack 9 = .ok (.iconst 0, 1) := by decide +kernel
theorem dX3_takeBack_10 : decode cX3_takeBack 10 = .ok (.aload_n 0, 1) := by decide +kernel
theorem dX3_takeBack_11 : decode cX3_takeBack 11 = .ok (.getfield 11, 3) := by decide +kernel
theorem dX3_takeBack_14 : decode cX3_takeBack 14 = .ok (.iconst 0, 1) := by decide +kernel
theorem dX3_takeBack_15 : decode cX3_takeBack 15 = .ok (.bipush 7, 2) := by decide +kernel
theorem dX3_takeBack_17 : decode cX3_takeBack 17 = .ok (.invokestatic 66, 3) := by decide +kernel
theorem dX3_takeBack_20 : decode cX3_takeBack 20 = .ok (.aload_n 0, 1) := by decide +kernel
theorem dX3_takeBack_21 : decode cX3_takeBack 21 = .ok (.aload_n 0, 1) := by decide +kernel
theorem dX3_takeBack_22 : decode cX3_takeBack 22 = .ok (.getfield 63, 3) := by decide +kernel
theorem dX3_takeBack_25 : decode cX3_takeBack 25 = .ok (.bipush 12, 2) := by decide +kernel
theorem dX3_takeBack_27 : decode cX3_takeBack 27 = .ok (.iadd, 1) := by decide +kernel
theorem dX3_takeBack_28 : decode cX3_takeBack 28 = .ok (.iconst 1, 1) := by decide +kernel
theorem dX3_takeBack_29 : decode cX3_takeBack 29 = .ok (.isub, 1) := by decide +kernel
theorem dX3_takeBack_30 : decode cX3_takeBack 30 = .ok (.bipush 12, 2) := by decide +kernel
theorem dX3_takeBack_32 : decode cX3_takeBack 32 = .ok (.irem, 1) := by decide +kernel
theorem dX3_takeBack_33 : decode cX3_takeBack 33 = .ok (.putfield 63, 3) := by decide +kernel
theorem dX3_takeBack_36 : decode cX3_takeBack 36 = .ok (.aload_n 0, 1) := by decide +kernel
theorem dX3_takeBack_37 : decode cX3_takeBack 37 = .ok (.dup, 1) := by decide +kernel
theorem dX3_takeBack_38 : decode cX3_takeBack 38 = .ok (.getfield 30, 3) := by decide +kernel
theorem dX3_takeBack_41 : decode cX3_takeBack 41 = .ok (.iconst 1, 1) := by decide +kernel
theorem dX3_takeBack_42 : decode cX3_takeBack 42 = .ok (.isub, 1) := by decide +kernel
theorem dX3_takeBack_43 : decode cX3_takeBack 43 = .ok (.putfield 30, 3) := by decide +kernel
theorem dX3_takeBack_46 : decode cX3_takeBack 46 = .ok (.return_, 1) := by decide +kernel
theorem dX3_picture_0 : decode cX3_picture 0 = .ok (.aload_n 0, 1) := by decide +kernel
theorem dX3_picture_1 : decode cX3_picture 1 = .ok (.getfield 11, 3) := by decide +kernel
theorem dX3_picture_4 : decode cX3_picture 4 = .ok (.iconst 0, 1) := by decide +kernel
theorem dX3_picture_5 : decode cX3_picture 5 = .ok (.aload_n 0, 1) := by decide +kernel
theorem dX3_picture_6 : decode cX3_picture 6 = .ok (.getfield 20, 3) := by decide +kernel
theorem dX3_picture_9 : decode cX3_picture 9 = .ok (.aload_n 0, 1) := by decide +kernel
theorem dX3_picture_10 : decode cX3_picture 10 = .ok (.getfield 34, 3) := by decide +kernel
theorem dX3_picture_13 : decode cX3_picture 13 = .ok (.aaload, 1) := by decide +kernel
theorem dX3_picture_14 : decode cX3_picture 14 = .ok (.iconst 0, 1) := by decide +kernel
theorem dX3_picture_15 : decode cX3_picture 15 = .ok (.bipush 7, 2) := by decide +kernel
theorem dX3_picture_17 : decode cX3_picture 17 = .ok (.invokestatic 66, 3) := by decide +kernel
theorem dX3_picture_20 : decode cX3_picture 20 = .ok (.aload_n 0, 1) := by decide +kernel
theorem dX3_picture_21 : decode cX3_picture 21 = .ok (.dup, 1) := by decide +kernel
theorem dX3_picture_22 : decode cX3_picture 22 = .ok (.getfield 34, 3) := by decide +kernel
theorem dX3_picture_25 : decode cX3_picture 25 = .ok (.iconst 1, 1) := by decide +kernel
theorem dX3_picture_26 : decode cX3_picture 26 = .ok (.iadd, 1) := by decide +kernel
theorem dX3_picture_27 : decode cX3_picture 27 = .ok (.putfield 34, 3) := by decide +kernel
theorem dX3_picture_30 : decode cX3_picture 30 = .ok (.aload_n 0, 1) := by decide +kernel
theorem dX3_picture_31 : decode cX3_picture 31 = .ok (.getfield 34, 3) := by decide +kernel
theorem dX3_picture_34 : decode cX3_picture 34 = .ok (.iconst 1, 1) := by decide +kernel
theorem dX3_picture_35 : decode cX3_picture 35 = .ok (.isub, 1) := by decide +kernel
theorem dX3_picture_36 : decode cX3_picture 36 = .ok (.ireturn, 1) := by decide +kernel
theorem dX3_returnTo_0 : decode cX3_returnTo 0 = .ok (.aload_n 0, 1) := by decide +kernel
theorem dX3_returnTo_1 : decode cX3_returnTo 1 = .ok (.getfield 20, 3) := by decide +kernel
theorem dX3_returnTo_4 : decode cX3_returnTo 4 = .ok (.iload_n 1, 1) := by decide +kernel
theorem dX3_returnTo_5 : decode cX3_returnTo 5 = .ok (.aaload, 1) := by decide +kernel
theorem dX3_returnTo_6 : decode cX3_returnTo 6 = .ok (.iconst 0, 1) := by decide +kernel
theorem dX3_returnTo_7 : decode cX3_returnTo 7 = .ok (.aload_n 0, 1) := by decide +kernel
theorem dX3_returnTo_8 : decode cX3_returnTo 8 = .ok (.getfield 11, 3) := by decide +kernel
theorem dX3_returnTo_11 : decode cX3_returnTo 11 = .ok (.iconst 0, 1) := by decide +kernel
theorem dX3_returnTo_12 : decode cX3_returnTo 12 = .ok (.bipush 7, 2) := by decide +kernel
theorem dX3_returnTo_14 : decode cX3_returnTo 14 = .ok (.invokestatic 66, 3) := by decide +kernel
theorem dX3_returnTo_17 : decode cX3_returnTo 17 = .ok (.aload_n 0, 1) := by decide +kernel
theorem dX3_returnTo_18 : decode cX3_returnTo 18 = .ok (.iconst 0, 1) := by decide +kernel
theorem dX3_returnTo_19 : decode cX3_returnTo 19 = .ok (.putfield 30, 3) := by decide +kernel
theorem dX3_returnTo_22 : decode cX3_returnTo 22 = .ok (.return_, 1) := by decide +kernel
theorem dX3_openPlace_0 : decode cX3_openPlace 0 = .ok (.iconst 0, 1) := by decide +kernel
theorem dX3_openPlace_1 : decode cX3_openPlace 1 = .ok (.istore_n 3, 1) := by decide +kernel
theorem dX3_openPlace_2 : decode cX3_openPlace 2 = .ok (.iconst 0, 1) := by decide +kernel
theorem dX3_openPlace_3 : decode cX3_openPlace 3 = .ok (.istore 4, 2) := by decide +kernel
theorem dX3_openPlace_5 : decode cX3_openPlace 5 = .ok (.iload 4, 2) := by decide +kernel
theorem dX3_openPlace_7 : decode cX3_openPlace 7 = .ok (.aload_n 1, 1) := by decide +kernel
theorem dX3_openPlace_8 : decode cX3_openPlace 8 = .ok (.getfield 97, 3) := by decide +kernel
theorem dX3_openPlace_11 : decode cX3_openPlace 11 = .ok (.if_icmp .ge 30, 3) := by decide +kernel
theorem dX3_openPlace_14 : decode cX3_openPlace 14 = .ok (.aload_n 0, 1) := by decide +kernel
theorem dX3_openPlace_15 : decode cX3_openPlace 15 = .ok (.aload_n 1, 1) := by decide +kernel
theorem dX3_openPlace_16 : decode cX3_openPlace 16 = .ok (.iload 4, 2) := by decide +kernel
theorem dX3_openPlace_18 : decode cX3_openPlace 18 = .ok (.invokevirtual 100, 3) := by decide +kernel
theorem dX3_openPlace_21 : decode cX3_openPlace 21 = .ok (.ifCond .eq 14, 3) := by decide +kernel
theorem dX3_openPlace_24 : decode cX3_openPlace 24 = .ok (.iload_n 3, 1) := by decide +kernel
theorem dX3_openPlace_25 : decode cX3_openPlace 25 = .ok (.iload_n 2, 1) := by decide +kernel
theorem dX3_openPlace_26 : decode cX3_openPlace 26 = .ok (.if_icmp .ne 6, 3) := by decide +kernel
theorem dX3_openPlace_29 : decode cX3_openPlace 29 = .ok (.iload 4, 2) := by decide +kernel
theorem dX3_openPlace_31 : decode cX3_openPlace 31 = .ok (.ireturn, 1) := by decide +kernel
theorem dX3_openPlace_32 : decode cX3_openPlace 32 = .ok (.iinc 3 1, 3) := by decide +kernel
theorem dX3_openPlace_35 : decode cX3_openPlace 35 = .ok (.iinc 4 1, 3) := by decide +kernel
theorem dX3_openPlace_38 : decode cX3_openPlace 38 = .ok (.goto (-33), 3) := by decide +kernel
theorem dX3_openPlace_41 : decode cX3_openPlace 41 = .ok (.iconst (-1), 1) := by decide +kernel
theorem dX3_openPlace_42 : decode cX3_openPlace 42 = .ok (.ireturn, 1) := by decide +kernel
theorem dX4_leave_0 : decode cX4_leave 0 = .ok (.iload_n 1, 1) := by decide +kernel
theorem dX4_leave_1 : decode cX4_leave 1 = .ok (.istore 5, 2) := by decide +kernel
theorem dX4_leave_3 : decode cX4_leave 3 = .ok (.iload 5, 2) := by decide +kernel
theorem dX4_leave_5 : decode cX4_leave 5 = .ok (.ifCond .lt 29, 3) := by decide +kernel
theorem dX4_leave_8 : decode cX4_leave 8 = .ok (.aload_n 0, 1) := by decide +kernel
theorem dX4_leave_9 : decode cX4_leave 9 = .ok (.iload 5, 2) := by decide +kernel
theorem dX4_leave_11 : decode cX4_leave 11 = .ok (.iload 5, 2) := by decide +kernel
theorem dX4_leave_13 : decode cX4_leave 13 = .ok (.iload_n 2, 1) := by decide +kernel
theorem dX4_leave_14 : decode cX4_leave 14 = .ok (.if_icmp .lt 12, 3) := by decide +kernel
theorem dX4_leave_17 : decode cX4_leave 17 = .ok (.aload_n 0, 1) := by decide +kernel
theorem dX4_leave_18 : decode cX4_leave 18 = .ok (.iload 5, 2) := by decide +kernel
theorem dX4_leave_20 : decode cX4_leave 20 = .ok (.iload_n 2, 1) := by decide +kernel
theorem dX4_leave_21 : decode cX4_leave 21 = .ok (.isub, 1) := by decide +kernel
theorem dX4_leave_22 : decode cX4_leave 22 = .ok (.laload, 1) := by decide +kernel
theorem dX4_leave_23 : decode cX4_leave 23 = .ok (.goto 4, 3) := by decide +kernel
theorem dX4_leave_26 : decode cX4_leave 26 = .ok (.lload_n 3, 1) := by decide +kernel
theorem dX4_leave_27 : decode cX4_leave 27 = .ok (.lastore, 1) := by decide +kernel
theorem dX4_leave_28 : decode cX4_leave 28 = .ok (.iinc 5 (-1), 3) := by decide +kernel
theorem dX4_leave_31 : decode cX4_leave 31 = .ok (.goto (-28), 3) := by decide +kernel
theorem dX4_leave_34 : decode cX4_leave 34 = .ok (.return_, 1) := by decide +kernel
theorem dX4_choose_0 : decode cX4_choose 0 = .ok (.iload_n 1, 1) := by decide +kernel
theorem dX4_choose_1 : decode cX4_choose 1 = .ok (.istore 7, 2) := by decide +kernel
theorem dX4_choose_3 : decode cX4_choose 3 = .ok (.iload_n 1, 1) := by decide +kernel
theorem dX4_choose_4 : decode cX4_choose 4 = .ok (.istore 8, 2) := by decide +kernel
theorem dX4_choose_6 : decode cX4_choose 6 = .ok (.iload 8, 2) := by decide +kernel
theorem dX4_choose_8 : decode cX4_choose 8 = .ok (.ifCond .lt 77, 3) := by decide +kernel
theorem dX4_choose_11 : decode cX4_choose 11 = .ok (.lload 4, 2) := by decide +kernel
theorem dX4_choose_13 : decode cX4_choose 13 = .ok (.lload_n 2, 1) := by decide +kernel
theorem dX4_choose_14 : decode cX4_choose 14 = .ok (.iload 7, 2) := by decide +kernel
theorem dX4_choose_16 : decode cX4_choose 16 = .ok (.iload 8, 2) := by decide +kernel
theorem dX4_choose_18 : decode cX4_choose 18 = .ok (.isub, 1) := by decide +kernel
theorem dX4_choose_19 : decode cX4_choose 19 = .ok (.i2l, 1) := by decide +kernel
theorem dX4_choose_20 : decode cX4_choose 20 = .ok (.lmul, 1) := by decide +kernel
theorem dX4_choose_21 : decode cX4_choose 21 = .ok (.ladd, 1) := by decide +kernel
theorem dX4_choose_22 : decode cX4_choose 22 = .ok (.aload_n 0, 1) := by decide +kernel
theorem dX4_choose_23 : decode cX4_choose 23 = .ok (.iload 7, 2) := by decide +kernel
theorem dX4_choose_25 : decode cX4_choose 25 = .ok (.laload, 1) := by decide +kernel
theorem dX4_choose_26 : decode cX4_choose 26 = .ok (.ladd, 1) := by decide +kernel
theorem dX4_choose_27 : decode cX4_choose 27 = .ok (.lstore 9, 2) := by decide +kernel
theorem dX4_choose_29 : decode cX4_choose 29 = .ok (.aload 6, 2) := by decide +kernel
theorem dX4_choose_31 : decode cX4_choose 31 = .ok (.iload 8, 2) := by decide +kernel
theorem dX4_choose_33 : decode cX4_choose 33 = .ok (.lload 9, 2) := by decide +kernel
theorem dX4_choose_35 : decode cX4_choose 35 = .ok (.aload_n 0, 1) := by decide +kernel
theorem dX4_choose_36 : decode cX4_choose 36 = .ok (.iload 8, 2) := by decide +kernel
theorem dX4_choose_38 : decode cX4_choose 38 = .ok (.laload, 1) := by decide +kernel
theorem dX4_choose_39 : decode cX4_choose 39 = .ok (.lcmp, 1) := by decide +kernel
theorem dX4_choose_40 : decode cX4_choose 40 = .ok (.ifCond .ge 8, 3) := by decide +kernel
theorem dX4_choose_43 : decode cX4_choose 43 = .ok (.iload 7, 2) := by decide +kernel
theorem dX4_choose_45 : decode cX4_choose 45 = .ok (.goto 5, 3) := by decide +kernel
theorem dX4_choose_48 : decode cX4_choose 48 = .ok (.iload 8, 2) := by decide +kernel
theorem dX4_choose_50 : decode cX4_choose 50 = .ok (.iastore, 1) := by decide +kernel
theorem dX4_choose_51 : decode cX4_choose 51 = .ok (.aload_n 0, 1) := by decide +kernel
theorem dX4_choose_52 : decode cX4_choose 52 = .ok (.iload 8, 2) := by decide +kernel
theorem dX4_choose_54 : decode cX4_choose 54 = .ok (.laload, 1) := by decide +kernel
theorem dX4_choose_55 : decode cX4_choose 55 = .ok (.lload_n 2, 1) := by decide +kernel
theorem dX4_choose_56 : decode cX4_choose 56 = .ok (.iload 8, 2) := by decide +kernel
theorem dX4_choose_58 : decode cX4_choose 58 = .ok (.i2l, 1) := by decide +kernel
theorem dX4_choose_59 : decode cX4_choose 59 = .ok (.lmul, 1) := by decide +kernel
theorem dX4_choose_60 : decode cX4_choose 60 = .ok (.ladd, 1) := by decide +kernel
theorem dX4_choose_61 : decode cX4_choose 61 = .ok (.aload_n 0, 1) := by decide +kernel
theorem dX4_choose_62 : decode cX4_choose 62 = .ok (.iload 7, 2) := by decide +kernel
theorem dX4_choose_64 : decode cX4_choose 64 = .ok (.laload, 1) := by decide +kernel
theorem dX4_choose_65 : decode cX4_choose 65 = .ok (.lload_n 2, 1) := by decide +kernel
theorem dX4_choose_66 : decode cX4_choose 66 = .ok (.iload 7, 2) := by decide +kernel
theorem dX4_choose_68 : decode cX4_choose 68 = .ok (.i2l, 1) := by decide +kernel
theorem dX4_choose_69 : decode cX4_choose 69 = .ok (.lmul, 1) := by decide +kernel
theorem dX4_choose_70 : decode cX4_choose 70 = .ok (.ladd, 1) := by decide +kernel
theorem dX4_choose_71 : decode cX4_choose 71 = .ok (.lcmp, 1) := by decide +kernel
theorem dX4_choose_72 : decode cX4_choose 72 = .ok (.ifCond .gt 7, 3) := by decide +kernel
theorem dX4_choose_75 : decode cX4_choose 75 = .ok (.iload 8, 2) := by decide +kernel
theorem dX4_choose_77 : decode cX4_choose 77 = .ok (.istore 7, 2) := by decide +kernel
theorem dX4_choose_79 : decode cX4_choose 79 = .ok (.iinc 8 (-1), 3) := by decide +kernel
theorem dX4_choose_82 : decode cX4_choose 82 = .ok (.goto (-76), 3) := by decide +kernel
theorem dX4_choose_85 : decode cX4_choose 85 = .ok (.return_, 1) := by decide +kernel
theorem dX4_spend_0 : decode cX4_spend 0 = .ok (.aload_n 0, 1) := by decide +kernel
theorem dX4_spend_1 : decode cX4_spend 1 = .ok (.iload_n 2, 1) := by decide +kernel
theorem dX4_spend_2 : decode cX4_spend 2 = .ok (.laload, 1) := by decide +kernel
theorem dX4_spend_3 : decode cX4_spend 3 = .ok (.lload_n 3, 1) := by decide +kernel
theorem dX4_spend_4 : decode cX4_spend 4 = .ok (.iload_n 2, 1) := by decide +kernel
theorem dX4_spend_5 : decode cX4_spend 5 = .ok (.iload_n 1, 1) := by decide +kernel
theorem dX4_spend_6 : decode cX4_spend 6 = .ok (.isub, 1) := by decide +kernel
theorem dX4_spend_7 : decode cX4_spend 7 = .ok (.i2l, 1) := by decide +kernel
theorem dX4_spend_8 : decode cX4_spend 8 = .ok (.lmul, 1) := by decide +kernel
theorem dX4_spend_9 : decode cX4_spend 9 = .ok (.ladd, 1) := by decide +kernel
theorem dX4_spend_10 : decode cX4_spend 10 = .ok (.iload_n 2, 1) := by decide +kernel
theorem dX4_spend_11 : decode cX4_spend 11 = .ok (.iload_n 1, 1) := by decide +kernel
theorem dX4_spend_12 : decode cX4_spend 12 = .ok (.if_icmp .le 8, 3) := by decide +kernel
theorem dX4_spend_15 : decode cX4_spend 15 = .ok (.lload 5, 2) := by decide +kernel
theorem dX4_spend_17 : decode cX4_spend 17 = .ok (.goto 4, 3) := by decide +kernel
theorem dX4_spend_20 : decode cX4_spend 20 = .ok (.lconst 0, 1) := by decide +kernel
theorem dX4_spend_21 : decode cX4_spend 21 = .ok (.ladd, 1) := by decide +kernel
theorem dX4_spend_22 : decode cX4_spend 22 = .ok (.lreturn, 1) := by decide +kernel
theorem dX5_init_0 : decode cX5_init 0 = .ok (.aload_n 0, 1) := by decide +kernel
theorem dX5_init_1 : decode cX5_init 1 = .ok (.invokespecial 3, 3) := by decide +kernel
theorem dX5_init_4 : decode cX5_init 4 = .ok (.aload_n 0, 1) := by decide +kernel
theorem dX5_init_5 : decode cX5_init 5 = .ok (.bipush 9, 2) := by decide +kernel
theorem dX5_init_7 : decode cX5_init 7 = .ok (.bipush 41, 2) := by decide +kernel
theorem dX5_init_9 : decode cX5_init 9 = .ok (.multianewarray 9 2, 4) := by decide +kernel
theorem dX5_init_13 : decode cX5_init 13 = .ok (.putfield 11, 3) := by decide +kernel
theorem dX5_init_16 : decode cX5_init 16 = .ok (.aload_n 0, 1) := by decide +kernel
theorem dX5_init_17 : decode cX5_init 17 = .ok (.bipush 41, 2) := by decide +kernel
theorem dX5_init_19 : decode cX5_init 19 = .ok (.newarray .int, 2) := by decide +kernel
theorem dX5_init_21 : decode cX5_init 21 = .ok (.putfield 16, 3) := by decide +kernel
theorem dX5_init_24 : decode cX5_init 24 = .ok (.aload_n 0, 1) := by decide +kernel
theorem dX5_init_25 : decode cX5_init 25 = .ok (.bipush 9, 2) := by decide +kernel
theorem dX5_init_27 : decode cX5_init 27 = .ok (.newarray .int, 2) := by decide +kernel
theorem dX5_init_29 : decode cX5_init 29 = .ok (.putfield 20, 3) := by decide +kernel
theorem dX5_init_32 : decode cX5_init 32 = .ok (.return_, 1) := by decide +kernel
theorem dX5_least_0 : decode cX5_least 0 = .ok (.iconst 0, 1) := by decide +kernel
theorem dX5_least_1 : decode cX5_least 1 = .ok (.istore_n 3, 1) := by decide +kernel
theorem dX5_least_2 : decode cX5_least 2 = .ok (.iload_n 3, 1) := by decide +kernel
theorem dX5_least_3 : decode cX5_least 3 = .ok (.aload_n 1, 1) := by decide +kernel
theorem dX5_least_4 : decode cX5_least 4 = .ok (.getfield 23, 3) := by decide +kernel
theorem dX5_least_7 : decode cX5_least 7 = .ok (.if_icmp .ge 20, 3) := by decide +kernel
theorem dX5_least_10 : decode cX5_least 10 = .ok (.aload_n 0, 1) := by decide +kernel
theorem dX5_least_11 : decode cX5_least 11 = .ok (.getfield 11, 3) := by decide +kernel
theorem dX5_least_14 : decode cX5_least 14 = .ok (.iload_n 3, 1) := by decide +kernel
theorem dX5_least_15 : decode cX5_least 15 = .ok (.aaload, 1) := by decide +kernel
theorem dX5_least_16 : decode cX5_least 16 = .ok (.ldc 29, 2) := by decide +kernel
theorem dX5_least_18 : decode cX5_least 18 = .ok (.invokestatic 30, 3) := by decide +kernel
theorem dX5_least_21 : decode cX5_least 21 = .ok (.iinc 3 1, 3) := by decide +kernel
theorem dX5_least_24 : decode cX5_least 24 = .ok (.goto (-22), 3) := by decide +kernel
theorem dX5_least_27 : decode cX5_least 27 = .ok (.aload_n 0, 1) := by decide +kernel
theorem dX5_least_28 : decode cX5_least 28 = .ok (.getfield 11, 3) := by decide +kernel
theorem dX5_least_31 : decode cX5_least 31 = .ok (.aload_n 1, 1) := by decide +kernel
theorem dX5_least_32 : decode cX5_least 32 = .ok (.invokevirtual 36, 3) := by decide +kernel
theorem dX5_least_35 : decode cX5_least 35 = .ok (.aaload, 1) := by decide +kernel
theorem dX5_least_36 : decode cX5_least 36 = .ok (.aload_n 1, 1) := by decide +kernel
theorem dX5_least_37 : decode cX5_least 37 = .ok (.getfield 40, 3) := by decide +kernel
theorem dX5_least_40 : decode cX5_least 40 = .ok (.iconst 0, 1) := by decide +kernel
theorem dX5_least_41 : decode cX5_least 41 = .ok (.iastore, 1) := by decide +kernel
theorem dX5_least_42 : decode cX5_least 42 = .ok (.iconst 1, 1) := by decide +kernel
theorem dX5_least_43 : decode cX5_least 43 = .ok (.istore_n 3, 1) := by decide +kernel
theorem dX5_least_44 : decode cX5_least 44 = .ok (.iconst 0, 1) := by decide +kernel
theorem dX5_least_45 : decode cX5_least 45 = .ok (.istore 4, 2) := by decide +kernel
theorem dX5_least_47 : decode cX5_least 47 = .ok (.iload_n 3, 1) := by decide +kernel
theorem dX5_least_48 : decode cX5_least 48 = .ok (.ifCond .eq 66, 3) := by decide +kernel
theorem dX5_least_51 : decode cX5_least 51 = .ok (.iload 4, 2) := by decide +kernel
theorem dX5_least_53 : decode cX5_least 53 = .ok (.sipush 369, 3) := by decide +kernel
theorem dX5_least_56 : decode cX5_least 56 = .ok (.if_icmp .ge 58, 3) := by decide +kernel
theorem dX5_least_59 : decode cX5_least 59 = .ok (.iconst 0, 1) := by decide +kernel
theorem dX5_least_60 : decode cX5_least 60 = .ok (.istore_n 3, 1) := by decide +kernel
theorem dX5_least_61 : decode cX5_least 61 = .ok (.iconst 0, 1) := by decide +kernel
theorem dX5_least_62 : decode cX5_least 62 = .ok (.istore 5, 2) := by decide +kernel
theorem dX5_least_64 : decode cX5_least 64 = .ok (.iload 5, 2) := by decide +kernel
theorem dX5_least_66 : decode cX5_least 66 = .ok (.aload_n 1, 1) := by decide +kernel
theorem dX5_least_67 : decode cX5_least 67 = .ok (.getfield 23, 3) := by decide +kernel
theorem dX5_least_70 : decode cX5_least 70 = .ok (.if_icmp .ge 38, 3) := by decide +kernel
theorem dX5_least_73 : decode cX5_least 73 = .ok (.aload_n 0, 1) := by decide +kernel
theorem dX5_least_74 : decode cX5_least 74 = .ok (.aload_n 1, 1) := by decide +kernel
theorem dX5_least_75 : decode cX5_least 75 = .ok (.iload 5, 2) := by decide +kernel
theorem dX5_least_77 : decode cX5_least 77 = .ok (.iload_n 2, 1) := by decide +kernel
theorem dX5_least_78 : decode cX5_least 78 = .ok (.invokevirtual 43, 3) := by decide +kernel
theorem dX5_least_81 : decode cX5_least 81 = .ok (.aload_n 0, 1) := by decide +kernel
theorem dX5_least_82 : decode cX5_least 82 = .ok (.aload_n 1, 1) := by decide +kernel
theorem dX5_least_83 : decode cX5_least 83 = .ok (.iload 5, 2) := by decide +kernel
theorem dX5_least_85 : decode cX5_least 85 = .ok (.iload_n 2, 1) := by decide +kernel
theorem dX5_least_86 : decode cX5_least 86 = .ok (.invokevirtual 47, 3) := by decide +kernel
theorem dX5_least_89 : decode cX5_least 89 = .ok (.ifCond .ne 7, 3) := by decide +kernel
theorem dX5_least_92 : decode cX5_least 92 = .ok (.iload_n 3, 1) := by decide +kernel
theorem dX5_least_93 : decode cX5_least 93 = .ok (.ifCond .eq 7, 3) := by decide +kernel
theorem dX5_least_96 : decode cX5_least 96 = .ok (.iconst 1, 1) := by decide +kernel
theorem dX5_least_97 : decode cX5_least 97 = .ok (.goto 4, 3) := by decide +kernel
theorem dX5_least_100 : decode cX5_least 100 = .ok (.iconst 0, 1) := by decide +kernel
theorem dX5_least_101 : decode cX5_least 101 = .ok (.istore_n 3, 1) := by decide +kernel
theorem dX5_least_102 : decode cX5_least 102 = .ok (.iinc 5 1, 3) := by decide +kernel
theorem dX5_least_105 : decode cX5_least 105 = .ok (.goto (-41), 3) := by decide +kernel
theorem dX5_least_108 : decode cX5_least 108 = .ok (.iinc 4 1, 3) := by decide +kernel
theorem dX5_least_111 : decode cX5_least 111 = .ok (.goto (-64), 3) := by decide +kernel
theorem dX5_least_114 : decode cX5_least 114 = .ok (.ldc 29, 2) := by decide +kernel
theorem dX5_least_116 : decode cX5_least 116 = .ok (.istore 4, 2) := by decide +kernel
theorem dX5_least_118 : decode cX5_least 118 = .ok (.iconst 0, 1) := by decide +kernel
theorem dX5_least_119 : decode cX5_least 119 = .ok (.istore 5, 2) := by decide +kernel
theorem dX5_least_121 : decode cX5_least 121 = .ok (.iload 5, 2) := by decide +kernel
theorem dX5_least_123 : decode cX5_least 123 = .ok (.aload_n 1, 1) := by decide +kernel
theorem dX5_least_124 : decode cX5_least 124 = .ok (.getfield 51, 3) := by decide +kernel
theorem dX5_least_127 : decode cX5_least 127 = .ok (.if_icmp .gt 28, 3) := by decide +kernel
theorem dX5_least_130 : decode cX5_least 130 = .ok (.iload 4, 2) := by decide +kernel
theorem dX5_least_132 : decode cX5_least 132 = .ok (.aload_n 0, 1) := by decide +kernel
theorem dX5_least_133 : decode cX5_least 133 = .ok (.getfield 11, 3) := by decide +kernel
theorem dX5_least_136 : decode cX5_least 136 = .ok (.aload_n 1, 1) := by decide +kernel
theorem dX5_least_137 : decode cX5_least 137 = .ok (.invokevirtual 54, 3) := by decide +kernel
theorem dX5_least_140 : decode cX5_least 140 = .ok (.aaload, 1) := by decide +kernel
theorem dX5_least_141 : decode cX5_least 141 = .ok (.iload 5, 2) := by decide +kernel
theorem dX5_least_143 : decode cX5_least 143 = .ok (.iaload, 1) := by decide +kernel
theorem dX5_least_144 : decode cX5_least 144 = .ok (.invokestatic 57, 3) := by decide +kernel
theorem dX5_least_147 : decode cX5_least 147 = .ok (.istore 4, 2) := by decide +kernel
theorem dX5_least_149 : decode cX5_least 149 = .ok (.iinc 5 1, 3) := by decide +kernel
theorem dX5_least_152 : decode cX5_least 152 = .ok (.goto (-31), 3) := by decide +kernel
theorem dX5_least_155 : decode cX5_least 155 = .ok (.iload 4, 2) := by decide +kernel
theorem dX5_least_157 : decode cX5_least 157 = .ok (.ldc 29, 2) := by decide +kernel
theorem dX5_least_159 : decode cX5_least 159 = .ok (.if_icmp .ne 8, 3) := by decide +kernel
theorem dX5_least_162 : decode cX5_least 162 = .ok (.bipush (-2), 2) := by decide +kernel
theorem dX5_least_164 : decode cX5_least 164 = .ok (.goto 5, 3) := by decide +kernel
theorem dX5_least_167 : decode cX5_least 167 = .ok (.iload 4, 2) := by decide +kernel
theorem dX5_least_169 : decode cX5_least 169 = .ok (.ireturn, 1) := by decide +kernel
theorem dX5_stopAt_0 : decode cX5_stopAt 0 = .ok (.aload_n 0, 1) := by decide +kernel
theorem dX5_stopAt_1 : decode cX5_stopAt 1 = .ok (.getfield 11, 3) := by decide +kernel
theorem dX5_stopAt_4 : decode cX5_stopAt 4 = .ok (.iload_n 2, 1) := by decide +kernel
theorem dX5_stopAt_5 : decode cX5_stopAt 5 = .ok (.aaload, 1) := by decide +kernel
theorem dX5_stopAt_6 : decode cX5_stopAt 6 = .ok (.astore 4, 2) := by decide +kernel
theorem dX5_stopAt_8 : decode cX5_stopAt 8 = .ok (.aload_n 1, 1) := by decide +kernel
theorem dX5_stopAt_9 : decode cX5_stopAt 9 = .ok (.getfield 63, 3) := by decide +kernel
theorem dX5_stopAt_12 : decode cX5_stopAt 12 = .ok (.iload_n 2, 1) := by decide +kernel
theorem dX5_stopAt_13 : decode cX5_stopAt 13 = .ok (.iaload, 1) := by decide +kernel
theorem dX5_stopAt_14 : decode cX5_stopAt 14 = .ok (.ifCond .le 7, 3) := by decide +kernel
theorem dX5_stopAt_17 : decode cX5_stopAt 17 = .ok (.iconst 1, 1) := by decide +kernel
theorem dX5_stopAt_18 : decode cX5_stopAt 18 = .ok (.goto 4, 3) := by decide +kernel
theorem dX5_stopAt_21 : decode cX5_stopAt 21 = .ok (.iconst 0, 1) := by decide +kernel
theorem dX5_stopAt_22 : decode cX5_stopAt 22 = .ok (.istore 5, 2) := by decide +kernel
theorem dX5_stopAt_24 : decode cX5_stopAt 24 = .ok (.iload_n 3, 1) := by decide +kernel
theorem dX5_stopAt_25 : decode cX5_stopAt 25 = .ok (.ifCond .eq 7, 3) := by decide +kernel
theorem dX5_stopAt_28 : decode cX5_stopAt 28 = .ok (.iconst 0, 1) := by decide +kernel
theorem dX5_stopAt_29 : decode cX5_stopAt 29 = .ok (.goto 9, 3) := by decide +kernel
theorem dX5_stopAt_32 : decode cX5_stopAt 32 = .ok (.aload_n 1, 1) := by decide +kernel
theorem dX5_stopAt_33 : decode cX5_stopAt 33 = .ok (.getfield 63, 3) := by decide +kernel
theorem dX5_stopAt_36 : decode cX5_stopAt 36 = .ok (.iload_n 2, 1) := by decide +kernel
theorem dX5_stopAt_37 : decode cX5_stopAt 37 = .ok (.iaload, 1) := by decide +kernel
theorem dX5_stopAt_38 : decode cX5_stopAt 38 = .ok (.istore 6, 2) := by decide +kernel
theorem dX5_stopAt_40 : decode cX5_stopAt 40 = .ok (.iload_n 3, 1) := by decide +kernel
theorem dX5_stopAt_41 : decode cX5_stopAt 41 = .ok (.ifCond .eq 10, 3) := by decide +kernel
theorem dX5_stopAt_44 : decode cX5_stopAt 44 = .ok (.aload_n 1, 1) := by decide +kernel
theorem dX5_stopAt_45 : decode cX5_stopAt 45 = .ok (.getfield 66, 3) := by decide +kernel
theorem dX5_stopAt_48 : decode cX5_stopAt 48 = .ok (.goto 7, 3) := by decide +kernel
theorem dX5_stopAt_51 : decode cX5_stopAt 51 = .ok (.aload_n 1, 1) := by decide +kernel
theorem dX5_stopAt_52 : decode cX5_stopAt 52 = .ok (.getfield 69, 3) := by decide +kernel
theorem dX5_stopAt_55 : decode cX5_stopAt 55 = .ok (.istore 7, 2) := by decide +kernel
theorem dX5_stopAt_57 : decode cX5_stopAt 57 = .ok (.ldc 29, 2) := by decide +kernel
theorem dX5_stopAt_59 : decode cX5_stopAt 59 = .ok (.istore 8, 2) := by decide +kernel
theorem dX5_stopAt_61 : decode cX5_stopAt 61 = .ok (.iconst 0, 1) := by decide +kernel
theorem dX5_stopAt_62 : decode cX5_stopAt 62 = .ok (.istore 9, 2) := by decide +kernel
theorem dX5_stopAt_64 : decode cX5_stopAt 64 = .ok (.iload 9, 2) := by decide +kernel
theorem dX5_stopAt_66 : decode cX5_stopAt 66 = .ok (.aload_n 1, 1) := by decide +kernel
theorem dX5_stopAt_67 : decode cX5_stopAt 67 = .ok (.getfield 51, 3) := by decide +kernel
theorem dX5_stopAt_70 : decode cX5_stopAt 70 = .ok (.if_icmp .gt 87, 3) := by decide +kernel
theorem dX5_stopAt_73 : decode cX5_stopAt 73 = .ok (.aload_n 0, 1) := by decide +kernel
theorem dX5_stopAt_74 : decode cX5_stopAt 74 = .ok (.getfield 16, 3) := by decide +kernel
theorem dX5_stopAt_77 : decode cX5_stopAt 77 = .ok (.iload 9, 2) := by decide +kernel
theorem dX5_stopAt_79 : decode cX5_stopAt 79 = .ok (.aload 4, 2) := by decide +kernel
theorem dX5_stopAt_81 : decode cX5_stopAt 81 = .ok (.iload 9, 2) := by decide +kernel
theorem dX5_stopAt_83 : decode cX5_stopAt 83 = .ok (.iaload, 1) := by decide +kernel
theorem dX5_stopAt_84 : decode cX5_stopAt 84 = .ok (.iastore, 1) := by decide +kernel
theorem dX5_stopAt_85 : decode cX5_stopAt 85 = .ok (.iload 5, 2) := by decide +kernel
theorem dX5_stopAt_87 : decode cX5_stopAt 87 = .ok (.ifCond .eq 36, 3) := by decide +kernel
theorem dX5_stopAt_90 : decode cX5_stopAt 90 = .ok (.iload 8, 2) := by decide +kernel
theorem dX5_stopAt_92 : decode cX5_stopAt 92 = .ok (.ldc 29, 2) := by decide +kernel
theorem dX5_stopAt_94 : decode cX5_stopAt 94 = .ok (.if_icmp .ge 29, 3) := by decide +kernel
theorem dX5_stopAt_97 : decode cX5_stopAt 97 = .ok (.aload_n 0, 1) := by decide +kernel
theorem dX5_stopAt_98 : decode cX5_stopAt 98 = .ok (.getfield 16, 3) := by decide +kernel
theorem dX5_stopAt_101 : decode cX5_stopAt 101 = .ok (.iload 9, 2) := by decide +kernel
theorem dX5_stopAt_103 : decode cX5_stopAt 103 = .ok (.aload 4, 2) := by decide +kernel
theorem dX5_stopAt_105 : decode cX5_stopAt 105 = .ok (.iload 9, 2) := by decide +kernel
theorem dX5_stopAt_107 : decode cX5_stopAt 107 = .ok (.iaload, 1) := by decide +kernel
theorem dX5_stopAt_108 : decode cX5_stopAt 108 = .ok (.iload 8, 2) := by decide +kernel
theorem dX5_stopAt_110 : decode cX5_stopAt 110 = .ok (.iload 6, 2) := by decide +kernel
theorem dX5_stopAt_112 : decode cX5_stopAt 112 = .ok (.iload 9, 2) := by decide +kernel
theorem dX5_stopAt_114 : decode cX5_stopAt 114 = .ok (.imul, 1) := by decide +kernel
theorem dX5_stopAt_115 : decode cX5_stopAt 115 = .ok (.iadd, 1) := by decide +kernel
theorem dX5_stopAt_116 : decode cX5_stopAt 116 = .ok (.iload 7, 2) := by decide +kernel
theorem dX5_stopAt_118 : decode cX5_stopAt 118 = .ok (.iadd, 1) := by decide +kernel
theorem dX5_stopAt_119 : decode cX5_stopAt 119 = .ok (.invokestatic 57, 3) := by decide +kernel
theorem dX5_stopAt_122 : decode cX5_stopAt 122 = .ok (.iastore, 1) := by decide +kernel
theorem dX5_stopAt_123 : decode cX5_stopAt 123 = .ok (.aload 4, 2) := by decide +kernel
theorem dX5_stopAt_125 : decode cX5_stopAt 125 = .ok (.iload 9, 2) := by decide +kernel
theorem dX5_stopAt_127 : decode cX5_stopAt 127 = .ok (.iaload, 1) := by decide +kernel
theorem dX5_stopAt_128 : decode cX5_stopAt 128 = .ok (.ldc 29, 2) := by decide +kernel
theorem dX5_stopAt_130 : decode cX5_stopAt 130 = .ok (.if_icmp .ge 21, 3) := by decide +kernel
theorem dX5_stopAt_133 : decode cX5_stopAt 133 = .ok (.iload 8, 2) := by decide +kernel
theorem dX5_stopAt_135 : decode cX5_stopAt 135 = .ok (.aload 4, 2) := by decide +kernel
theorem dX5_stopAt_137 : decode cX5_stopAt 137 = .ok (.iload 9, 2) := by decide +kernel
theorem dX5_stopAt_139 : decode cX5_stopAt 139 = .ok (.iaload, 1) := by decide +kernel
theorem dX5_stopAt_140 : decode cX5_stopAt 140 = .ok (.iload 6, 2) := by decide +kernel
theorem dX5_stopAt_142 : decode cX5_stopAt 142 = .ok (.iload 9, 2) := by decide +kernel
theorem dX5_stopAt_144 : decode cX5_stopAt 144 = .ok (.imul, 1) := by decide +kernel
theorem dX5_stopAt_145 : decode cX5_stopAt 145 = .ok (.isub, 1) := by decide +kernel
theorem dX5_stopAt_146 : decode cX5_stopAt 146 = .ok (.invokestatic 57, 3) := by decide +kernel
theorem dX5_stopAt_149 : decode cX5_stopAt 149 = .ok (.istore 8, 2) := by decide +kernel
theorem dX5_stopAt_151 : decode cX5_stopAt 151 = .ok (.iinc 9 1, 3) := by decide +kernel
theorem dX5_stopAt_154 : decode cX5_stopAt 154 = .ok (.goto (-90), 3) := by decide +kernel
theorem dX5_stopAt_157 : decode cX5_stopAt 157 = .ok (.return_, 1) := by decide +kernel
theorem dX5_goOn_0 : decode cX5_goOn 0 = .ok (.iconst 0, 1) := by decide +kernel
theorem dX5_goOn_1 : decode cX5_goOn 1 = .ok (.istore 4, 2) := by decide +kernel
theorem dX5_goOn_3 : decode cX5_goOn 3 = .ok (.iconst 0, 1) := by decide +kernel
theorem dX5_goOn_4 : decode cX5_goOn 4 = .ok (.istore 5, 2) := by decide +kernel
theorem dX5_goOn_6 : decode cX5_goOn 6 = .ok (.iload 5, 2) := by decide +kernel
theorem dX5_goOn_8 : decode cX5_goOn 8 = .ok (.aload_n 1, 1) := by decide +kernel
theorem dX5_goOn_9 : decode cX5_goOn 9 = .ok (.getfield 23, 3) := by decide +kernel
theorem dX5_goOn_12 : decode cX5_goOn 12 = .ok (.if_icmp .ge 57, 3) := by decide +kernel
theorem dX5_goOn_15 : decode cX5_goOn 15 = .ok (.aload_n 1, 1) := by decide +kernel
theorem dX5_goOn_16 : decode cX5_goOn 16 = .ok (.iload_n 2, 1) := by decide +kernel
theorem dX5_goOn_17 : decode cX5_goOn 17 = .ok (.iload 5, 2) := by decide +kernel
theorem dX5_goOn_19 : decode cX5_goOn 19 = .ok (.invokevirtual 72, 3) := by decide +kernel
theorem dX5_goOn_22 : decode cX5_goOn 22 = .ok (.ifCond .eq 41, 3) := by decide +kernel
theorem dX5_goOn_25 : decode cX5_goOn 25 = .ok (.aload_n 0, 1) := by decide +kernel
theorem dX5_goOn_26 : decode cX5_goOn 26 = .ok (.aload_n 1, 1) := by decide +kernel
theorem dX5_goOn_27 : decode cX5_goOn 27 = .ok (.iload_n 2, 1) := by decide +kernel
theorem dX5_goOn_28 : decode cX5_goOn 28 = .ok (.iload 5, 2) := by decide +kernel
theorem dX5_goOn_30 : decode cX5_goOn 30 = .ok (.iload_n 3, 1) := by decide +kernel
theorem dX5_goOn_31 : decode cX5_goOn 31 = .ok (.ifCond .eq 13, 3) := by decide +kernel
theorem dX5_goOn_34 : decode cX5_goOn 34 = .ok (.aload_n 1, 1) := by decide +kernel
theorem dX5_goOn_35 : decode cX5_goOn 35 = .ok (.iload_n 2, 1) := by decide +kernel
theorem dX5_goOn_36 : decode cX5_goOn 36 = .ok (.iload 5, 2) := by decide +kernel
theorem dX5_goOn_38 : decode cX5_goOn 38 = .ok (.invokevirtual 76, 3) := by decide +kernel
theorem dX5_goOn_41 : decode cX5_goOn 41 = .ok (.goto 4, 3) := by decide +kernel
theorem dX5_goOn_44 : decode cX5_goOn 44 = .ok (.iconst 0, 1) := by decide +kernel
theorem dX5_goOn_45 : decode cX5_goOn 45 = .ok (.invokevirtual 79, 3) := by decide +kernel
theorem dX5_goOn_48 : decode cX5_goOn 48 = .ok (.ifCond .ne 8, 3) := by decide +kernel
theorem dX5_goOn_51 : decode cX5_goOn 51 = .ok (.iload 4, 2) := by decide +kernel
theorem dX5_goOn_53 : decode cX5_goOn 53 = .ok (.ifCond .eq 7, 3) := by decide +kernel
theorem dX5_goOn_56 : decode cX5_goOn 56 = .ok (.iconst 1, 1) := by decide +kernel
theorem dX5_goOn_57 : decode cX5_goOn 57 = .ok (.goto 4, 3) := by decide +kernel
theorem dX5_goOn_60 : decode cX5_goOn 60 = .ok (.iconst 0, 1) := by decide +kernel
theorem dX5_goOn_61 : decode cX5_goOn 61 = .ok (.istore 4, 2) := by decide +kernel
theorem dX5_goOn_63 : decode cX5_goOn 63 = .ok (.iinc 5 1, 3) := by decide +kernel
theorem dX5_goOn_66 : decode cX5_goOn 66 = .ok (.goto (-60), 3) := by decide +kernel
theorem dX5_goOn_69 : decode cX5_goOn 69 = .ok (.iload 4, 2) := by decide +kernel
theorem dX5_goOn_71 : decode cX5_goOn 71 = .ok (.ireturn, 1) := by decide +kernel
theorem dX5_goAlong_0 : decode cX5_goAlong 0 = .ok (.iconst 0, 1) := by decide +kernel
theorem dX5_goAlong_1 : decode cX5_goAlong 1 = .ok (.istore 5, 2) := by decide +kernel
theorem dX5_goAlong_3 : decode cX5_goAlong 3 = .ok (.aload_n 1, 1) := by decide +kernel
theorem dX5_goAlong_4 : decode cX5_goAlong 4 = .ok (.iload_n 2, 1) := by decide +kernel
theorem dX5_goAlong_5 : decode cX5_goAlong 5 = .ok (.iload_n 3, 1) := by decide +kernel
theorem dX5_goAlong_6 : decode cX5_goAlong 6 = .ok (.invokevirtual 83, 3) := by decide +kernel
theorem dX5_goAlong_9 : decode cX5_goAlong 9 = .ok (.istore 6, 2) := by decide +kernel
theorem dX5_goAlong_11 : decode cX5_goAlong 11 = .ok (.aload_n 0, 1) := by decide +kernel
theorem dX5_goAlong_12 : decode cX5_goAlong 12 = .ok (.getfield 11, 3) := by decide +kernel
theorem dX5_goAlong_15 : decode cX5_goAlong 15 = .ok (.iload_n 3, 1) := by decide +kernel
theorem dX5_goAlong_16 : decode cX5_goAlong 16 = .ok (.aaload, 1) := by decide +kernel
theorem dX5_goAlong_17 : decode cX5_goAlong 17 = .ok (.astore 7, 2) := by decide +kernel
theorem dX5_goAlong_19 : decode cX5_goAlong 19 = .ok (.iload 6, 2) := by decide +kernel
theorem dX5_goAlong_21 : decode cX5_goAlong 21 = .ok (.istore 8, 2) := by decide +kernel
theorem dX5_goAlong_23 : decode cX5_goAlong 23 = .ok (.iload 8, 2) := by decide +kernel
theorem dX5_goAlong_25 : decode cX5_goAlong 25 = .ok (.aload_n 1, 1) := by decide +kernel
theorem dX5_goAlong_26 : decode cX5_goAlong 26 = .ok (.getfield 51, 3) := by decide +kernel
theorem dX5_goAlong_29 : decode cX5_goAlong 29 = .ok (.if_icmp .gt 63, 3) := by decide +kernel
theorem dX5_goAlong_32 : decode cX5_goAlong 32 = .ok (.aload_n 0, 1) := by decide +kernel
theorem dX5_goAlong_33 : decode cX5_goAlong 33 = .ok (.getfield 16, 3) := by decide +kernel
theorem dX5_goAlong_36 : decode cX5_goAlong 36 = .ok (.iload 8, 2) := by decide +kernel
theorem dX5_goAlong_38 : decode cX5_goAlong 38 = .ok (.iaload, 1) := by decide +kernel
theorem dX5_goAlong_39 : decode cX5_goAlong 39 = .ok (.ldc 29, 2) := by decide +kernel
theorem dX5_goAlong_41 : decode cX5_goAlong 41 = .ok (.if_icmp .ge 45, 3) := by decide +kernel
theorem dX5_goAlong_44 : decode cX5_goAlong 44 = .ok (.aload_n 0, 1) := by decide +kernel
theorem dX5_goAlong_45 : decode cX5_goAlong 45 = .ok (.getfield 16, 3) := by decide +kernel
theorem dX5_goAlong_48 : decode cX5_goAlong 48 = .ok (.iload 8, 2) := by decide +kernel
theorem dX5_goAlong_50 : decode cX5_goAlong 50 = .ok (.iaload, 1) := by decide +kernel
theorem dX5_goAlong_51 : decode cX5_goAlong 51 = .ok (.iload 4, 2) := by decide +kernel
theorem dX5_goAlong_53 : decode cX5_goAlong 53 = .ok (.iadd, 1) := by decide +kernel
theorem dX5_goAlong_54 : decode cX5_goAlong 54 = .ok (.aload 7, 2) := by decide +kernel
theorem dX5_goAlong_56 : decode cX5_goAlong 56 = .ok (.iload 8, 2) := by decide +kernel
theorem dX5_goAlong_58 : decode cX5_goAlong 58 = .ok (.iload 6, 2) := by decide +kernel
theorem dX5_goAlong_60 : decode cX5_goAlong 60 = .ok (.isub, 1) := by decide +kernel
theorem dX5_goAlong_61 : decode cX5_goAlong 61 = .ok (.iaload, 1) := by decide +kernel
theorem dX5_goAlong_62 : decode cX5_goAlong 62 = .ok (.if_icmp .ge 24, 3) := by decide +kernel
theorem dX5_goAlong_65 : decode cX5_goAlong 65 = .ok (.aload 7, 2) := by decide +kernel
theorem dX5_goAlong_67 : decode cX5_goAlong 67 = .ok (.iload 8, 2) := by decide +kernel
theorem dX5_goAlong_69 : decode cX5_goAlong 69 = .ok (.iload 6, 2) := by decide +kernel
theorem dX5_goAlong_71 : decode cX5_goAlong 71 = .ok (.isub, 1) := by decide +kernel
theorem dX5_goAlong_72 : decode cX5_goAlong 72 = .ok (.aload_n 0, 1) := by decide +kernel
theorem dX5_goAlong_73 : decode cX5_goAlong 73 = .ok (.getfield 16, 3) := by decide +kernel
theorem dX5_goAlong_76 : decode cX5_goAlong 76 = .ok (.iload 8, 2) := by decide +kernel
theorem dX5_goAlong_78 : decode cX5_goAlong 78 = .ok (.iaload, 1) := by decide +kernel
theorem dX5_goAlong_79 : decode cX5_goAlong 79 = .ok (.iload 4, 2) := by decide +kernel
theorem dX5_goAlong_81 : decode cX5_goAlong 81 = .ok (.iadd, 1) := by decide +kernel
theorem dX5_goAlong_82 : decode cX5_goAlong 82 = .ok (.iastore, 1) := by decide +kernel
theorem dX5_goAlong_83 : decode cX5_goAlong 83 = .ok (.iconst 1, 1) := by decide +kernel
theorem dX5_goAlong_84 : decode cX5_goAlong 84 = .ok (.istore 5, 2) := by decide +kernel
theorem dX5_goAlong_86 : decode cX5_goAlong 86 = .ok (.iinc 8 1, 3) := by decide +kernel
theorem dX5_goAlong_89 : decode cX5_goAlong 89 = .ok (.goto (-66), 3) := by decide +kernel
theorem dX5_goAlong_92 : decode cX5_goAlong 92 = .ok (.iload 5, 2) := by decide +kernel
theorem dX5_goAlong_94 : decode cX5_goAlong 94 = .ok (.ireturn, 1) := by decide +kernel
theorem dX5_mostPints_0 : decode cX5_mostPints 0 = .ok (.aload_n 0, 1) := by decide +kernel
theorem dX5_mostPints_1 : decode cX5_mostPints 1 = .ok (.getfield 20, 3) := by decide +kernel
theorem dX5_mostPints_4 : decode cX5_mostPints 4 = .ok (.bipush (-2), 2) := by decide +kernel
theorem dX5_mostPints_6 : decode cX5_mostPints 6 = .ok (.invokestatic 30, 3) := by decide +kernel
theorem dX5_mostPints_9 : decode cX5_mostPints 9 = .ok (.aload_n 0, 1) := by decide +kernel
theorem dX5_mostPints_10 : decode cX5_mostPints 10 = .ok (.getfield 20, 3) := by decide +kernel
theorem dX5_mostPints_13 : decode cX5_mostPints 13 = .ok (.aload_n 1, 1) := by decide +kernel
theorem dX5_mostPints_14 : decode cX5_mostPints 14 = .ok (.invokevirtual 36, 3) := by decide +kernel
theorem dX5_mostPints_17 : decode cX5_mostPints 17 = .ok (.aload_n 1, 1) := by decide +kernel
theorem dX5_mostPints_18 : decode cX5_mostPints 18 = .ok (.getfield 63, 3) := by decide +kernel
theorem dX5_mostPints_21 : decode cX5_mostPints 21 = .ok (.aload_n 1, 1) := by decide +kernel
theorem dX5_mostPints_22 : decode cX5_mostPints 22 = .ok (.invokevirtual 36, 3) := by decide +kernel
theorem dX5_mostPints_25 : decode cX5_mostPints 25 = .ok (.iaload, 1) := by decide +kernel
theorem dX5_mostPints_26 : decode cX5_mostPints 26 = .ok (.ifCond .le 10, 3) := by decide +kernel
theorem dX5_mostPints_29 : decode cX5_mostPints 29 = .ok (.aload_n 1, 1) := by decide +kernel
theorem dX5_mostPints_30 : decode cX5_mostPints 30 = .ok (.getfield 51, 3) := by decide +kernel
theorem dX5_mostPints_33 : decode cX5_mostPints 33 = .ok (.goto 7, 3) := by decide +kernel
theorem dX5_mostPints_36 : decode cX5_mostPints 36 = .ok (.aload_n 1, 1) := by decide +kernel
theorem dX5_mostPints_37 : decode cX5_mostPints 37 = .ok (.getfield 40, 3) := by decide +kernel
theorem dX5_mostPints_40 : decode cX5_mostPints 40 = .ok (.iastore, 1) := by decide +kernel
theorem dX5_mostPints_41 : decode cX5_mostPints 41 = .ok (.iconst 1, 1) := by decide +kernel
theorem dX5_mostPints_42 : decode cX5_mostPints 42 = .ok (.istore_n 3, 1) := by decide +kernel
theorem dX5_mostPints_43 : decode cX5_mostPints 43 = .ok (.iconst 0, 1) := by decide +kernel
theorem dX5_mostPints_44 : decode cX5_mostPints 44 = .ok (.istore 4, 2) := by decide +kernel
theorem dX5_mostPints_46 : decode cX5_mostPints 46 = .ok (.iload_n 3, 1) := by decide +kernel
theorem dX5_mostPints_47 : decode cX5_mostPints 47 = .ok (.ifCond .eq 57, 3) := by decide +kernel
theorem dX5_mostPints_50 : decode cX5_mostPints 50 = .ok (.iload 4, 2) := by decide +kernel
theorem dX5_mostPints_52 : decode cX5_mostPints 52 = .ok (.sipush 369, 3) := by decide +kernel
theorem dX5_mostPints_55 : decode cX5_mostPints 55 = .ok (.if_icmp .ge 49, 3) := by decide +kernel
theorem dX5_mostPints_58 : decode cX5_mostPints 58 = .ok (.iconst 0, 1) := by decide +kernel
theorem dX5_mostPints_59 : decode cX5_mostPints 59 = .ok (.istore_n 3, 1) := by decide +kernel
theorem dX5_mostPints_60 : decode cX5_mostPints 60 = .ok (.iconst 0, 1) := by decide +kernel
theorem dX5_mostPints_61 : decode cX5_mostPints 61 = .ok (.istore 5, 2) := by decide +kernel
theorem dX5_mostPints_63 : decode cX5_mostPints 63 = .ok (.iload 5, 2) := by decide +kernel
theorem dX5_mostPints_65 : decode cX5_mostPints 65 = .ok (.aload_n 1, 1) := by decide +kernel
theorem dX5_mostPints_66 : decode cX5_mostPints 66 = .ok (.getfield 23, 3) := by decide +kernel
theorem dX5_mostPints_69 : decode cX5_mostPints 69 = .ok (.if_icmp .ge 29, 3) := by decide +kernel
theorem dX5_mostPints_72 : decode cX5_mostPints 72 = .ok (.aload_n 0, 1) := by decide +kernel
theorem dX5_mostPints_73 : decode cX5_mostPints 73 = .ok (.aload_n 1, 1) := by decide +kernel
theorem dX5_mostPints_74 : decode cX5_mostPints 74 = .ok (.iload 5, 2) := by decide +kernel
theorem dX5_mostPints_76 : decode cX5_mostPints 76 = .ok (.invokevirtual 86, 3) := by decide +kernel
theorem dX5_mostPints_79 : decode cX5_mostPints 79 = .ok (.ifCond .ne 7, 3) := by decide +kernel
theorem dX5_mostPints_82 : decode cX5_mostPints 82 = .ok (.iload_n 3, 1) := by decide +kernel
theorem dX5_mostPints_83 : decode cX5_mostPints 83 = .ok (.ifCond .eq 7, 3) := by decide +kernel
theorem dX5_mostPints_86 : decode cX5_mostPints 86 = .ok (.iconst 1, 1) := by decide +kernel
theorem dX5_mostPints_87 : decode cX5_mostPints 87 = .ok (.goto 4, 3) := by decide +kernel
theorem dX5_mostPints_90 : decode cX5_mostPints 90 = .ok (.iconst 0, 1) := by decide +kernel
theorem dX5_mostPints_91 : decode cX5_mostPints 91 = .ok (.istore_n 3, 1) := by decide +kernel
theorem dX5_mostPints_92 : decode cX5_mostPints 92 = .ok (.iinc 5 1, 3) := by decide +kernel
theorem dX5_mostPints_95 : decode cX5_mostPints 95 = .ok (.goto (-32), 3) := by decide +kernel
theorem dX5_mostPints_98 : decode cX5_mostPints 98 = .ok (.iinc 4 1, 3) := by decide +kernel
theorem dX5_mostPints_101 : decode cX5_mostPints 101 = .ok (.goto (-55), 3) := by decide +kernel
theorem dX5_mostPints_104 : decode cX5_mostPints 104 = .ok (.aload_n 0, 1) := by decide +kernel
theorem dX5_mostPints_105 : decode cX5_mostPints 105 = .ok (.getfield 20, 3) := by decide +kernel
theorem dX5_mostPints_108 : decode cX5_mostPints 108 = .ok (.iload_n 2, 1) := by decide +kernel
theorem dX5_mostPints_109 : decode cX5_mostPints 109 = .ok (.iaload, 1) := by decide +kernel
theorem dX5_mostPints_110 : decode cX5_mostPints 110 = .ok (.ireturn, 1) := by decide +kernel
theorem dX5_fillNext_0 : decode cX5_fillNext 0 = .ok (.iconst 0, 1) := by decide +kernel
theorem dX5_fillNext_1 : decode cX5_fillNext 1 = .ok (.istore_n 3, 1) := by decide +kernel
theorem dX5_fillNext_2 : decode cX5_fillNext 2 = .ok (.iconst 0, 1) := by decide +kernel
theorem dX5_fillNext_3 : decode cX5_fillNext 3 = .ok (.istore 4, 2) := by decide +kernel
theorem dX5_fillNext_5 : decode cX5_fillNext 5 = .ok (.iload 4, 2) := by decide +kernel
theorem dX5_fillNext_7 : decode cX5_fillNext 7 = .ok (.aload_n 1, 1) := by decide +kernel
theorem dX5_fillNext_8 : decode cX5_fillNext 8 = .ok (.getfield 23, 3) := by decide +kernel
theorem dX5_fillNext_11 : decode cX5_fillNext 11 = .ok (.if_icmp .ge 91, 3) := by decide +kernel
theorem dX5_fillNext_14 : decode cX5_fillNext 14 = .ok (.aload_n 1, 1) := by decide +kernel
theorem dX5_fillNext_15 : decode cX5_fillNext 15 = .ok (.iload_n 2, 1) := by decide +kernel
theorem dX5_fillNext_16 : decode cX5_fillNext 16 = .ok (.iload 4, 2) := by decide +kernel
theorem dX5_fillNext_18 : decode cX5_fillNext 18 = .ok (.invokevirtual 72, 3) := by decide +kernel
theorem dX5_fillNext_21 : decode cX5_fillNext 21 = .ok (.ifCond .eq 75, 3) := by decide +kernel
theorem dX5_fillNext_24 : decode cX5_fillNext 24 = .ok (.aload_n 0, 1) := by decide +kernel
theorem dX5_fillNext_25 : decode cX5_fillNext 25 = .ok (.getfield 20, 3) := by decide +kernel
theorem dX5_fillNext_28 : decode cX5_fillNext 28 = .ok (.iload_n 2, 1) := by decide +kernel
theorem dX5_fillNext_29 : decode cX5_fillNext 29 = .ok (.iaload, 1) := by decide +kernel
theorem dX5_fillNext_30 : decode cX5_fillNext 30 = .ok (.aload_n 1, 1) := by decide +kernel
theorem dX5_fillNext_31 : decode cX5_fillNext 31 = .ok (.iload_n 2, 1) := by decide +kernel
theorem dX5_fillNext_32 : decode cX5_fillNext 32 = .ok (.iload 4, 2) := by decide +kernel
theorem dX5_fillNext_34 : decode cX5_fillNext 34 = .ok (.invokevirtual 83, 3) := by decide +kernel
theorem dX5_fillNext_37 : decode cX5_fillNext 37 = .ok (.if_icmp .lt 59, 3) := by decide +kernel
theorem dX5_fillNext_40 : decode cX5_fillNext 40 = .ok (.aload_n 1, 1) := by decide +kernel
theorem dX5_fillNext_41 : decode cX5_fillNext 41 = .ok (.getfield 63, 3) := by decide +kernel
theorem dX5_fillNext_44 : decode cX5_fillNext 44 = .ok (.iload 4, 2) := by decide +kernel
theorem dX5_fillNext_46 : decode cX5_fillNext 46 = .ok (.iaload, 1) := by decide +kernel
theorem dX5_fillNext_47 : decode cX5_fillNext 47 = .ok (.ifCond .le 10, 3) := by decide +kernel
theorem dX5_fillNext_50 : decode cX5_fillNext 50 = .ok (.aload_n 1, 1) := by decide +kernel
theorem dX5_fillNext_51 : decode cX5_fillNext 51 = .ok (.getfield 51, 3) := by decide +kernel
theorem dX5_fillNext_54 : decode cX5_fillNext 54 = .ok (.goto 17, 3) := by decide +kernel
theorem dX5_fillNext_57 : decode cX5_fillNext 57 = .ok (.aload_n 0, 1) := by decide +kernel
theorem dX5_fillNext_58 : decode cX5_fillNext 58 = .ok (.getfield 20, 3) := by decide +kernel
theorem dX5_fillNext_61 : decode cX5_fillNext 61 = .ok (.iload_n 2, 1) := by decide +kernel
theorem dX5_fillNext_62 : decode cX5_fillNext 62 = .ok (.iaload, 1) := by decide +kernel
theorem dX5_fillNext_63 : decode cX5_fillNext 63 = .ok (.aload_n 1, 1) := by decide +kernel
theorem dX5_fillNext_64 : decode cX5_fillNext 64 = .ok (.iload_n 2, 1) := by decide +kernel
theorem dX5_fillNext_65 : decode cX5_fillNext 65 = .ok (.iload 4, 2) := by decide +kernel
theorem dX5_fillNext_67 : decode cX5_fillNext 67 = .ok (.invokevirtual 83, 3) := by decide +kernel
theorem dX5_fillNext_70 : decode cX5_fillNext 70 = .ok (.isub, 1) := by decide +kernel
theorem dX5_fillNext_71 : decode cX5_fillNext 71 = .ok (.istore 5, 2) := by decide +kernel
theorem dX5_fillNext_73 : decode cX5_fillNext 73 = .ok (.iload 5, 2) := by decide +kernel
theorem dX5_fillNext_75 : decode cX5_fillNext 75 = .ok (.aload_n 0, 1) := by decide +kernel
theorem dX5_fillNext_76 : decode cX5_fillNext 76 = .ok (.getfield 20, 3) := by decide +kernel
theorem dX5_fillNext_79 : decode cX5_fillNext 79 = .ok (.iload 4, 2) := by decide +kernel
theorem dX5_fillNext_81 : decode cX5_fillNext 81 = .ok (.iaload, 1) := by decide +kernel
theorem dX5_fillNext_82 : decode cX5_fillNext 82 = .ok (.if_icmp .le 14, 3) := by decide +kernel
theorem dX5_fillNext_85 : decode cX5_fillNext 85 = .ok (.aload_n 0, 1) := by decide +kernel
theorem dX5_fillNext_86 : decode cX5_fillNext 86 = .ok (.getfield 20, 3) := by decide +kernel
theorem dX5_fillNext_89 : decode cX5_fillNext 89 = .ok (.iload 4, 2) := by decide +kernel
theorem dX5_fillNext_91 : decode cX5_fillNext 91 = .ok (.iload 5, 2) := by decide +kernel
theorem dX5_fillNext_93 : decode cX5_fillNext 93 = .ok (.iastore, 1) := by decide +kernel
theorem dX5_fillNext_94 : decode cX5_fillNext 94 = .ok (.iconst 1, 1) := by decide +kernel
theorem dX5_fillNext_95 : decode cX5_fillNext 95 = .ok (.istore_n 3, 1) := by decide +kernel
theorem dX5_fillNext_96 : decode cX5_fillNext 96 = .ok (.iinc 4 1, 3) := by decide +kernel
theorem dX5_fillNext_99 : decode cX5_fillNext 99 = .ok (.goto (-94), 3) := by decide +kernel
theorem dX5_fillNext_102 : decode cX5_fillNext 102 = .ok (.iload_n 3, 1) := by decide +kernel
theorem dX5_fillNext_103 : decode cX5_fillNext 103 = .ok (.ireturn, 1) := by decide +kernel
theorem dX5_nearest_0 : decode cX5_nearest 0 = .ok (.aload_n 0, 1) := by decide +kernel
theorem dX5_nearest_1 : decode cX5_nearest 1 = .ok (.getfield 20, 3) := by decide +kernel
theorem dX5_nearest_4 : decode cX5_nearest 4 = .ok (.ldc 29, 2) := by decide +kernel
theorem dX5_nearest_6 : decode cX5_nearest 6 = .ok (.invokestatic 30, 3) := by decide +kernel
theorem dX5_nearest_9 : decode cX5_nearest 9 = .ok (.aload_n 0, 1) := by decide +kernel
theorem dX5_nearest_10 : decode cX5_nearest 10 = .ok (.getfield 20, 3) := by decide +kernel
theorem dX5_nearest_13 : decode cX5_nearest 13 = .ok (.iload_n 2, 1) := by decide +kernel
theorem dX5_nearest_14 : decode cX5_nearest 14 = .ok (.iconst 0, 1) := by decide +kernel
theorem dX5_nearest_15 : decode cX5_nearest 15 = .ok (.iastore, 1) := by decide +kernel
theorem dX5_nearest_16 : decode cX5_nearest 16 = .ok (.iconst 0, 1) := by decide +kernel
theorem dX5_nearest_17 : decode cX5_nearest 17 = .ok (.istore 4, 2) := by decide +kernel
theorem dX5_nearest_19 : decode cX5_nearest 19 = .ok (.iload 4, 2) := by decide +kernel
theorem dX5_nearest_21 : decode cX5_nearest 21 = .ok (.bipush 9, 2) := by decide +kernel
theorem dX5_nearest_23 : decode cX5_nearest 23 = .ok (.if_icmp .ge 34, 3) := by decide +kernel
theorem dX5_nearest_26 : decode cX5_nearest 26 = .ok (.iconst 0, 1) := by decide +kernel
theorem dX5_nearest_27 : decode cX5_nearest 27 = .ok (.istore 5, 2) := by decide +kernel
theorem dX5_nearest_29 : decode cX5_nearest 29 = .ok (.iload 5, 2) := by decide +kernel
theorem dX5_nearest_31 : decode cX5_nearest 31 = .ok (.aload_n 1, 1) := by decide +kernel
theorem dX5_nearest_32 : decode cX5_nearest 32 = .ok (.getfield 23, 3) := by decide +kernel
theorem dX5_nearest_35 : decode cX5_nearest 35 = .ok (.if_icmp .ge 16, 3) := by decide +kernel
theorem dX5_nearest_38 : decode cX5_nearest 38 = .ok (.aload_n 0, 1) := by decide +kernel
theorem dX5_nearest_39 : decode cX5_nearest 39 = .ok (.aload_n 1, 1) := by decide +kernel
theorem dX5_nearest_40 : decode cX5_nearest 40 = .ok (.iload 5, 2) := by decide +kernel
theorem dX5_nearest_42 : decode cX5_nearest 42 = .ok (.invokevirtual 90, 3) := by decide +kernel
theorem dX5_nearest_45 : decode cX5_nearest 45 = .ok (.iinc 5 1, 3) := by decide +kernel
theorem dX5_nearest_48 : decode cX5_nearest 48 = .ok (.goto (-19), 3) := by decide +kernel
theorem dX5_nearest_51 : decode cX5_nearest 51 = .ok (.iinc 4 1, 3) := by decide +kernel
theorem dX5_nearest_54 : decode cX5_nearest 54 = .ok (.goto (-35), 3) := by decide +kernel
theorem dX5_nearest_57 : decode cX5_nearest 57 = .ok (.aload_n 0, 1) := by decide +kernel
theorem dX5_nearest_58 : decode cX5_nearest 58 = .ok (.getfield 20, 3) := by decide +kernel
theorem dX5_nearest_61 : decode cX5_nearest 61 = .ok (.iload_n 3, 1) := by decide +kernel
theorem dX5_nearest_62 : decode cX5_nearest 62 = .ok (.iaload, 1) := by decide +kernel
theorem dX5_nearest_63 : decode cX5_nearest 63 = .ok (.ldc 29, 2) := by decide +kernel
theorem dX5_nearest_65 : decode cX5_nearest 65 = .ok (.if_icmp .ne 8, 3) := by decide +kernel
theorem dX5_nearest_68 : decode cX5_nearest 68 = .ok (.bipush (-2), 2) := by decide +kernel
theorem dX5_nearest_70 : decode cX5_nearest 70 = .ok (.goto 9, 3) := by decide +kernel
theorem dX5_nearest_73 : decode cX5_nearest 73 = .ok (.aload_n 0, 1) := by decide +kernel
theorem dX5_nearest_74 : decode cX5_nearest 74 = .ok (.getfield 20, 3) := by decide +kernel
theorem dX5_nearest_77 : decode cX5_nearest 77 = .ok (.iload_n 3, 1) := by decide +kernel
theorem dX5_nearest_78 : decode cX5_nearest 78 = .ok (.iaload, 1) := by decide +kernel
theorem dX5_nearest_79 : decode cX5_nearest 79 = .ok (.ireturn, 1) := by decide +kernel
theorem dX5_nearNext_0 : decode cX5_nearNext 0 = .ok (.iconst 0, 1) := by decide +kernel
theorem dX5_nearNext_1 : decode cX5_nearNext 1 = .ok (.istore_n 3, 1) := by decide +kernel
theorem dX5_nearNext_2 : decode cX5_nearNext 2 = .ok (.iload_n 3, 1) := by decide +kernel
theorem dX5_nearNext_3 : decode cX5_nearNext 3 = .ok (.aload_n 1, 1) := by decide +kernel
theorem dX5_nearNext_4 : decode cX5_nearNext 4 = .ok (.getfield 23, 3) := by decide +kernel
theorem dX5_nearNext_7 : decode cX5_nearNext 7 = .ok (.if_icmp .ge 57, 3) := by decide +kernel
theorem dX5_nearNext_10 : decode cX5_nearNext 10 = .ok (.aload_n 1, 1) := by decide +kernel
theorem dX5_nearNext_11 : decode cX5_nearNext 11 = .ok (.iload_n 2, 1) := by decide +kernel
theorem dX5_nearNext_12 : decode cX5_nearNext 12 = .ok (.iload_n 3, 1) := by decide +kernel
theorem dX5_nearNext_13 : decode cX5_nearNext 13 = .ok (.invokevirtual 72, 3) := by decide +kernel
theorem dX5_nearNext_16 : decode cX5_nearNext 16 = .ok (.ifCond .eq 42, 3) := by decide +kernel
theorem dX5_nearNext_19 : decode cX5_nearNext 19 = .ok (.aload_n 0, 1) := by decide +kernel
theorem dX5_nearNext_20 : decode cX5_nearNext 20 = .ok (.getfield 20, 3) := by decide +kernel
theorem dX5_nearNext_23 : decode cX5_nearNext 23 = .ok (.iload_n 2, 1) := by decide +kernel
theorem dX5_nearNext_24 : decode cX5_nearNext 24 = .ok (.iaload, 1) := by decide +kernel
theorem dX5_nearNext_25 : decode cX5_nearNext 25 = .ok (.ldc 29, 2) := by decide +kernel
theorem dX5_nearNext_27 : decode cX5_nearNext 27 = .ok (.if_icmp .ge 31, 3) := by decide +kernel
theorem dX5_nearNext_30 : decode cX5_nearNext 30 = .ok (.aload_n 0, 1) := by decide +kernel
theorem dX5_nearNext_31 : decode cX5_nearNext 31 = .ok (.getfield 20, 3) := by decide +kernel
theorem dX5_nearNext_34 : decode cX5_nearNext 34 = .ok (.iload_n 3, 1) := by decide +kernel
theorem dX5_nearNext_35 : decode cX5_nearNext 35 = .ok (.aload_n 0, 1) := by decide +kernel
theorem dX5_nearNext_36 : decode cX5_nearNext 36 = .ok (.getfield 20, 3) := by decide +kernel
theorem dX5_nearNext_39 : decode cX5_nearNext 39 = .ok (.iload_n 3, 1) := by decide +kernel
theorem dX5_nearNext_40 : decode cX5_nearNext 40 = .ok (.iaload, 1) := by decide +kernel
theorem dX5_nearNext_41 : decode cX5_nearNext 41 = .ok (.aload_n 0, 1) := by decide +kernel
theorem dX5_nearNext_42 : decode cX5_nearNext 42 = .ok (.getfield 20, 3) := by decide +kernel
theorem dX5_nearNext_45 : decode cX5_nearNext 45 = .ok (.iload_n 2, 1) := by decide +kernel
theorem dX5_nearNext_46 : decode cX5_nearNext 46 = .ok (.iaload, 1) := by decide +kernel
theorem dX5_nearNext_47 : decode cX5_nearNext 47 = .ok (.aload_n 1, 1) := by decide +kernel
theorem dX5_nearNext_48 : decode cX5_nearNext 48 = .ok (.iload_n 2, 1) := by decide +kernel
theorem dX5_nearNext_49 : decode cX5_nearNext 49 = .ok (.iload_n 3, 1) := by decide +kernel
theorem dX5_nearNext_50 : decode cX5_nearNext 50 = .ok (.invokevirtual 83, 3) := by decide +kernel
theorem dX5_nearNext_53 : decode cX5_nearNext 53 = .ok (.iadd, 1) := by decide +kernel
theorem dX5_nearNext_54 : decode cX5_nearNext 54 = .ok (.invokestatic 57, 3) := by decide +kernel
theorem dX5_nearNext_57 : decode cX5_nearNext 57 = .ok (.iastore, 1) := by decide +kernel
theorem dX5_nearNext_58 : decode cX5_nearNext 58 = .ok (.iinc 3 1, 3) := by decide +kernel
theorem dX5_nearNext_61 : decode cX5_nearNext 61 = .ok (.goto (-59), 3) := by decide +kernel
theorem dX5_nearNext_64 : decode cX5_nearNext 64 = .ok (.return_, 1) := by decide +kernel
theorem dX6_init_0 : decode cX6_init 0 = .ok (.aload_n 0, 1) := by decide +kernel
theorem dX6_init_1 : decode cX6_init 1 = .ok (.invokespecial 3, 3) := by decide +kernel
theorem dX6_init_4 : decode cX6_init 4 = .ok (.aload_n 0, 1) := by decide +kernel
theorem dX6_init_5 : decode cX6_init 5 = .ok (.bipush 9, 2) := by decide +kernel
theorem dX6_init_7 : decode cX6_init 7 = .ok (.newarray .int, 2) := by decide +kernel
theorem dX6_init_9 : decode cX6_init 9 = .ok (.putfield 9, 3) := by decide +kernel
theorem dX6_init_12 : decode cX6_init 12 = .ok (.aload_n 0, 1) := by decide +kernel
theorem dX6_init_13 : decode cX6_init 13 = .ok (.bipush 41, 2) := by decide +kernel
theorem dX6_init_15 : decode cX6_init 15 = .ok (.newarray .long, 2) := by decide +kernel
theorem dX6_init_17 : decode cX6_init 17 = .ok (.putfield 15, 3) := by decide +kernel
theorem dX6_init_20 : decode cX6_init 20 = .ok (.aload_n 0, 1) := by decide +kernel
theorem dX6_init_21 : decode cX6_init 21 = .ok (.bipush 9, 2) := by decide +kernel
theorem dX6_init_23 : decode cX6_init 23 = .ok (.bipush 41, 2) := by decide +kernel
theorem dX6_init_25 : decode cX6_init 25 = .ok (.multianewarray 19 2, 4) := by decide +kernel
theorem dX6_init_29 : decode cX6_init 29 = .ok (.putfield 21, 3) := by decide +kernel
theorem dX6_init_32 : decode cX6_init 32 = .ok (.aload_n 0, 1) := by decide +kernel
theorem dX6_init_33 : decode cX6_init 33 = .ok (.bipush 10, 2) := by decide +kernel
theorem dX6_init_35 : decode cX6_init 35 = .ok (.bipush 41, 2) := by decide +kernel
theorem dX6_init_37 : decode cX6_init 37 = .ok (.multianewarray 24 2, 4) := by decide +kernel
theorem dX6_init_41 : decode cX6_init 41 = .ok (.putfield 26, 3) := by decide +kernel
theorem dX6_init_44 : decode cX6_init 44 = .ok (.return_, 1) := by decide +kernel
theorem dX6_forget_0 : decode cX6_forget 0 = .ok (.aload_n 0, 1) := by decide +kernel
theorem dX6_forget_1 : decode cX6_forget 1 = .ok (.getfield 9, 3) := by decide +kernel
theorem dX6_forget_4 : decode cX6_forget 4 = .ok (.iconst 0, 1) := by decide +kernel
theorem dX6_forget_5 : decode cX6_forget 5 = .ok (.invokestatic 29, 3) := by decide +kernel
theorem dX6_forget_8 : decode cX6_forget 8 = .ok (.return_, 1) := by decide +kernel
theorem dX6_failsAt_0 : decode cX6_failsAt 0 = .ok (.aload_n 1, 1) := by decide +kernel
theorem dX6_failsAt_1 : decode cX6_failsAt 1 = .ok (.getfield 35, 3) := by decide +kernel
theorem dX6_failsAt_4 : decode cX6_failsAt 4 = .ok (.istore_n 2, 1) := by decide +kernel
theorem dX6_failsAt_5 : decode cX6_failsAt 5 = .ok (.iconst 0, 1) := by decide +kernel
theorem dX6_failsAt_6 : decode cX6_failsAt 6 = .ok (.istore_n 3, 1) := by decide +kernel
theorem dX6_failsAt_7 : decode cX6_failsAt 7 = .ok (.iload_n 3, 1) := by decide +kernel
theorem dX6_failsAt_8 : decode cX6_failsAt 8 = .ok (.aload_n 1, 1) := by decide +kernel
theorem dX6_failsAt_9 : decode cX6_failsAt 9 = .ok (.getfield 41, 3) := by decide +kernel
theorem dX6_failsAt_12 : decode cX6_failsAt 12 = .ok (.iconst 1, 1) := by decide +kernel
theorem dX6_failsAt_13 : decode cX6_failsAt 13 = .ok (.isub, 1) := by decide +kernel
theorem dX6_failsAt_14 : decode cX6_failsAt 14 = .ok (.if_icmp .ge 62, 3) := by decide +kernel
theorem dX6_failsAt_17 : decode cX6_failsAt 17 = .ok (.iload_n 2, 1) := by decide +kernel
theorem dX6_failsAt_18 : decode cX6_failsAt 18 = .ok (.aload_n 0, 1) := by decide +kernel
theorem dX6_failsAt_19 : decode cX6_failsAt 19 = .ok (.getfield 9, 3) := by decide +kernel
theorem dX6_failsAt_22 : decode cX6_failsAt 22 = .ok (.iload_n 3, 1) := by decide +kernel
theorem dX6_failsAt_23 : decode cX6_failsAt 23 = .ok (.iaload, 1) := by decide +kernel
theorem dX6_failsAt_24 : decode cX6_failsAt 24 = .ok (.iadd, 1) := by decide +kernel
theorem dX6_failsAt_25 : decode cX6_failsAt 25 = .ok (.istore_n 2, 1) := by decide +kernel
theorem dX6_failsAt_26 : decode cX6_failsAt 26 = .ok (.aload_n 0, 1) := by decide +kernel
theorem dX6_failsAt_27 : decode cX6_failsAt 27 = .ok (.getfield 9, 3) := by decide +kernel
theorem dX6_failsAt_30 : decode cX6_failsAt 30 = .ok (.iload_n 3, 1) := by decide +kernel
theorem dX6_failsAt_31 : decode cX6_failsAt 31 = .ok (.iaload, 1) := by decide +kernel
theorem dX6_failsAt_32 : decode cX6_failsAt 32 = .ok (.ifCond .le 11, 3) := by decide +kernel
theorem dX6_failsAt_35 : decode cX6_failsAt 35 = .ok (.aload_n 1, 1) := by decide +kernel
theorem dX6_failsAt_36 : decode cX6_failsAt 36 = .ok (.iload_n 3, 1) := by decide +kernel
theorem dX6_failsAt_37 : decode cX6_failsAt 37 = .ok (.invokevirtual 44, 3) := by decide +kernel
theorem dX6_failsAt_40 : decode cX6_failsAt 40 = .ok (.ifCond .eq 20, 3) := by decide +kernel
theorem dX6_failsAt_43 : decode cX6_failsAt 43 = .ok (.iload_n 2, 1) := by decide +kernel
theorem dX6_failsAt_44 : decode cX6_failsAt 44 = .ok (.aload_n 1, 1) := by decide +kernel
theorem dX6_failsAt_45 : decode cX6_failsAt 45 = .ok (.getfield 48, 3) := by decide +kernel
theorem dX6_failsAt_48 : decode cX6_failsAt 48 = .ok (.if_icmp .gt 12, 3) := by decide +kernel
theorem dX6_failsAt_51 : decode cX6_failsAt 51 = .ok (.iload_n 2, 1) := by decide +kernel
theorem dX6_failsAt_52 : decode cX6_failsAt 52 = .ok (.aload_n 1, 1) := by decide +kernel
theorem dX6_failsAt_53 : decode cX6_failsAt 53 = .ok (.iload_n 3, 1) := by decide +kernel
theorem dX6_failsAt_54 : decode cX6_failsAt 54 = .ok (.invokevirtual 51, 3) := by decide +kernel
theorem dX6_failsAt_57 : decode cX6_failsAt 57 = .ok (.if_icmp .ge 5, 3) := by decide +kernel
theorem dX6_failsAt_60 : decode cX6_failsAt 60 = .ok (.iload_n 3, 1) := by decide +kernel
theorem dX6_failsAt_61 : decode cX6_failsAt 61 = .ok (.ireturn, 1) := by decide +kernel
theorem dX6_failsAt_62 : decode cX6_failsAt 62 = .ok (.iload_n 2, 1) := by decide +kernel
theorem dX6_failsAt_63 : decode cX6_failsAt 63 = .ok (.aload_n 1, 1) := by decide +kernel
theorem dX6_failsAt_64 : decode cX6_failsAt 64 = .ok (.iload_n 3, 1) := by decide +kernel
theorem dX6_failsAt_65 : decode cX6_failsAt 65 = .ok (.invokevirtual 51, 3) := by decide +kernel
theorem dX6_failsAt_68 : decode cX6_failsAt 68 = .ok (.isub, 1) := by decide +kernel
theorem dX6_failsAt_69 : decode cX6_failsAt 69 = .ok (.istore_n 2, 1) := by decide +kernel
theorem dX6_failsAt_70 : decode cX6_failsAt 70 = .ok (.iinc 3 1, 3) := by decide +kernel
theorem dX6_failsAt_73 : decode cX6_failsAt 73 = .ok (.goto (-66), 3) := by decide +kernel
theorem dX6_failsAt_76 : decode cX6_failsAt 76 = .ok (.bipush (-2), 2) := by decide +kernel
theorem dX6_failsAt_78 : decode cX6_failsAt 78 = .ok (.ireturn, 1) := by decide +kernel
theorem dX6_pence_0 : decode cX6_pence 0 = .ok (.iconst 0, 1) := by decide +kernel
theorem dX6_pence_1 : decode cX6_pence 1 = .ok (.istore_n 2, 1) := by decide +kernel
theorem dX6_pence_2 : decode cX6_pence 2 = .ok (.iconst 0, 1) := by decide +kernel
theorem dX6_pence_3 : decode cX6_pence 3 = .ok (.istore_n 3, 1) := by decide +kernel
theorem dX6_pence_4 : decode cX6_pence 4 = .ok (.iload_n 3, 1) := by decide +kernel
theorem dX6_pence_5 : decode cX6_pence 5 = .ok (.aload_n 1, 1) := by decide +kernel
theorem dX6_pence_6 : decode cX6_pence 6 = .ok (.getfield 41, 3) := by decide +kernel
theorem dX6_pence_9 : decode cX6_pence 9 = .ok (.iconst 1, 1) := by decide +kernel
theorem dX6_pence_10 : decode cX6_pence 10 = .ok (.isub, 1) := by decide +kernel
theorem dX6_pence_11 : decode cX6_pence 11 = .ok (.if_icmp .ge 43, 3) := by decide +kernel
theorem dX6_pence_14 : decode cX6_pence 14 = .ok (.iload_n 2, 1) := by decide +kernel
theorem dX6_pence_15 : decode cX6_pence 15 = .ok (.aload_n 0, 1) := by decide +kernel
theorem dX6_pence_16 : decode cX6_pence 16 = .ok (.getfield 9, 3) := by decide +kernel
theorem dX6_pence_19 : decode cX6_pence 19 = .ok (.iload_n 3, 1) := by decide +kernel
theorem dX6_pence_20 : decode cX6_pence 20 = .ok (.iaload, 1) := by decide +kernel
theorem dX6_pence_21 : decode cX6_pence 21 = .ok (.ifCond .le 24, 3) := by decide +kernel
theorem dX6_pence_24 : decode cX6_pence 24 = .ok (.aload_n 0, 1) := by decide +kernel
theorem dX6_pence_25 : decode cX6_pence 25 = .ok (.getfield 9, 3) := by decide +kernel
theorem dX6_pence_28 : decode cX6_pence 28 = .ok (.iload_n 3, 1) := by decide +kernel
theorem dX6_pence_29 : decode cX6_pence 29 = .ok (.iaload, 1) := by decide +kernel
theorem dX6_pence_30 : decode cX6_pence 30 = .ok (.aload_n 1, 1) := by decide +kernel
theorem dX6_pence_31 : decode cX6_pence 31 = .ok (.iload_n 3, 1) := by decide +kernel
theorem dX6_pence_32 : decode cX6_pence 32 = .ok (.iconst 0, 1) := by decide +kernel
theorem dX6_pence_33 : decode cX6_pence 33 = .ok (.invokevirtual 55, 3) := by decide +kernel
theorem dX6_pence_36 : decode cX6_pence 36 = .ok (.imul, 1) := by decide +kernel
theorem dX6_pence_37 : decode cX6_pence 37 = .ok (.aload_n 1, 1) := by decide +kernel
theorem dX6_pence_38 : decode cX6_pence 38 = .ok (.getfield 59, 3) := by decide +kernel
theorem dX6_pence_41 : decode cX6_pence 41 = .ok (.iadd, 1) := by decide +kernel
theorem dX6_pence_42 : decode cX6_pence 42 = .ok (.goto 4, 3) := by decide +kernel
theorem dX6_pence_45 : decode cX6_pence 45 = .ok (.iconst 0, 1) := by decide +kernel
theorem dX6_pence_46 : decode cX6_pence 46 = .ok (.iadd, 1) := by decide +kernel
theorem dX6_pence_47 : decode cX6_pence 47 = .ok (.istore_n 2, 1) := by decide +kernel
theorem dX6_pence_48 : decode cX6_pence 48 = .ok (.iinc 3 1, 3) := by decide +kernel
theorem dX6_pence_51 : decode cX6_pence 51 = .ok (.goto (-47), 3) := by decide +kernel
theorem dX6_pence_54 : decode cX6_pence 54 = .ok (.iload_n 2, 1) := by decide +kernel
theorem dX6_pence_55 : decode cX6_pence 55 = .ok (.ireturn, 1) := by decide +kernel
theorem dX6_minutes_0 : decode cX6_minutes 0 = .ok (.iconst 0, 1) := by decide +kernel
theorem dX6_minutes_1 : decode cX6_minutes 1 = .ok (.istore_n 2, 1) := by decide +kernel
theorem dX6_minutes_2 : decode cX6_minutes 2 = .ok (.iconst 0, 1) := by decide +kernel
theorem dX6_minutes_3 : decode cX6_minutes 3 = .ok (.istore_n 3, 1) := by decide +kernel
theorem dX6_minutes_4 : decode cX6_minutes 4 = .ok (.iload_n 3, 1) := by decide +kernel
theorem dX6_minutes_5 : decode cX6_minutes 5 = .ok (.aload_n 1, 1) := by decide +kernel
theorem dX6_minutes_6 : decode cX6_minutes 6 = .ok (.getfield 41, 3) := by decide +kernel
theorem dX6_minutes_9 : decode cX6_minutes 9 = .ok (.iconst 1, 1) := by decide +kernel
theorem dX6_minutes_10 : decode cX6_minutes 10 = .ok (.isub, 1) := by decide +kernel
theorem dX6_minutes_11 : decode cX6_minutes 11 = .ok (.if_icmp .ge 35, 3) := by decide +kernel
theorem dX6_minutes_14 : decode cX6_minutes 14 = .ok (.iload_n 2, 1) := by decide +kernel
theorem dX6_minutes_15 : decode cX6_minutes 15 = .ok (.aload_n 1, 1) := by decide +kernel
theorem dX6_minutes_16 : decode cX6_minutes 16 = .ok (.iload_n 3, 1) := by decide +kernel
theorem dX6_minutes_17 : decode cX6_minutes 17 = .ok (.invokevirtual 62, 3) := by decide +kernel
theorem dX6_minutes_20 : decode cX6_minutes 20 = .ok (.aload_n 0, 1) := by decide +kernel
theorem dX6_minutes_21 : decode cX6_minutes 21 = .ok (.getfield 9, 3) := by decide +kernel
theorem dX6_minutes_24 : decode cX6_minutes 24 = .ok (.iload_n 3, 1) := by decide +kernel
theorem dX6_minutes_25 : decode cX6_minutes 25 = .ok (.iaload, 1) := by decide +kernel
theorem dX6_minutes_26 : decode cX6_minutes 26 = .ok (.ifCond .le 10, 3) := by decide +kernel
theorem dX6_minutes_29 : decode cX6_minutes 29 = .ok (.aload_n 1, 1) := by decide +kernel
theorem dX6_minutes_30 : decode cX6_minutes 30 = .ok (.getfield 65, 3) := by decide +kernel
theorem dX6_minutes_33 : decode cX6_minutes 33 = .ok (.goto 4, 3) := by decide +kernel
theorem dX6_minutes_36 : decode cX6_minutes 36 = .ok (.iconst 0, 1) := by decide +kernel
theorem dX6_minutes_37 : decode cX6_minutes 37 = .ok (.iadd, 1) := by decide +kernel
theorem dX6_minutes_38 : decode cX6_minutes 38 = .ok (.iadd, 1) := by decide +kernel
theorem dX6_minutes_39 : decode cX6_minutes 39 = .ok (.istore_n 2, 1) := by decide +kernel
theorem dX6_minutes_40 : decode cX6_minutes 40 = .ok (.iinc 3 1, 3) := by decide +kernel
theorem dX6_minutes_43 : decode cX6_minutes 43 = .ok (.goto (-39), 3) := by decide +kernel
theorem dX6_minutes_46 : decode cX6_minutes 46 = .ok (.iload_n 2, 1) := by decide +kernel
theorem dX6_minutes_47 : decode cX6_minutes 47 = .ok (.ireturn, 1) := by decide +kernel
theorem dX6_leastCost_0 : decode cX6_leastCost 0 = .ok (.aload_n 0, 1) := by decide +kernel
theorem dX6_leastCost_1 : decode cX6_leastCost 1 = .ok (.aload_n 1, 1) := by decide +kernel
theorem dX6_leastCost_2 : decode cX6_leastCost 2 = .ok (.iload_n 2, 1) := by decide +kernel
theorem dX6_leastCost_3 : decode cX6_leastCost 3 = .ok (.invokevirtual 68, 3) := by decide +kernel
theorem dX6_leastCost_6 : decode cX6_leastCost 6 = .ok (.aload_n 0, 1) := by decide +kernel
theorem dX6_leastCost_7 : decode cX6_leastCost 7 = .ok (.getfield 15, 3) := by decide +kernel
theorem dX6_leastCost_10 : decode cX6_leastCost 10 = .ok (.aload_n 1, 1) := by decide +kernel
theorem dX6_leastCost_11 : decode cX6_leastCost 11 = .ok (.getfield 35, 3) := by decide +kernel
theorem dX6_leastCost_14 : decode cX6_leastCost 14 = .ok (.laload, 1) := by decide +kernel
theorem dX6_leastCost_15 : decode cX6_leastCost 15 = .ok (.invokestatic 72, 3) := by decide +kernel
theorem dX6_leastCost_18 : decode cX6_leastCost 18 = .ok (.ireturn, 1) := by decide +kernel
theorem dX6_answer_0 : decode cX6_answer 0 = .ok (.lload_n 0, 1) := by decide +kernel
theorem dX6_answer_1 : decode cX6_answer 1 = .ok (.ldc2_w 76, 3) := by decide +kernel
theorem dX6_answer_4 : decode cX6_answer 4 = .ok (.lcmp, 1) := by decide +kernel
theorem dX6_answer_5 : decode cX6_answer 5 = .ok (.ifCond .lt 8, 3) := by decide +kernel
theorem dX6_answer_8 : decode cX6_answer 8 = .ok (.bipush (-2), 2) := by decide +kernel
theorem dX6_answer_10 : decode cX6_answer 10 = .ok (.goto 5, 3) := by decide +kernel
theorem dX6_answer_13 : decode cX6_answer 13 = .ok (.lload_n 0, 1) := by decide +kernel
theorem dX6_answer_14 : decode cX6_answer 14 = .ok (.l2i, 1) := by decide +kernel
theorem dX6_answer_15 : decode cX6_answer 15 = .ok (.ireturn, 1) := by decide +kernel
theorem dX6_look_0 : decode cX6_look 0 = .ok (.aload_n 0, 1) := by decide +kernel
theorem dX6_look_1 : decode cX6_look 1 = .ok (.getfield 15, 3) := by decide +kernel
theorem dX6_look_4 : decode cX6_look 4 = .ok (.lconst 0, 1) := by decide +kernel
theorem dX6_look_5 : decode cX6_look 5 = .ok (.invokestatic 78, 3) := by decide +kernel
theorem dX6_look_8 : decode cX6_look 8 = .ok (.aload_n 1, 1) := by decide +kernel
theorem dX6_look_9 : decode cX6_look 9 = .ok (.getfield 41, 3) := by decide +kernel
theorem dX6_look_12 : decode cX6_look 12 = .ok (.iconst 2, 1) := by decide +kernel
theorem dX6_look_13 : decode cX6_look 13 = .ok (.isub, 1) := by decide +kernel
theorem dX6_look_14 : decode cX6_look 14 = .ok (.istore_n 3, 1) := by decide +kernel
theorem dX6_look_15 : decode cX6_look 15 = .ok (.iload_n 3, 1) := by decide +kernel
theorem dX6_look_16 : decode cX6_look 16 = .ok (.ifCond .lt 65, 3) := by decide +kernel
theorem dX6_look_19 : decode cX6_look 19 = .ok (.aload_n 0, 1) := by decide +kernel
theorem dX6_look_20 : decode cX6_look 20 = .ok (.getfield 15, 3) := by decide +kernel
theorem dX6_look_23 : decode cX6_look 23 = .ok (.aload_n 1, 1) := by decide +kernel
theorem dX6_look_24 : decode cX6_look 24 = .ok (.getfield 48, 3) := by decide +kernel
theorem dX6_look_27 : decode cX6_look 27 = .ok (.aload_n 1, 1) := by decide +kernel
theorem dX6_look_28 : decode cX6_look 28 = .ok (.iload_n 3, 1) := by decide +kernel
theorem dX6_look_29 : decode cX6_look 29 = .ok (.invokevirtual 51, 3) := by decide +kernel
theorem dX6_look_32 : decode cX6_look 32 = .ok (.ldc2_w 76, 3) := by decide +kernel
theorem dX6_look_35 : decode cX6_look 35 = .ok (.invokestatic 81, 3) := by decide +kernel
theorem dX6_look_38 : decode cX6_look 38 = .ok (.aload_n 0, 1) := by decide +kernel
theorem dX6_look_39 : decode cX6_look 39 = .ok (.getfield 21, 3) := by decide +kernel
theorem dX6_look_42 : decode cX6_look 42 = .ok (.iload_n 3, 1) := by decide +kernel
theorem dX6_look_43 : decode cX6_look 43 = .ok (.aaload, 1) := by decide +kernel
theorem dX6_look_44 : decode cX6_look 44 = .ok (.astore 4, 2) := by decide +kernel
theorem dX6_look_46 : decode cX6_look 46 = .ok (.iload_n 3, 1) := by decide +kernel
theorem dX6_look_47 : decode cX6_look 47 = .ok (.iload_n 2, 1) := by decide +kernel
theorem dX6_look_48 : decode cX6_look 48 = .ok (.if_icmp .eq 22, 3) := by decide +kernel
theorem dX6_look_51 : decode cX6_look 51 = .ok (.aload_n 1, 1) := by decide +kernel
theorem dX6_look_52 : decode cX6_look 52 = .ok (.iload_n 3, 1) := by decide +kernel
theorem dX6_look_53 : decode cX6_look 53 = .ok (.invokevirtual 44, 3) := by decide +kernel
theorem dX6_look_56 : decode cX6_look 56 = .ok (.ifCond .eq 14, 3) := by decide +kernel
theorem dX6_look_59 : decode cX6_look 59 = .ok (.aload_n 0, 1) := by decide +kernel
theorem dX6_look_60 : decode cX6_look 60 = .ok (.aload_n 1, 1) := by decide +kernel
theorem dX6_look_61 : decode cX6_look 61 = .ok (.iload_n 3, 1) := by decide +kernel
theorem dX6_look_62 : decode cX6_look 62 = .ok (.aload 4, 2) := by decide +kernel
theorem dX6_look_64 : decode cX6_look 64 = .ok (.invokevirtual 87, 3) := by decide +kernel
theorem dX6_look_67 : decode cX6_look 67 = .ok (.goto 8, 3) := by decide +kernel
theorem dX6_look_70 : decode cX6_look 70 = .ok (.aload 4, 2) := by decide +kernel
theorem dX6_look_72 : decode cX6_look 72 = .ok (.invokestatic 91, 3) := by decide +kernel
theorem dX6_look_75 : decode cX6_look 75 = .ok (.iinc 3 (-1), 3) := by decide +kernel
theorem dX6_look_78 : decode cX6_look 78 = .ok (.goto (-63), 3) := by decide +kernel
theorem dX6_look_81 : decode cX6_look 81 = .ok (.return_, 1) := by decide +kernel
theorem dX6_buyBest_0 : decode cX6_buyBest 0 = .ok (.aload_n 1, 1) := by decide +kernel
theorem dX6_buyBest_1 : decode cX6_buyBest 1 = .ok (.iload_n 2, 1) := by decide +kernel
theorem dX6_buyBest_2 : decode cX6_buyBest 2 = .ok (.iconst 0, 1) := by decide +kernel
theorem dX6_buyBest_3 : decode cX6_buyBest 3 = .ok (.invokevirtual 55, 3) := by decide +kernel
theorem dX6_buyBest_6 : decode cX6_buyBest 6 = .ok (.istore 4, 2) := by decide +kernel
theorem dX6_buyBest_8 : decode cX6_buyBest 8 = .ok (.aload_n 0, 1) := by decide +kernel
theorem dX6_buyBest_9 : decode cX6_buyBest 9 = .ok (.getfield 15, 3) := by decide +kernel
theorem dX6_buyBest_12 : decode cX6_buyBest 12 = .ok (.aload_n 1, 1) := by decide +kernel
theorem dX6_buyBest_13 : decode cX6_buyBest 13 = .ok (.getfield 48, 3) := by decide +kernel
theorem dX6_buyBest_16 : decode cX6_buyBest 16 = .ok (.iload 4, 2) := by decide +kernel
theorem dX6_buyBest_18 : decode cX6_buyBest 18 = .ok (.i2l, 1) := by decide +kernel
theorem dX6_buyBest_19 : decode cX6_buyBest 19 = .ok (.aload_n 1, 1) := by decide +kernel
theorem dX6_buyBest_20 : decode cX6_buyBest 20 = .ok (.getfield 59, 3) := by decide +kernel
theorem dX6_buyBest_23 : decode cX6_buyBest 23 = .ok (.i2l, 1) := by decide +kernel
theorem dX6_buyBest_24 : decode cX6_buyBest 24 = .ok (.aload_n 3, 1) := by decide +kernel
theorem dX6_buyBest_25 : decode cX6_buyBest 25 = .ok (.invokestatic 95, 3) := by decide +kernel
theorem dX6_buyBest_28 : decode cX6_buyBest 28 = .ok (.iconst 0, 1) := by decide +kernel
theorem dX6_buyBest_29 : decode cX6_buyBest 29 = .ok (.istore 5, 2) := by decide +kernel
theorem dX6_buyBest_31 : decode cX6_buyBest 31 = .ok (.iload 5, 2) := by decide +kernel
theorem dX6_buyBest_33 : decode cX6_buyBest 33 = .ok (.aload_n 1, 1) := by decide +kernel
theorem dX6_buyBest_34 : decode cX6_buyBest 34 = .ok (.getfield 48, 3) := by decide +kernel
theorem dX6_buyBest_37 : decode cX6_buyBest 37 = .ok (.if_icmp .gt 37, 3) := by decide +kernel
theorem dX6_buyBest_40 : decode cX6_buyBest 40 = .ok (.aload_n 0, 1) := by decide +kernel
theorem dX6_buyBest_41 : decode cX6_buyBest 41 = .ok (.getfield 15, 3) := by decide +kernel
theorem dX6_buyBest_44 : decode cX6_buyBest 44 = .ok (.iload 5, 2) := by decide +kernel
theorem dX6_buyBest_46 : decode cX6_buyBest 46 = .ok (.aload_n 0, 1) := by decide +kernel
theorem dX6_buyBest_47 : decode cX6_buyBest 47 = .ok (.getfield 15, 3) := by decide +kernel
theorem dX6_buyBest_50 : decode cX6_buyBest 50 = .ok (.iload 5, 2) := by decide +kernel
theorem dX6_buyBest_52 : decode cX6_buyBest 52 = .ok (.aload_n 3, 1) := by decide +kernel
theorem dX6_buyBest_53 : decode cX6_buyBest 53 = .ok (.iload 5, 2) := by decide +kernel
theorem dX6_buyBest_55 : decode cX6_buyBest 55 = .ok (.iaload, 1) := by decide +kernel
theorem dX6_buyBest_56 : decode cX6_buyBest 56 = .ok (.iload 4, 2) := by decide +kernel
theorem dX6_buyBest_58 : decode cX6_buyBest 58 = .ok (.i2l, 1) := by decide +kernel
theorem dX6_buyBest_59 : decode cX6_buyBest 59 = .ok (.aload_n 1, 1) := by decide +kernel
theorem dX6_buyBest_60 : decode cX6_buyBest 60 = .ok (.getfield 59, 3) := by decide +kernel
theorem dX6_buyBest_63 : decode cX6_buyBest 63 = .ok (.i2l, 1) := by decide +kernel
theorem dX6_buyBest_64 : decode cX6_buyBest 64 = .ok (.invokestatic 99, 3) := by decide +kernel
theorem dX6_buyBest_67 : decode cX6_buyBest 67 = .ok (.lastore, 1) := by decide +kernel
theorem dX6_buyBest_68 : decode cX6_buyBest 68 = .ok (.iinc 5 1, 3) := by decide +kernel
theorem dX6_buyBest_71 : decode cX6_buyBest 71 = .ok (.goto (-40), 3) := by decide +kernel
theorem dX6_buyBest_74 : decode cX6_buyBest 74 = .ok (.return_, 1) := by decide +kernel
theorem dX6_buyNothing_0 : decode cX6_buyNothing 0 = .ok (.iconst 0, 1) := by decide +kernel
theorem dX6_buyNothing_1 : decode cX6_buyNothing 1 = .ok (.istore_n 1, 1) := by decide +kernel
theorem dX6_buyNothing_2 : decode cX6_buyNothing 2 = .ok (.iload_n 1, 1) := by decide +kernel
theorem dX6_buyNothing_3 : decode cX6_buyNothing 3 = .ok (.aload_n 0, 1) := by decide +kernel
theorem dX6_buyNothing_4 : decode cX6_buyNothing 4 = .ok (.arraylength, 1) := by decide +kernel
theorem dX6_buyNothing_5 : decode cX6_buyNothing 5 = .ok (.if_icmp .ge 13, 3) := by decide +kernel
theorem dX6_buyNothing_8 : decode cX6_buyNothing 8 = .ok (.aload_n 0, 1) := by decide +kernel
theorem dX6_buyNothing_9 : decode cX6_buyNothing 9 = .ok (.iload_n 1, 1) := by decide +kernel
theorem dX6_buyNothing_10 : decode cX6_buyNothing 10 = .ok (.iload_n 1, 1) := by decide +kernel
theorem dX6_buyNothing_11 : decode cX6_buyNothing 11 = .ok (.iastore, 1) := by decide +kernel
theorem dX6_buyNothing_12 : decode cX6_buyNothing 12 = .ok (.iinc 1 1, 3) := by decide +kernel
theorem dX6_buyNothing_15 : decode cX6_buyNothing 15 = .ok (.goto (-13), 3) := by decide +kernel
theorem dX6_buyNothing_18 : decode cX6_buyNothing 18 = .ok (.return_, 1) := by decide +kernel
theorem dX6_cheapestPints_0 : decode cX6_cheapestPints 0 = .ok (.aload_n 0, 1) := by decide +kernel
theorem dX6_cheapestPints_1 : decode cX6_cheapestPints 1 = .ok (.aload_n 1, 1) := by decide +kernel
theorem dX6_cheapestPints_2 : decode cX6_cheapestPints 2 = .ok (.iconst (-1), 1) := by decide +kernel
theorem dX6_cheapestPints_3 : decode cX6_cheapestPints 3 = .ok (.invokevirtual 103, 3) := by decide +kernel
theorem dX6_cheapestPints_6 : decode cX6_cheapestPints 6 = .ok (.bipush (-2), 2) := by decide +kernel
theorem dX6_cheapestPints_8 : decode cX6_cheapestPints 8 = .ok (.if_icmp .ne 6, 3) := by decide +kernel
theorem dX6_cheapestPints_11 : decode cX6_cheapestPints 11 = .ok (.bipush (-2), 2) := by decide +kernel
theorem dX6_cheapestPints_13 : decode cX6_cheapestPints 13 = .ok (.ireturn, 1) := by decide +kernel
theorem dX6_cheapestPints_14 : decode cX6_cheapestPints 14 = .ok (.aload_n 0, 1) := by decide +kernel
theorem dX6_cheapestPints_15 : decode cX6_cheapestPints 15 = .ok (.aload_n 1, 1) := by decide +kernel
theorem dX6_cheapestPints_16 : decode cX6_cheapestPints 16 = .ok (.iload_n 2, 1) := by decide +kernel
theorem dX6_cheapestPints_17 : decode cX6_cheapestPints 17 = .ok (.invokevirtual 107, 3) := by decide +kernel
theorem dX6_cheapestPints_20 : decode cX6_cheapestPints 20 = .ok (.istore_n 3, 1) := by decide +kernel
theorem dX6_cheapestPints_21 : decode cX6_cheapestPints 21 = .ok (.aload_n 0, 1) := by decide +kernel
theorem dX6_cheapestPints_22 : decode cX6_cheapestPints 22 = .ok (.getfield 21, 3) := by decide +kernel
theorem dX6_cheapestPints_25 : decode cX6_cheapestPints 25 = .ok (.iload_n 2, 1) := by decide +kernel
theorem dX6_cheapestPints_26 : decode cX6_cheapestPints 26 = .ok (.aaload, 1) := by decide +kernel
theorem dX6_cheapestPints_27 : decode cX6_cheapestPints 27 = .ok (.iload_n 3, 1) := by decide +kernel
theorem dX6_cheapestPints_28 : decode cX6_cheapestPints 28 = .ok (.iaload, 1) := by decide +kernel
theorem dX6_cheapestPints_29 : decode cX6_cheapestPints 29 = .ok (.iload_n 3, 1) := by decide +kernel
theorem dX6_cheapestPints_30 : decode cX6_cheapestPints 30 = .ok (.isub, 1) := by decide +kernel
theorem dX6_cheapestPints_31 : decode cX6_cheapestPints 31 = .ok (.ireturn, 1) := by decide +kernel
theorem dX6_cheapestRest_0 : decode cX6_cheapestRest 0 = .ok (.aload_n 0, 1) := by decide +kernel
theorem dX6_cheapestRest_1 : decode cX6_cheapestRest 1 = .ok (.aload_n 1, 1) := by decide +kernel
theorem dX6_cheapestRest_2 : decode cX6_cheapestRest 2 = .ok (.iconst (-1), 1) := by decide +kernel
theorem dX6_cheapestRest_3 : decode cX6_cheapestRest 3 = .ok (.invokevirtual 103, 3) := by decide +kernel
theorem dX6_cheapestRest_6 : decode cX6_cheapestRest 6 = .ok (.bipush (-2), 2) := by decide +kernel
theorem dX6_cheapestRest_8 : decode cX6_cheapestRest 8 = .ok (.if_icmp .ne 6, 3) := by decide +kernel
theorem dX6_cheapestRest_11 : decode cX6_cheapestRest 11 = .ok (.bipush (-2), 2) := by decide +kernel
theorem dX6_cheapestRest_13 : decode cX6_cheapestRest 13 = .ok (.ireturn, 1) := by decide +kernel
theorem dX6_cheapestRest_14 : decode cX6_cheapestRest 14 = .ok (.aload_n 0, 1) := by decide +kernel
theorem dX6_cheapestRest_15 : decode cX6_cheapestRest 15 = .ok (.aload_n 1, 1) := by decide +kernel
theorem dX6_cheapestRest_16 : decode cX6_cheapestRest 16 = .ok (.aload_n 1, 1) := by decide +kernel
theorem dX6_cheapestRest_17 : decode cX6_cheapestRest 17 = .ok (.getfield 41, 3) := by decide +kernel
theorem dX6_cheapestRest_20 : decode cX6_cheapestRest 20 = .ok (.iconst 1, 1) := by decide +kernel
theorem dX6_cheapestRest_21 : decode cX6_cheapestRest 21 = .ok (.isub, 1) := by decide +kernel
theorem dX6_cheapestRest_22 : decode cX6_cheapestRest 22 = .ok (.invokevirtual 107, 3) := by decide +kernel
theorem dX6_cheapestRest_25 : decode cX6_cheapestRest 25 = .ok (.ireturn, 1) := by decide +kernel
theorem dX6_levelOnComing_0 : decode cX6_levelOnComing 0 = .ok (.aload_n 1, 1) := by decide +kernel
theorem dX6_levelOnComing_1 : decode cX6_levelOnComing 1 = .ok (.getfield 35, 3) := by decide +kernel
theorem dX6_levelOnComing_4 : decode cX6_levelOnComing 4 = .ok (.istore_n 3, 1) := by decide +kernel
theorem dX6_levelOnComing_5 : decode cX6_levelOnComing 5 = .ok (.iconst 0, 1) := by decide +kernel
theorem dX6_levelOnComing_6 : decode cX6_levelOnComing 6 = .ok (.istore 4, 2) := by decide +kernel
theorem dX6_levelOnComing_8 : decode cX6_levelOnComing 8 = .ok (.iload 4, 2) := by decide +kernel
theorem dX6_levelOnComing_10 : decode cX6_levelOnComing 10 = .ok (.iload_n 2, 1) := by decide +kernel
theorem dX6_levelOnComing_11 : decode cX6_levelOnComing 11 = .ok (.if_icmp .ge 30, 3) := by decide +kernel
theorem dX6_levelOnComing_14 : decode cX6_levelOnComing 14 = .ok (.iconst 0, 1) := by decide +kernel
theorem dX6_levelOnComing_15 : decode cX6_levelOnComing 15 = .ok (.aload_n 0, 1) := by decide +kernel
theorem dX6_levelOnComing_16 : decode cX6_levelOnComing 16 = .ok (.getfield 21, 3) := by decide +kernel
theorem dX6_levelOnComing_19 : decode cX6_levelOnComing 19 = .ok (.iload 4, 2) := by decide +kernel
theorem dX6_levelOnComing_21 : decode cX6_levelOnComing 21 = .ok (.aaload, 1) := by decide +kernel
theorem dX6_levelOnComing_22 : decode cX6_levelOnComing 22 = .ok (.iload_n 3, 1) := by decide +kernel
theorem dX6_levelOnComing_23 : decode cX6_levelOnComing 23 = .ok (.iaload, 1) := by decide +kernel
theorem dX6_levelOnComing_24 : decode cX6_levelOnComing 24 = .ok (.aload_n 1, 1) := by decide +kernel
theorem dX6_levelOnComing_25 : decode cX6_levelOnComing 25 = .ok (.iload 4, 2) := by decide +kernel
theorem dX6_levelOnComing_27 : decode cX6_levelOnComing 27 = .ok (.invokevirtual 51, 3) := by decide +kernel
theorem dX6_levelOnComing_30 : decode cX6_levelOnComing 30 = .ok (.isub, 1) := by decide +kernel
theorem dX6_levelOnComing_31 : decode cX6_levelOnComing 31 = .ok (.invokestatic 110, 3) := by decide +kernel
theorem dX6_levelOnComing_34 : decode cX6_levelOnComing 34 = .ok (.istore_n 3, 1) := by decide +kernel
theorem dX6_levelOnComing_35 : decode cX6_levelOnComing 35 = .ok (.iinc 4 1, 3) := by decide +kernel
theorem dX6_levelOnComing_38 : decode cX6_levelOnComing 38 = .ok (.goto (-30), 3) := by decide +kernel
theorem dX6_levelOnComing_41 : decode cX6_levelOnComing 41 = .ok (.iload_n 3, 1) := by decide +kernel
theorem dX6_levelOnComing_42 : decode cX6_levelOnComing 42 = .ok (.ireturn, 1) := by decide +kernel
theorem dX6_worstGap_0 : decode cX6_worstGap 0 = .ok (.aload_n 0, 1) := by decide +kernel
theorem dX6_worstGap_1 : decode cX6_worstGap 1 = .ok (.aload_n 1, 1) := by decide +kernel
theorem dX6_worstGap_2 : decode cX6_worstGap 2 = .ok (.iconst (-1), 1) := by decide +kernel
theorem dX6_worstGap_3 : decode cX6_worstGap 3 = .ok (.invokevirtual 103, 3) := by decide +kernel
theorem dX6_worstGap_6 : decode cX6_worstGap 6 = .ok (.bipush (-2), 2) := by decide +kernel
theorem dX6_worstGap_8 : decode cX6_worstGap 8 = .ok (.if_icmp .ne 5, 3) := by decide +kernel
theorem dX6_worstGap_11 : decode cX6_worstGap 11 = .ok (.iconst (-1), 1) := by decide +kernel
theorem dX6_worstGap_12 : decode cX6_worstGap 12 = .ok (.ireturn, 1) := by decide +kernel
theorem dX6_worstGap_13 : decode cX6_worstGap 13 = .ok (.iconst (-1), 1) := by decide +kernel
theorem dX6_worstGap_14 : decode cX6_worstGap 14 = .ok (.istore_n 2, 1) := by decide +kernel
theorem dX6_worstGap_15 : decode cX6_worstGap 15 = .ok (.iconst (-1), 1) := by decide +kernel
theorem dX6_worstGap_16 : decode cX6_worstGap 16 = .ok (.istore_n 3, 1) := by decide +kernel
theorem dX6_worstGap_17 : decode cX6_worstGap 17 = .ok (.iconst 0, 1) := by decide +kernel
theorem dX6_worstGap_18 : decode cX6_worstGap 18 = .ok (.istore 4, 2) := by decide +kernel
theorem dX6_worstGap_20 : decode cX6_worstGap 20 = .ok (.iload 4, 2) := by decide +kernel
theorem dX6_worstGap_22 : decode cX6_worstGap 22 = .ok (.aload_n 1, 1) := by decide +kernel
theorem dX6_worstGap_23 : decode cX6_worstGap 23 = .ok (.getfield 41, 3) := by decide +kernel
theorem dX6_worstGap_26 : decode cX6_worstGap 26 = .ok (.iconst 1, 1) := by decide +kernel
theorem dX6_worstGap_27 : decode cX6_worstGap 27 = .ok (.isub, 1) := by decide +kernel
theorem dX6_worstGap_28 : decode cX6_worstGap 28 = .ok (.if_icmp .ge 49, 3) := by decide +kernel
theorem dX6_worstGap_31 : decode cX6_worstGap 31 = .ok (.aload_n 1, 1) := by decide +kernel
theorem dX6_worstGap_32 : decode cX6_worstGap 32 = .ok (.iload 4, 2) := by decide +kernel
theorem dX6_worstGap_34 : decode cX6_worstGap 34 = .ok (.invokevirtual 44, 3) := by decide +kernel
theorem dX6_worstGap_37 : decode cX6_worstGap 37 = .ok (.ifCond .eq 34, 3) := by decide +kernel
theorem dX6_worstGap_40 : decode cX6_worstGap 40 = .ok (.aload_n 0, 1) := by decide +kernel
theorem dX6_worstGap_41 : decode cX6_worstGap 41 = .ok (.aload_n 1, 1) := by decide +kernel
theorem dX6_worstGap_42 : decode cX6_worstGap 42 = .ok (.iload 4, 2) := by decide +kernel
theorem dX6_worstGap_44 : decode cX6_worstGap 44 = .ok (.invokevirtual 103, 3) := by decide +kernel
theorem dX6_worstGap_47 : decode cX6_worstGap 47 = .ok (.istore 5, 2) := by decide +kernel
theorem dX6_worstGap_49 : decode cX6_worstGap 49 = .ok (.iload 5, 2) := by decide +kernel
theorem dX6_worstGap_51 : decode cX6_worstGap 51 = .ok (.bipush (-2), 2) := by decide +kernel
theorem dX6_worstGap_53 : decode cX6_worstGap 53 = .ok (.if_icmp .ne 6, 3) := by decide +kernel
theorem dX6_worstGap_56 : decode cX6_worstGap 56 = .ok (.iload 4, 2) := by decide +kernel
theorem dX6_worstGap_58 : decode cX6_worstGap 58 = .ok (.ireturn, 1) := by decide +kernel
theorem dX6_worstGap_59 : decode cX6_worstGap 59 = .ok (.iload 5, 2) := by decide +kernel
theorem dX6_worstGap_61 : decode cX6_worstGap 61 = .ok (.iload_n 3, 1) := by decide +kernel
theorem dX6_worstGap_62 : decode cX6_worstGap 62 = .ok (.if_icmp .le 9, 3) := by decide +kernel
theorem dX6_worstGap_65 : decode cX6_worstGap 65 = .ok (.iload 5, 2) := by decide +kernel
theorem dX6_worstGap_67 : decode cX6_worstGap 67 = .ok (.istore_n 3, 1) := by decide +kernel
theorem dX6_worstGap_68 : decode cX6_worstGap 68 = .ok (.iload 4, 2) := by decide +kernel
theorem dX6_worstGap_70 : decode cX6_worstGap 70 = .ok (.istore_n 2, 1) := by decide +kernel
theorem dX6_worstGap_71 : decode cX6_worstGap 71 = .ok (.iinc 4 1, 3) := by decide +kernel
theorem dX6_worstGap_74 : decode cX6_worstGap 74 = .ok (.goto (-54), 3) := by decide +kernel
theorem dX6_worstGap_77 : decode cX6_worstGap 77 = .ok (.iload_n 2, 1) := by decide +kernel
theorem dX6_worstGap_78 : decode cX6_worstGap 78 = .ok (.ireturn, 1) := by decide +kernel
theorem dX6_leastWithin_0 : decode cX6_leastWithin 0 = .ok (.aload_n 0, 1) := by decide +kernel
theorem dX6_leastWithin_1 : decode cX6_leastWithin 1 = .ok (.aload_n 1, 1) := by decide +kernel
theorem dX6_leastWithin_2 : decode cX6_leastWithin 2 = .ok (.invokevirtual 116, 3) := by decide +kernel
theorem dX6_leastWithin_5 : decode cX6_leastWithin 5 = .ok (.aload_n 0, 1) := by decide +kernel
theorem dX6_leastWithin_6 : decode cX6_leastWithin 6 = .ok (.getfield 26, 3) := by decide +kernel
theorem dX6_leastWithin_9 : decode cX6_leastWithin 9 = .ok (.iload_n 2, 1) := by decide +kernel
theorem dX6_leastWithin_10 : decode cX6_leastWithin 10 = .ok (.aaload, 1) := by decide +kernel
theorem dX6_leastWithin_11 : decode cX6_leastWithin 11 = .ok (.aload_n 1, 1) := by decide +kernel
theorem dX6_leastWithin_12 : decode cX6_leastWithin 12 = .ok (.getfield 35, 3) := by decide +kernel
theorem dX6_leastWithin_15 : decode cX6_leastWithin 15 = .ok (.laload, 1) := by decide +kernel
theorem dX6_leastWithin_16 : decode cX6_leastWithin 16 = .ok (.invokestatic 72, 3) := by decide +kernel
theorem dX6_leastWithin_19 : decode cX6_leastWithin 19 = .ok (.ireturn, 1) := by decide +kernel
theorem dX6_fewestStops_0 : decode cX6_fewestStops 0 = .ok (.aload_n 0, 1) := by decide +kernel
theorem dX6_fewestStops_1 : decode cX6_fewestStops 1 = .ok (.aload_n 1, 1) := by decide +kernel
theorem dX6_fewestStops_2 : decode cX6_fewestStops 2 = .ok (.invokevirtual 116, 3) := by decide +kernel
theorem dX6_fewestStops_5 : decode cX6_fewestStops 5 = .ok (.iconst 0, 1) := by decide +kernel
theorem dX6_fewestStops_6 : decode cX6_fewestStops 6 = .ok (.istore_n 2, 1) := by decide +kernel
theorem dX6_fewestStops_7 : decode cX6_fewestStops 7 = .ok (.iload_n 2, 1) := by decide +kernel
theorem dX6_fewestStops_8 : decode cX6_fewestStops 8 = .ok (.bipush 9, 2) := by decide +kernel
theorem dX6_fewestStops_10 : decode cX6_fewestStops 10 = .ok (.if_icmp .gt 29, 3) := by decide +kernel
theorem dX6_fewestStops_13 : decode cX6_fewestStops 13 = .ok (.aload_n 0, 1) := by decide +kernel
theorem dX6_fewestStops_14 : decode cX6_fewestStops 14 = .ok (.getfield 26, 3) := by decide +kernel
theorem dX6_fewestStops_17 : decode cX6_fewestStops 17 = .ok (.iload_n 2, 1) := by decide +kernel
theorem dX6_fewestStops_18 : decode cX6_fewestStops 18 = .ok (.aaload, 1) := by decide +kernel
theorem dX6_fewestStops_19 : decode cX6_fewestStops 19 = .ok (.aload_n 1, 1) := by decide +kernel
theorem dX6_fewestStops_20 : decode cX6_fewestStops 20 = .ok (.getfield 35, 3) := by decide +kernel
theorem dX6_fewestStops_23 : decode cX6_fewestStops 23 = .ok (.laload, 1) := by decide +kernel
theorem dX6_fewestStops_24 : decode cX6_fewestStops 24 = .ok (.ldc2_w 76, 3) := by decide +kernel
theorem dX6_fewestStops_27 : decode cX6_fewestStops 27 = .ok (.lcmp, 1) := by decide +kernel
theorem dX6_fewestStops_28 : decode cX6_fewestStops 28 = .ok (.ifCond .ge 5, 3) := by decide +kernel
theorem dX6_fewestStops_31 : decode cX6_fewestStops 31 = .ok (.iload_n 2, 1) := by decide +kernel
theorem dX6_fewestStops_32 : decode cX6_fewestStops 32 = .ok (.ireturn, 1) := by decide +kernel
theorem dX6_fewestStops_33 : decode cX6_fewestStops 33 = .ok (.iinc 2 1, 3) := by decide +kernel
theorem dX6_fewestStops_36 : decode cX6_fewestStops 36 = .ok (.goto (-29), 3) := by decide +kernel
theorem dX6_fewestStops_39 : decode cX6_fewestStops 39 = .ok (.bipush (-2), 2) := by decide +kernel
theorem dX6_fewestStops_41 : decode cX6_fewestStops 41 = .ok (.ireturn, 1) := by decide +kernel
theorem dX6_lookByStops_0 : decode cX6_lookByStops 0 = .ok (.iconst 0, 1) := by decide +kernel
theorem dX6_lookByStops_1 : decode cX6_lookByStops 1 = .ok (.istore_n 2, 1) := by decide +kernel
theorem dX6_lookByStops_2 : decode cX6_lookByStops 2 = .ok (.iload_n 2, 1) := by decide +kernel
theorem dX6_lookByStops_3 : decode cX6_lookByStops 3 = .ok (.bipush 9, 2) := by decide +kernel
theorem dX6_lookByStops_5 : decode cX6_lookByStops 5 = .ok (.if_icmp .gt 19, 3) := by decide +kernel
theorem dX6_lookByStops_8 : decode cX6_lookByStops 8 = .ok (.aload_n 0, 1) := by decide +kernel
theorem dX6_lookByStops_9 : decode cX6_lookByStops 9 = .ok (.getfield 26, 3) := by decide +kernel
theorem dX6_lookByStops_12 : decode cX6_lookByStops 12 = .ok (.iload_n 2, 1) := by decide +kernel
theorem dX6_lookByStops_13 : decode cX6_lookByStops 13 = .ok (.aaload, 1) := by decide +kernel
theorem dX6_lookByStops_14 : decode cX6_lookByStops 14 = .ok (.lconst 0, 1) := by decide +kernel
theorem dX6_lookByStops_15 : decode cX6_lookByStops 15 = .ok (.invokestatic 78, 3) := by decide +kernel
theorem dX6_lookByStops_18 : decode cX6_lookByStops 18 = .ok (.iinc 2 1, 3) := by decide +kernel
theorem dX6_lookByStops_21 : decode cX6_lookByStops 21 = .ok (.goto (-19), 3) := by decide +kernel
theorem dX6_lookByStops_24 : decode cX6_lookByStops 24 = .ok (.aload_n 1, 1) := by decide +kernel
theorem dX6_lookByStops_25 : decode cX6_lookByStops 25 = .ok (.getfield 41, 3) := by decide +kernel
theorem dX6_lookByStops_28 : decode cX6_lookByStops 28 = .ok (.iconst 2, 1) := by decide +kernel
theorem dX6_lookByStops_29 : decode cX6_lookByStops 29 = .ok (.isub, 1) := by decide +kernel
theorem dX6_lookByStops_30 : decode cX6_lookByStops 30 = .ok (.istore_n 2, 1) := by decide +kernel
theorem dX6_lookByStops_31 : decode cX6_lookByStops 31 = .ok (.iload_n 2, 1) := by decide +kernel
theorem dX6_lookByStops_32 : decode cX6_lookByStops 32 = .ok (.ifCond .lt 89, 3) := by decide +kernel
theorem dX6_lookByStops_35 : decode cX6_lookByStops 35 = .ok (.iconst 0, 1) := by decide +kernel
theorem dX6_lookByStops_36 : decode cX6_lookByStops 36 = .ok (.istore_n 3, 1) := by decide +kernel
theorem dX6_lookByStops_37 : decode cX6_lookByStops 37 = .ok (.iload_n 3, 1) := by decide +kernel
theorem dX6_lookByStops_38 : decode cX6_lookByStops 38 = .ok (.bipush 9, 2) := by decide +kernel
theorem dX6_lookByStops_40 : decode cX6_lookByStops 40 = .ok (.if_icmp .gt 30, 3) := by decide +kernel
theorem dX6_lookByStops_43 : decode cX6_lookByStops 43 = .ok (.aload_n 0, 1) := by decide +kernel
theorem dX6_lookByStops_44 : decode cX6_lookByStops 44 = .ok (.getfield 26, 3) := by decide +kernel
theorem dX6_lookByStops_47 : decode cX6_lookByStops 47 = .ok (.iload_n 3, 1) := by decide +kernel
theorem dX6_lookByStops_48 : decode cX6_lookByStops 48 = .ok (.aaload, 1) := by decide +kernel
theorem dX6_lookByStops_49 : decode cX6_lookByStops 49 = .ok (.aload_n 1, 1) := by decide +kernel
theorem dX6_lookByStops_50 : decode cX6_lookByStops 50 = .ok (.getfield 48, 3) := by decide +kernel
theorem dX6_lookByStops_53 : decode cX6_lookByStops 53 = .ok (.aload_n 1, 1) := by decide +kernel
theorem dX6_lookByStops_54 : decode cX6_lookByStops 54 = .ok (.iload_n 2, 1) := by decide +kernel
theorem dX6_lookByStops_55 : decode cX6_lookByStops 55 = .ok (.invokevirtual 51, 3) := by decide +kernel
theorem dX6_lookByStops_58 : decode cX6_lookByStops 58 = .ok (.ldc2_w 76, 3) := by decide +kernel
theorem dX6_lookByStops_61 : decode cX6_lookByStops 61 = .ok (.invokestatic 81, 3) := by decide +kernel
theorem dX6_lookByStops_64 : decode cX6_lookByStops 64 = .ok (.iinc 3 1, 3) := by decide +kernel
theorem dX6_lookByStops_67 : decode cX6_lookByStops 67 = .ok (.goto (-30), 3) := by decide +kernel
theorem dX6_lookByStops_70 : decode cX6_lookByStops 70 = .ok (.aload_n 1, 1) := by decide +kernel
theorem dX6_lookByStops_71 : decode cX6_lookByStops 71 = .ok (.iload_n 2, 1) := by decide +kernel
theorem dX6_lookByStops_72 : decode cX6_lookByStops 72 = .ok (.invokevirtual 44, 3) := by decide +kernel
theorem dX6_lookByStops_75 : decode cX6_lookByStops 75 = .ok (.ifCond .eq 40, 3) := by decide +kernel
theorem dX6_lookByStops_78 : decode cX6_lookByStops 78 = .ok (.bipush 9, 2) := by decide +kernel
theorem dX6_lookByStops_80 : decode cX6_lookByStops 80 = .ok (.istore_n 3, 1) := by decide +kernel
theorem dX6_lookByStops_81 : decode cX6_lookByStops 81 = .ok (.iload_n 3, 1) := by decide +kernel
theorem dX6_lookByStops_82 : decode cX6_lookByStops 82 = .ok (.ifCond .le 33, 3) := by decide +kernel
theorem dX6_lookByStops_85 : decode cX6_lookByStops 85 = .ok (.aload_n 1, 1) := by decide +kernel
theorem dX6_lookByStops_86 : decode cX6_lookByStops 86 = .ok (.aload_n 1, 1) := by decide +kernel
theorem dX6_lookByStops_87 : decode cX6_lookByStops 87 = .ok (.iload_n 2, 1) := by decide +kernel
theorem dX6_lookByStops_88 : decode cX6_lookByStops 88 = .ok (.iconst 0, 1) := by decide +kernel
theorem dX6_lookByStops_89 : decode cX6_lookByStops 89 = .ok (.invokevirtual 55, 3) := by decide +kernel
theorem dX6_lookByStops_92 : decode cX6_lookByStops 92 = .ok (.aload_n 0, 1) := by decide +kernel
theorem dX6_lookByStops_93 : decode cX6_lookByStops 93 = .ok (.getfield 26, 3) := by decide +kernel
theorem dX6_lookByStops_96 : decode cX6_lookByStops 96 = .ok (.iload_n 3, 1) := by decide +kernel
theorem dX6_lookByStops_97 : decode cX6_lookByStops 97 = .ok (.aaload, 1) := by decide +kernel
theorem dX6_lookByStops_98 : decode cX6_lookByStops 98 = .ok (.aload_n 0, 1) := by decide +kernel
theorem dX6_lookByStops_99 : decode cX6_lookByStops 99 = .ok (.getfield 26, 3) := by decide +kernel
theorem dX6_lookByStops_102 : decode cX6_lookByStops 102 = .ok (.iload_n 3, 1) := by decide +kernel
theorem dX6_lookByStops_103 : decode cX6_lookByStops 103 = .ok (.iconst 1, 1) := by decide +kernel
theorem dX6_lookByStops_104 : decode cX6_lookByStops 104 = .ok (.isub, 1) := by decide +kernel
theorem dX6_lookByStops_105 : decode cX6_lookByStops 105 = .ok (.aaload, 1) := by decide +kernel
theorem dX6_lookByStops_106 : decode cX6_lookByStops 106 = .ok (.invokestatic 120, 3) := by decide +kernel
theorem dX6_lookByStops_109 : decode cX6_lookByStops 109 = .ok (.iinc 3 (-1), 3) := by decide +kernel
theorem dX6_lookByStops_112 : decode cX6_lookByStops 112 = .ok (.goto (-31), 3) := by decide +kernel
theorem dX6_lookByStops_115 : decode cX6_lookByStops 115 = .ok (.iinc 2 (-1), 3) := by decide +kernel
theorem dX6_lookByStops_118 : decode cX6_lookByStops 118 = .ok (.goto (-87), 3) := by decide +kernel
theorem dX6_lookByStops_121 : decode cX6_lookByStops 121 = .ok (.return_, 1) := by decide +kernel
theorem dX6_stopHere_0 : decode cX6_stopHere 0 = .ok (.aload_n 0, 1) := by decide +kernel
theorem dX6_stopHere_1 : decode cX6_stopHere 1 = .ok (.getfield 48, 3) := by decide +kernel
theorem dX6_stopHere_4 : decode cX6_stopHere 4 = .ok (.istore 4, 2) := by decide +kernel
theorem dX6_stopHere_6 : decode cX6_stopHere 6 = .ok (.aload_n 0, 1) := by decide +kernel
theorem dX6_stopHere_7 : decode cX6_stopHere 7 = .ok (.getfield 48, 3) := by decide +kernel
theorem dX6_stopHere_10 : decode cX6_stopHere 10 = .ok (.istore 5, 2) := by decide +kernel
theorem dX6_stopHere_12 : decode cX6_stopHere 12 = .ok (.iload 5, 2) := by decide +kernel
theorem dX6_stopHere_14 : decode cX6_stopHere 14 = .ok (.ifCond .lt 80, 3) := by decide +kernel
theorem dX6_stopHere_17 : decode cX6_stopHere 17 = .ok (.aload_n 0, 1) := by decide +kernel
theorem dX6_stopHere_18 : decode cX6_stopHere 18 = .ok (.getfield 59, 3) := by decide +kernel
theorem dX6_stopHere_21 : decode cX6_stopHere 21 = .ok (.i2l, 1) := by decide +kernel
theorem dX6_stopHere_22 : decode cX6_stopHere 22 = .ok (.iload_n 1, 1) := by decide +kernel
theorem dX6_stopHere_23 : decode cX6_stopHere 23 = .ok (.i2l, 1) := by decide +kernel
theorem dX6_stopHere_24 : decode cX6_stopHere 24 = .ok (.iload 4, 2) := by decide +kernel
theorem dX6_stopHere_26 : decode cX6_stopHere 26 = .ok (.iload 5, 2) := by decide +kernel
theorem dX6_stopHere_28 : decode cX6_stopHere 28 = .ok (.isub, 1) := by decide +kernel
theorem dX6_stopHere_29 : decode cX6_stopHere 29 = .ok (.i2l, 1) := by decide +kernel
theorem dX6_stopHere_30 : decode cX6_stopHere 30 = .ok (.lmul, 1) := by decide +kernel
theorem dX6_stopHere_31 : decode cX6_stopHere 31 = .ok (.ladd, 1) := by decide +kernel
theorem dX6_stopHere_32 : decode cX6_stopHere 32 = .ok (.aload_n 3, 1) := by decide +kernel
theorem dX6_stopHere_33 : decode cX6_stopHere 33 = .ok (.iload 4, 2) := by decide +kernel
theorem dX6_stopHere_35 : decode cX6_stopHere 35 = .ok (.laload, 1) := by decide +kernel
theorem dX6_stopHere_36 : decode cX6_stopHere 36 = .ok (.ladd, 1) := by decide +kernel
theorem dX6_stopHere_37 : decode cX6_stopHere 37 = .ok (.lstore 6, 2) := by decide +kernel
theorem dX6_stopHere_39 : decode cX6_stopHere 39 = .ok (.aload_n 2, 1) := by decide +kernel
theorem dX6_stopHere_40 : decode cX6_stopHere 40 = .ok (.iload 5, 2) := by decide +kernel
theorem dX6_stopHere_42 : decode cX6_stopHere 42 = .ok (.ldc2_w 76, 3) := by decide +kernel
theorem dX6_stopHere_45 : decode cX6_stopHere 45 = .ok (.aload_n 2, 1) := by decide +kernel
theorem dX6_stopHere_46 : decode cX6_stopHere 46 = .ok (.iload 5, 2) := by decide +kernel
theorem dX6_stopHere_48 : decode cX6_stopHere 48 = .ok (.laload, 1) := by decide +kernel
theorem dX6_stopHere_49 : decode cX6_stopHere 49 = .ok (.lload 6, 2) := by decide +kernel
theorem dX6_stopHere_51 : decode cX6_stopHere 51 = .ok (.invokestatic 124, 3) := by decide +kernel
theorem dX6_stopHere_54 : decode cX6_stopHere 54 = .ok (.invokestatic 124, 3) := by decide +kernel
theorem dX6_stopHere_57 : decode cX6_stopHere 57 = .ok (.lastore, 1) := by decide +kernel
theorem dX6_stopHere_58 : decode cX6_stopHere 58 = .ok (.aload_n 3, 1) := by decide +kernel
theorem dX6_stopHere_59 : decode cX6_stopHere 59 = .ok (.iload 5, 2) := by decide +kernel
theorem dX6_stopHere_61 : decode cX6_stopHere 61 = .ok (.laload, 1) := by decide +kernel
theorem dX6_stopHere_62 : decode cX6_stopHere 62 = .ok (.iload_n 1, 1) := by decide +kernel
theorem dX6_stopHere_63 : decode cX6_stopHere 63 = .ok (.i2l, 1) := by decide +kernel
theorem dX6_stopHere_64 : decode cX6_stopHere 64 = .ok (.iload 5, 2) := by decide +kernel
theorem dX6_stopHere_66 : decode cX6_stopHere 66 = .ok (.i2l, 1) := by decide +kernel
theorem dX6_stopHere_67 : decode cX6_stopHere 67 = .ok (.lmul, 1) := by decide +kernel
theorem dX6_stopHere_68 : decode cX6_stopHere 68 = .ok (.ladd, 1) := by decide +kernel
theorem dX6_stopHere_69 : decode cX6_stopHere 69 = .ok (.aload_n 3, 1) := by decide +kernel
theorem dX6_stopHere_70 : decode cX6_stopHere 70 = .ok (.iload 4, 2) := by decide +kernel
theorem dX6_stopHere_72 : decode cX6_stopHere 72 = .ok (.laload, 1) := by decide +kernel
theorem dX6_stopHere_73 : decode cX6_stopHere 73 = .ok (.iload_n 1, 1) := by decide +kernel
theorem dX6_stopHere_74 : decode cX6_stopHere 74 = .ok (.i2l, 1) := by decide +kernel
theorem dX6_stopHere_75 : decode cX6_stopHere 75 = .ok (.iload 4, 2) := by decide +kernel
theorem dX6_stopHere_77 : decode cX6_stopHere 77 = .ok (.i2l, 1) := by decide +kernel
theorem dX6_stopHere_78 : decode cX6_stopHere 78 = .ok (.lmul, 1) := by decide +kernel
theorem dX6_stopHere_79 : decode cX6_stopHere 79 = .ok (.ladd, 1) := by decide +kernel
theorem dX6_stopHere_80 : decode cX6_stopHere 80 = .ok (.lcmp, 1) := by decide +kernel
theorem dX6_stopHere_81 : decode cX6_stopHere 81 = .ok (.ifCond .ge 7, 3) := by decide +kernel
theorem dX6_stopHere_84 : decode cX6_stopHere 84 = .ok (.iload 5, 2) := by decide +kernel
theorem dX6_stopHere_86 : decode cX6_stopHere 86 = .ok (.istore 4, 2) := by decide +kernel
theorem dX6_stopHere_88 : decode cX6_stopHere 88 = .ok (.iinc 5 (-1), 3) := by decide +kernel
theorem dX6_stopHere_91 : decode cX6_stopHere 91 = .ok (.goto (-79), 3) := by decide +kernel
theorem dX6_stopHere_94 : decode cX6_stopHere 94 = .ok (.return_, 1) := by decide +kernel
theorem dX6_leastBeginning_0 : decode cX6_leastBeginning 0 = .ok (.aload_n 0, 1) := by decide +kernel
theorem dX6_leastBeginning_1 : decode cX6_leastBeginning 1 = .ok (.aload_n 1, 1) := by decide +kernel
theorem dX6_leastBeginning_2 : decode cX6_leastBeginning 2 = .ok (.iconst (-1), 1) := by decide +kernel
theorem dX6_leastBeginning_3 : decode cX6_leastBeginning 3 = .ok (.invokevirtual 68, 3) := by decide +kernel
theorem dX6_leastBeginning_6 : decode cX6_leastBeginning 6 = .ok (.iconst 0, 1) := by decide +kernel
theorem dX6_leastBeginning_7 : decode cX6_leastBeginning 7 = .ok (.istore_n 2, 1) := by decide +kernel
theorem dX6_leastBeginning_8 : decode cX6_leastBeginning 8 = .ok (.iload_n 2, 1) := by decide +kernel
theorem dX6_leastBeginning_9 : decode cX6_leastBeginning 9 = .ok (.aload_n 1, 1) := by decide +kernel
theorem dX6_leastBeginning_10 : decode cX6_leastBeginning 10 = .ok (.getfield 48, 3) := by decide +kernel
theorem dX6_leastBeginning_13 : decode cX6_leastBeginning 13 = .ok (.if_icmp .gt 24, 3) := by decide +kernel
theorem dX6_leastBeginning_16 : decode cX6_leastBeginning 16 = .ok (.aload_n 0, 1) := by decide +kernel
theorem dX6_leastBeginning_17 : decode cX6_leastBeginning 17 = .ok (.getfield 15, 3) := by decide +kernel
theorem dX6_leastBeginning_20 : decode cX6_leastBeginning 20 = .ok (.iload_n 2, 1) := by decide +kernel
theorem dX6_leastBeginning_21 : decode cX6_leastBeginning 21 = .ok (.laload, 1) := by decide +kernel
theorem dX6_leastBeginning_22 : decode cX6_leastBeginning 22 = .ok (.ldc2_w 76, 3) := by decide +kernel
theorem dX6_leastBeginning_25 : decode cX6_leastBeginning 25 = .ok (.lcmp, 1) := by decide +kernel
theorem dX6_leastBeginning_26 : decode cX6_leastBeginning 26 = .ok (.ifCond .ge 5, 3) := by decide +kernel
theorem dX6_leastBeginning_29 : decode cX6_leastBeginning 29 = .ok (.iload_n 2, 1) := by decide +kernel
theorem dX6_leastBeginning_30 : decode cX6_leastBeginning 30 = .ok (.ireturn, 1) := by decide +kernel
theorem dX6_leastBeginning_31 : decode cX6_leastBeginning 31 = .ok (.iinc 2 1, 3) := by decide +kernel
theorem dX6_leastBeginning_34 : decode cX6_leastBeginning 34 = .ok (.goto (-26), 3) := by decide +kernel
theorem dX6_leastBeginning_37 : decode cX6_leastBeginning 37 = .ok (.bipush (-2), 2) := by decide +kernel
theorem dX6_leastBeginning_39 : decode cX6_leastBeginning 39 = .ok (.ireturn, 1) := by decide +kernel
theorem dX7_init_0 : decode cX7_init 0 = .ok (.aload_n 0, 1) := by decide +kernel
theorem dX7_init_1 : decode cX7_init 1 = .ok (.invokespecial 3, 3) := by decide +kernel
theorem dX7_init_4 : decode cX7_init 4 = .ok (.aload_n 0, 1) := by decide +kernel
theorem dX7_init_5 : decode cX7_init 5 = .ok (.iconst 0, 1) := by decide +kernel
theorem dX7_init_6 : decode cX7_init 6 = .ok (.newarray .byte, 2) := by decide +kernel
theorem dX7_init_8 : decode cX7_init 8 = .ok (.putfield 9, 3) := by decide +kernel
theorem dX7_init_11 : decode cX7_init 11 = .ok (.aload_n 0, 1) := by decide +kernel
theorem dX7_init_12 : decode cX7_init 12 = .ok (.new 15, 3) := by decide +kernel
theorem dX7_init_15 : decode cX7_init 15 = .ok (.dup, 1) := by decide +kernel
theorem dX7_init_16 : decode cX7_init 16 = .ok (.invokespecial 17, 3) := by decide +kernel
theorem dX7_init_19 : decode cX7_init 19 = .ok (.putfield 18, 3) := by decide +kernel
theorem dX7_init_22 : decode cX7_init 22 = .ok (.aload_n 0, 1) := by decide +kernel
theorem dX7_init_23 : decode cX7_init 23 = .ok (.bipush 9, 2) := by decide +kernel
theorem dX7_init_25 : decode cX7_init 25 = .ok (.newarray .int, 2) := by decide +kernel
theorem dX7_init_27 : decode cX7_init 27 = .ok (.putfield 22, 3) := by decide +kernel
theorem dX7_init_30 : decode cX7_init 30 = .ok (.aload_n 0, 1) := by decide +kernel
theorem dX7_init_31 : decode cX7_init 31 = .ok (.bipush 9, 2) := by decide +kernel
theorem dX7_init_33 : decode cX7_init 33 = .ok (.newarray .int, 2) := by decide +kernel
theorem dX7_init_35 : decode cX7_init 35 = .ok (.putfield 26, 3) := by decide +kernel
theorem dX7_init_38 : decode cX7_init 38 = .ok (.return_, 1) := by decide +kernel
theorem dX7_readRoad_0 : decode cX7_readRoad 0 = .ok (.aload_n 0, 1) := by decide +kernel
theorem dX7_readRoad_1 : decode cX7_readRoad 1 = .ok (.aload_n 1, 1) := by decide +kernel
theorem dX7_readRoad_2 : decode cX7_readRoad 2 = .ok (.putfield 9, 3) := by decide +kernel
theorem dX7_readRoad_5 : decode cX7_readRoad 5 = .ok (.aload_n 0, 1) := by decide +kernel
theorem dX7_readRoad_6 : decode cX7_readRoad 6 = .ok (.iload_n 2, 1) := by decide +kernel
theorem dX7_readRoad_7 : decode cX7_readRoad 7 = .ok (.putfield 29, 3) := by decide +kernel
theorem dX7_readRoad_10 : decode cX7_readRoad 10 = .ok (.aload_n 0, 1) := by decide +kernel
theorem dX7_readRoad_11 : decode cX7_readRoad 11 = .ok (.aload_n 3, 1) := by decide +kernel
theorem dX7_readRoad_12 : decode cX7_readRoad 12 = .ok (.putfield 18, 3) := by decide +kernel
theorem dX7_readRoad_15 : decode cX7_readRoad 15 = .ok (.aload_n 0, 1) := by decide +kernel
theorem dX7_readRoad_16 : decode cX7_readRoad 16 = .ok (.getfield 18, 3) := by decide +kernel
theorem dX7_readRoad_19 : decode cX7_readRoad 19 = .ok (.invokevirtual 33, 3) := by decide +kernel
theorem dX7_readRoad_22 : decode cX7_readRoad 22 = .ok (.aload_n 0, 1) := by decide +kernel
theorem dX7_readRoad_23 : decode cX7_readRoad 23 = .ok (.iconst 0, 1) := by decide +kernel
theorem dX7_readRoad_24 : decode cX7_readRoad 24 = .ok (.putfield 36, 3) := by decide +kernel
theorem dX7_readRoad_27 : decode cX7_readRoad 27 = .ok (.aload_n 0, 1) := by decide +kernel
theorem dX7_readRoad_28 : decode cX7_readRoad 28 = .ok (.iconst (-1), 1) := by decide +kernel
theorem dX7_readRoad_29 : decode cX7_readRoad 29 = .ok (.putfield 39, 3) := by decide +kernel
theorem dX7_readRoad_32 : decode cX7_readRoad 32 = .ok (.aload_n 0, 1) := by decide +kernel
theorem dX7_readRoad_33 : decode cX7_readRoad 33 = .ok (.iconst 0, 1) := by decide +kernel
theorem dX7_readRoad_34 : decode cX7_readRoad 34 = .ok (.putfield 42, 3) := by decide +kernel
theorem dX7_readRoad_37 : decode cX7_readRoad 37 = .ok (.aload_n 0, 1) := by decide +kernel
theorem dX7_readRoad_38 : decode cX7_readRoad 38 = .ok (.invokevirtual 45, 3) := by decide +kernel
theorem dX7_readRoad_41 : decode cX7_readRoad 41 = .ok (.iconst 0, 1) := by decide +kernel
theorem dX7_readRoad_42 : decode cX7_readRoad 42 = .ok (.istore 4, 2) := by decide +kernel
theorem dX7_readRoad_44 : decode cX7_readRoad 44 = .ok (.iload 4, 2) := by decide +kernel
theorem dX7_readRoad_46 : decode cX7_readRoad 46 = .ok (.aload_n 0, 1) := by decide +kernel
theorem dX7_readRoad_47 : decode cX7_readRoad 47 = .ok (.getfield 29, 3) := by decide +kernel
theorem dX7_readRoad_50 : decode cX7_readRoad 50 = .ok (.if_icmp .gt 61, 3) := by decide +kernel
theorem dX7_readRoad_53 : decode cX7_readRoad 53 = .ok (.aload_n 0, 1) := by decide +kernel
theorem dX7_readRoad_54 : decode cX7_readRoad 54 = .ok (.invokevirtual 48, 3) := by decide +kernel
theorem dX7_readRoad_57 : decode cX7_readRoad 57 = .ok (.ifCond .ne 5, 3) := by decide +kernel
theorem dX7_readRoad_60 : decode cX7_readRoad 60 = .ok (.iconst 0, 1) := by decide +kernel
theorem dX7_readRoad_61 : decode cX7_readRoad 61 = .ok (.ireturn, 1) := by decide +kernel
theorem dX7_readRoad_62 : decode cX7_readRoad 62 = .ok (.aload_n 0, 1) := by decide +kernel
theorem dX7_readRoad_63 : decode cX7_readRoad 63 = .ok (.getfield 52, 3) := by decide +kernel
theorem dX7_readRoad_66 : decode cX7_readRoad 66 = .ok (.ifCond .ne 28, 3) := by decide +kernel
theorem dX7_readRoad_69 : decode cX7_readRoad 69 = .ok (.aload_n 0, 1) := by decide +kernel
theorem dX7_readRoad_70 : decode cX7_readRoad 70 = .ok (.getfield 18, 3) := by decide +kernel
theorem dX7_readRoad_73 : decode cX7_readRoad 73 = .ok (.invokevirtual 55, 3) := by decide +kernel
theorem dX7_readRoad_76 : decode cX7_readRoad 76 = .ok (.ifCond .ne 12, 3) := by decide +kernel
theorem dX7_readRoad_79 : decode cX7_readRoad 79 = .ok (.aload_n 0, 1) := by decide +kernel
theorem dX7_readRoad_80 : decode cX7_readRoad 80 = .ok (.bipush 6, 2) := by decide +kernel
theorem dX7_readRoad_82 : decode cX7_readRoad 82 = .ok (.invokevirtual 58, 3) := by decide +kernel
theorem dX7_readRoad_85 : decode cX7_readRoad 85 = .ok (.ifCond .eq 7, 3) := by decide +kernel
theorem dX7_readRoad_88 : decode cX7_readRoad 88 = .ok (.iconst 1, 1) := by decide +kernel
theorem dX7_readRoad_89 : decode cX7_readRoad 89 = .ok (.goto 4, 3) := by decide +kernel
theorem dX7_readRoad_92 : decode cX7_readRoad 92 = .ok (.iconst 0, 1) := by decide +kernel
theorem dX7_readRoad_93 : decode cX7_readRoad 93 = .ok (.ireturn, 1) := by decide +kernel
theorem dX7_readRoad_94 : decode cX7_readRoad 94 = .ok (.aload_n 0, 1) := by decide +kernel
theorem dX7_readRoad_95 : decode cX7_readRoad 95 = .ok (.bipush 59, 2) := by decide +kernel
theorem dX7_readRoad_97 : decode cX7_readRoad 97 = .ok (.invokevirtual 62, 3) := by decide +kernel
theorem dX7_readRoad_100 : decode cX7_readRoad 100 = .ok (.ifCond .ne 5, 3) := by decide +kernel
theorem dX7_readRoad_103 : decode cX7_readRoad 103 = .ok (.iconst 0, 1) := by decide +kernel
theorem dX7_readRoad_104 : decode cX7_readRoad 104 = .ok (.ireturn, 1) := by decide +kernel
theorem dX7_readRoad_105 : decode cX7_readRoad 105 = .ok (.iinc 4 1, 3) := by decide +kernel
theorem dX7_readRoad_108 : decode cX7_readRoad 108 = .ok (.goto (-64), 3) := by decide +kernel
theorem dX7_readRoad_111 : decode cX7_readRoad 111 = .ok (.aload_n 0, 1) := by decide +kernel
theorem dX7_readRoad_112 : decode cX7_readRoad 112 = .ok (.iconst 1, 1) := by decide +kernel
theorem dX7_readRoad_113 : decode cX7_readRoad 113 = .ok (.invokevirtual 58, 3) := by decide +kernel
theorem dX7_readRoad_116 : decode cX7_readRoad 116 = .ok (.ireturn, 1) := by decide +kernel
theorem dX7_readLine_0 : decode cX7_readLine 0 = .ok (.aload_n 0, 1) := by decide +kernel
theorem dX7_readLine_1 : decode cX7_readLine 1 = .ok (.ldc 66, 2) := by decide +kernel
theorem dX7_readLine_3 : decode cX7_readLine 3 = .ok (.invokevirtual 68, 3) := by decide +kernel
theorem dX7_readLine_6 : decode cX7_readLine 6 = .ok (.ifCond .eq 26, 3) := by decide +kernel
theorem dX7_readLine_9 : decode cX7_readLine 9 = .ok (.aload_n 0, 1) := by decide +kernel
theorem dX7_readLine_10 : decode cX7_readLine 10 = .ok (.getfield 18, 3) := by decide +kernel
theorem dX7_readLine_13 : decode cX7_readLine 13 = .ok (.getfield 72, 3) := by decide +kernel
theorem dX7_readLine_16 : decode cX7_readLine 16 = .ok (.ifCond .le 11, 3) := by decide +kernel
theorem dX7_readLine_19 : decode cX7_readLine 19 = .ok (.aload_n 0, 1) := by decide +kernel
theorem dX7_readLine_20 : decode cX7_readLine 20 = .ok (.iconst 3, 1) := by decide +kernel
theorem dX7_readLine_21 : decode cX7_readLine 21 = .ok (.invokevirtual 58, 3) := by decide +kernel
theorem dX7_readLine_24 : decode cX7_readLine 24 = .ok (.goto 7, 3) := by decide +kernel
theorem dX7_readLine_27 : decode cX7_readLine 27 = .ok (.aload_n 0, 1) := by decide +kernel
theorem dX7_readLine_28 : decode cX7_readLine 28 = .ok (.invokevirtual 75, 3) := by decide +kernel
theorem dX7_readLine_31 : decode cX7_readLine 31 = .ok (.ireturn, 1) := by decide +kernel
theorem dX7_readLine_32 : decode cX7_readLine 32 = .ok (.aload_n 0, 1) := by decide +kernel
theorem dX7_readLine_33 : decode cX7_readLine 33 = .ok (.ldc 78, 2) := by decide +kernel
theorem dX7_readLine_35 : decode cX7_readLine 35 = .ok (.invokevirtual 68, 3) := by decide +kernel
theorem dX7_readLine_38 : decode cX7_readLine 38 = .ok (.ifCond .ne 45, 3) := by decide +kernel
theorem dX7_readLine_41 : decode cX7_readLine 41 = .ok (.aload_n 0, 1) := by decide +kernel
theorem dX7_readLine_42 : decode cX7_readLine 42 = .ok (.ldc 80, 2) := by decide +kernel
theorem dX7_readLine_44 : decode cX7_readLine 44 = .ok (.invokevirtual 68, 3) := by decide +kernel
theorem dX7_readLine_47 : decode cX7_readLine 47 = .ok (.ifCond .ne 36, 3) := by decide +kernel
theorem dX7_readLine_50 : decode cX7_readLine 50 = .ok (.aload_n 0, 1) := by decide +kernel
theorem dX7_readLine_51 : decode cX7_readLine 51 = .ok (.ldc 81, 2) := by decide +kernel
theorem dX7_readLine_53 : decode cX7_readLine 53 = .ok (.invokevirtual 68, 3) := by decide +kernel
theorem dX7_readLine_56 : decode cX7_readLine 56 = .ok (.ifCond .ne 27, 3) := by decide +kernel
theorem dX7_readLine_59 : decode cX7_readLine 59 = .ok (.aload_n 0, 1) := by decide +kernel
theorem dX7_readLine_60 : decode cX7_readLine 60 = .ok (.ldc 83, 2) := by decide +kernel
theorem dX7_readLine_62 : decode cX7_readLine 62 = .ok (.invokevirtual 68, 3) := by decide +kernel
theorem dX7_readLine_65 : decode cX7_readLine 65 = .ok (.ifCond .ne 18, 3) := by decide +kernel
theorem dX7_readLine_68 : decode cX7_readLine 68 = .ok (.aload_n 0, 1) := by decide +kernel
theorem dX7_readLine_69 : decode cX7_readLine 69 = .ok (.ldc 85, 2) := by decide +kernel
theorem dX7_readLine_71 : decode cX7_readLine 71 = .ok (.invokevirtual 68, 3) := by decide +kernel
theorem dX7_readLine_74 : decode cX7_readLine 74 = .ok (.ifCond .ne 9, 3) := by decide +kernel
theorem dX7_readLine_77 : decode cX7_readLine 77 = .ok (.aload_n 0, 1) := by decide +kernel
theorem dX7_readLine_78 : decode cX7_readLine 78 = .ok (.iconst 1, 1) := by decide +kernel
theorem dX7_readLine_79 : decode cX7_readLine 79 = .ok (.invokevirtual 58, 3) := by decide +kernel
theorem dX7_readLine_82 : decode cX7_readLine 82 = .ok (.ireturn, 1) := by decide +kernel
theorem dX7_readLine_83 : decode cX7_readLine 83 = .ok (.aload_n 0, 1) := by decide +kernel
theorem dX7_readLine_84 : decode cX7_readLine 84 = .ok (.getfield 18, 3) := by decide +kernel
theorem dX7_readLine_87 : decode cX7_readLine 87 = .ok (.getfield 72, 3) := by decide +kernel
theorem dX7_readLine_90 : decode cX7_readLine 90 = .ok (.ifCond .ne 10, 3) := by decide +kernel
theorem dX7_readLine_93 : decode cX7_readLine 93 = .ok (.aload_n 0, 1) := by decide +kernel
theorem dX7_readLine_94 : decode cX7_readLine 94 = .ok (.bipush 6, 2) := by decide +kernel
theorem dX7_readLine_96 : decode cX7_readLine 96 = .ok (.invokevirtual 58, 3) := by decide +kernel
theorem dX7_readLine_99 : decode cX7_readLine 99 = .ok (.ireturn, 1) := by decide +kernel
theorem dX7_readLine_100 : decode cX7_readLine 100 = .ok (.aload_n 0, 1) := by decide +kernel
theorem dX7_readLine_101 : decode cX7_readLine 101 = .ok (.ldc 78, 2) := by decide +kernel
theorem dX7_readLine_103 : decode cX7_readLine 103 = .ok (.invokevirtual 68, 3) := by decide +kernel
theorem dX7_readLine_106 : decode cX7_readLine 106 = .ok (.ifCond .eq 28, 3) := by decide +kernel
theorem dX7_readLine_109 : decode cX7_readLine 109 = .ok (.aload_n 0, 1) := by decide +kernel
theorem dX7_readLine_110 : decode cX7_readLine 110 = .ok (.getfield 18, 3) := by decide +kernel
theorem dX7_readLine_113 : decode cX7_readLine 113 = .ok (.getfield 87, 3) := by decide +kernel
theorem dX7_readLine_116 : decode cX7_readLine 116 = .ok (.bipush 9, 2) := by decide +kernel
theorem dX7_readLine_118 : decode cX7_readLine 118 = .ok (.if_icmp .lt 11, 3) := by decide +kernel
theorem dX7_readLine_121 : decode cX7_readLine 121 = .ok (.aload_n 0, 1) := by decide +kernel
theorem dX7_readLine_122 : decode cX7_readLine 122 = .ok (.iconst 5, 1) := by decide +kernel
theorem dX7_readLine_123 : decode cX7_readLine 123 = .ok (.invokevirtual 58, 3) := by decide +kernel
theorem dX7_readLine_126 : decode cX7_readLine 126 = .ok (.goto 7, 3) := by decide +kernel
theorem dX7_readLine_129 : decode cX7_readLine 129 = .ok (.aload_n 0, 1) := by decide +kernel
theorem dX7_readLine_130 : decode cX7_readLine 130 = .ok (.invokevirtual 90, 3) := by decide +kernel
theorem dX7_readLine_133 : decode cX7_readLine 133 = .ok (.ireturn, 1) := by decide +kernel
theorem dX7_readLine_134 : decode cX7_readLine 134 = .ok (.aload_n 0, 1) := by decide +kernel
theorem dX7_readLine_135 : decode cX7_readLine 135 = .ok (.ldc 80, 2) := by decide +kernel
theorem dX7_readLine_137 : decode cX7_readLine 137 = .ok (.invokevirtual 68, 3) := by decide +kernel
theorem dX7_readLine_140 : decode cX7_readLine 140 = .ok (.ifCond .eq 28, 3) := by decide +kernel
theorem dX7_readLine_143 : decode cX7_readLine 143 = .ok (.aload_n 0, 1) := by decide +kernel
theorem dX7_readLine_144 : decode cX7_readLine 144 = .ok (.getfield 18, 3) := by decide +kernel
theorem dX7_readLine_147 : decode cX7_readLine 147 = .ok (.getfield 93, 3) := by decide +kernel
theorem dX7_readLine_150 : decode cX7_readLine 150 = .ok (.bipush 14, 2) := by decide +kernel
theorem dX7_readLine_152 : decode cX7_readLine 152 = .ok (.if_icmp .lt 11, 3) := by decide +kernel
theorem dX7_readLine_155 : decode cX7_readLine 155 = .ok (.aload_n 0, 1) := by decide +kernel
theorem dX7_readLine_156 : decode cX7_readLine 156 = .ok (.iconst 5, 1) := by decide +kernel
theorem dX7_readLine_157 : decode cX7_readLine 157 = .ok (.invokevirtual 58, 3) := by decide +kernel
theorem dX7_readLine_160 : decode cX7_readLine 160 = .ok (.goto 7, 3) := by decide +kernel
theorem dX7_readLine_163 : decode cX7_readLine 163 = .ok (.aload_n 0, 1) := by decide +kernel
theorem dX7_readLine_164 : decode cX7_readLine 164 = .ok (.invokevirtual 96, 3) := by decide +kernel
theorem dX7_readLine_167 : decode cX7_readLine 167 = .ok (.ireturn, 1) := by decide +kernel
theorem dX7_readLine_168 : decode cX7_readLine 168 = .ok (.aload_n 0, 1) := by decide +kernel
theorem dX7_readLine_169 : decode cX7_readLine 169 = .ok (.ldc 81, 2) := by decide +kernel
theorem dX7_readLine_171 : decode cX7_readLine 171 = .ok (.invokevirtual 68, 3) := by decide +kernel
theorem dX7_readLine_174 : decode cX7_readLine 174 = .ok (.ifCond .eq 28, 3) := by decide +kernel
theorem dX7_readLine_177 : decode cX7_readLine 177 = .ok (.aload_n 0, 1) := by decide +kernel
theorem dX7_readLine_178 : decode cX7_readLine 178 = .ok (.getfield 18, 3) := by decide +kernel
theorem dX7_readLine_181 : decode cX7_readLine 181 = .ok (.getfield 99, 3) := by decide +kernel
theorem dX7_readLine_184 : decode cX7_readLine 184 = .ok (.bipush 8, 2) := by decide +kernel
theorem dX7_readLine_186 : decode cX7_readLine 186 = .ok (.if_icmp .lt 11, 3) := by decide +kernel
theorem dX7_readLine_189 : decode cX7_readLine 189 = .ok (.aload_n 0, 1) := by decide +kernel
theorem dX7_readLine_190 : decode cX7_readLine 190 = .ok (.iconst 5, 1) := by decide +kernel
theorem dX7_readLine_191 : decode cX7_readLine 191 = .ok (.invokevirtual 58, 3) := by decide +kernel
theorem dX7_readLine_194 : decode cX7_readLine 194 = .ok (.goto 7, 3) := by decide +kernel
theorem dX7_readLine_197 : decode cX7_readLine 197 = .ok (.aload_n 0, 1) := by decide +kernel
theorem dX7_readLine_198 : decode cX7_readLine 198 = .ok (.invokevirtual 102, 3) := by decide +kernel
theorem dX7_readLine_201 : decode cX7_readLine 201 = .ok (.ireturn, 1) := by decide +kernel
theorem dX7_readLine_202 : decode cX7_readLine 202 = .ok (.aload_n 0, 1) := by decide +kernel
theorem dX7_readLine_203 : decode cX7_readLine 203 = .ok (.ldc 83, 2) := by decide +kernel
theorem dX7_readLine_205 : decode cX7_readLine 205 = .ok (.invokevirtual 68, 3) := by decide +kernel
theorem dX7_readLine_208 : decode cX7_readLine 208 = .ok (.ifCond .eq 26, 3) := by decide +kernel
theorem dX7_readLine_211 : decode cX7_readLine 211 = .ok (.aload_n 0, 1) := by decide +kernel
theorem dX7_readLine_212 : decode cX7_readLine 212 = .ok (.getfield 18, 3) := by decide +kernel
theorem dX7_readLine_215 : decode cX7_readLine 215 = .ok (.invokevirtual 55, 3) := by decide +kernel
theorem dX7_readLine_218 : decode cX7_readLine 218 = .ok (.ifCond .eq 11, 3) := by decide +kernel
theorem dX7_readLine_221 : decode cX7_readLine 221 = .ok (.aload_n 0, 1) := by decide +kernel
theorem dX7_readLine_222 : decode cX7_readLine 222 = .ok (.iconst 3, 1) := by decide +kernel
theorem dX7_readLine_223 : decode cX7_readLine 223 = .ok (.invokevirtual 58, 3) := by decide +kernel
theorem dX7_readLine_226 : decode cX7_readLine 226 = .ok (.goto 7, 3) := by decide +kernel
theorem dX7_readLine_229 : decode cX7_readLine 229 = .ok (.aload_n 0, 1) := by decide +kernel
theorem dX7_readLine_230 : decode cX7_readLine 230 = .ok (.invokevirtual 105, 3) := by decide +kernel
theorem dX7_readLine_233 : decode cX7_readLine 233 = .ok (.ireturn, 1) := by decide +kernel
theorem dX7_readLine_234 : decode cX7_readLine 234 = .ok (.aload_n 0, 1) := by decide +kernel
theorem dX7_readLine_235 : decode cX7_readLine 235 = .ok (.getfield 18, 3) := by decide +kernel
theorem dX7_readLine_238 : decode cX7_readLine 238 = .ok (.getfield 108, 3) := by decide +kernel
theorem dX7_readLine_241 : decode cX7_readLine 241 = .ok (.iconst 5, 1) := by decide +kernel
theorem dX7_readLine_242 : decode cX7_readLine 242 = .ok (.if_icmp .lt 11, 3) := by decide +kernel
theorem dX7_readLine_245 : decode cX7_readLine 245 = .ok (.aload_n 0, 1) := by decide +kernel
theorem dX7_readLine_246 : decode cX7_readLine 246 = .ok (.iconst 5, 1) := by decide +kernel
theorem dX7_readLine_247 : decode cX7_readLine 247 = .ok (.invokevirtual 58, 3) := by decide +kernel
theorem dX7_readLine_250 : decode cX7_readLine 250 = .ok (.goto 7, 3) := by decide +kernel
theorem dX7_readLine_253 : decode cX7_readLine 253 = .ok (.aload_n 0, 1) := by decide +kernel
theorem dX7_readLine_254 : decode cX7_readLine 254 = .ok (.invokevirtual 111, 3) := by decide +kernel
theorem dX7_readLine_257 : decode cX7_readLine 257 = .ok (.ireturn, 1) := by decide +kernel
theorem dX7_readCar_0 : decode cX7_readCar 0 = .ok (.aload_n 0, 1) := by decide +kernel
theorem dX7_readCar_1 : decode cX7_readCar 1 = .ok (.invokevirtual 45, 3) := by decide +kernel
theorem dX7_readCar_4 : decode cX7_readCar 4 = .ok (.aload_n 0, 1) := by decide +kernel
theorem dX7_readCar_5 : decode cX7_readCar 5 = .ok (.ldc 114, 2) := by decide +kernel
theorem dX7_readCar_7 : decode cX7_readCar 7 = .ok (.invokevirtual 115, 3) := by decide +kernel
theorem dX7_readCar_10 : decode cX7_readCar 10 = .ok (.ifCond .eq 13, 3) := by decide +kernel
theorem dX7_readCar_13 : decode cX7_readCar 13 = .ok (.aload_n 0, 1) := by decide +kernel
theorem dX7_readCar_14 : decode cX7_readCar 14 = .ok (.iconst 1, 1) := by decide +kernel
theorem dX7_readCar_15 : decode cX7_readCar 15 = .ok (.bipush 40, 2) := by decide +kernel
theorem dX7_readCar_17 : decode cX7_readCar 17 = .ok (.invokevirtual 118, 3) := by decide +kernel
theorem dX7_readCar_20 : decode cX7_readCar 20 = .ok (.ifCond .ne 5, 3) := by decide +kernel
theorem dX7_readCar_23 : decode cX7_readCar 23 = .ok (.iconst 0, 1) := by decide +kernel
theorem dX7_readCar_24 : decode cX7_readCar 24 = .ok (.ireturn, 1) := by decide +kernel
theorem dX7_readCar_25 : decode cX7_readCar 25 = .ok (.aload_n 0, 1) := by decide +kernel
theorem dX7_readCar_26 : decode cX7_readCar 26 = .ok (.getfield 122, 3) := by decide +kernel
theorem dX7_readCar_29 : decode cX7_readCar 29 = .ok (.istore_n 1, 1) := by decide +kernel
theorem dX7_readCar_30 : decode cX7_readCar 30 = .ok (.aload_n 0, 1) := by decide +kernel
theorem dX7_readCar_31 : decode cX7_readCar 31 = .ok (.ldc 125, 2) := by decide +kernel
theorem dX7_readCar_33 : decode cX7_readCar 33 = .ok (.invokevirtual 115, 3) := by decide +kernel
theorem dX7_readCar_36 : decode cX7_readCar 36 = .ok (.ifCond .eq 12, 3) := by decide +kernel
theorem dX7_readCar_39 : decode cX7_readCar 39 = .ok (.aload_n 0, 1) := by decide +kernel
theorem dX7_readCar_40 : decode cX7_readCar 40 = .ok (.iconst 0, 1) := by decide +kernel
theorem dX7_readCar_41 : decode cX7_readCar 41 = .ok (.iload_n 1, 1) := by decide +kernel
theorem dX7_readCar_42 : decode cX7_readCar 42 = .ok (.invokevirtual 118, 3) := by decide +kernel
theorem dX7_readCar_45 : decode cX7_readCar 45 = .ok (.ifCond .ne 5, 3) := by decide +kernel
theorem dX7_readCar_48 : decode cX7_readCar 48 = .ok (.iconst 0, 1) := by decide +kernel
theorem dX7_readCar_49 : decode cX7_readCar 49 = .ok (.ireturn, 1) := by decide +kernel
theorem dX7_readCar_50 : decode cX7_readCar 50 = .ok (.aload_n 0, 1) := by decide +kernel
theorem dX7_readCar_51 : decode cX7_readCar 51 = .ok (.getfield 18, 3) := by decide +kernel
theorem dX7_readCar_54 : decode cX7_readCar 54 = .ok (.aload_n 0, 1) := by decide +kernel
theorem dX7_readCar_55 : decode cX7_readCar 55 = .ok (.getfield 122, 3) := by decide +kernel
theorem dX7_readCar_58 : decode cX7_readCar 58 = .ok (.putfield 127, 3) := by decide +kernel
theorem dX7_readCar_61 : decode cX7_readCar 61 = .ok (.aload_n 0, 1) := by decide +kernel
theorem dX7_readCar_62 : decode cX7_readCar 62 = .ok (.ldc 129, 2) := by decide +kernel
theorem dX7_readCar_64 : decode cX7_readCar 64 = .ok (.invokevirtual 115, 3) := by decide +kernel
theorem dX7_readCar_67 : decode cX7_readCar 67 = .ok (.ifCond .eq 13, 3) := by decide +kernel
theorem dX7_readCar_70 : decode cX7_readCar 70 = .ok (.aload_n 0, 1) := by decide +kernel
theorem dX7_readCar_71 : decode cX7_readCar 71 = .ok (.iconst 0, 1) := by decide +kernel
theorem dX7_readCar_72 : decode cX7_readCar 72 = .ok (.bipush 99, 2) := by decide +kernel
theorem dX7_readCar_74 : decode cX7_readCar 74 = .ok (.invokevirtual 118, 3) := by decide +kernel
theorem dX7_readCar_77 : decode cX7_readCar 77 = .ok (.ifCond .ne 5, 3) := by decide +kernel
theorem dX7_readCar_80 : decode cX7_readCar 80 = .ok (.iconst 0, 1) := by decide +kernel
theorem dX7_readCar_81 : decode cX7_readCar 81 = .ok (.ireturn, 1) := by decide +kernel
theorem dX7_readCar_82 : decode cX7_readCar 82 = .ok (.aload_n 0, 1) := by decide +kernel
theorem dX7_readCar_83 : decode cX7_readCar 83 = .ok (.getfield 18, 3) := by decide +kernel
theorem dX7_readCar_86 : decode cX7_readCar 86 = .ok (.aload_n 0, 1) := by decide +kernel
theorem dX7_readCar_87 : decode cX7_readCar 87 = .ok (.getfield 122, 3) := by decide +kernel
theorem dX7_readCar_90 : decode cX7_readCar 90 = .ok (.putfield 131, 3) := by decide +kernel
theorem dX7_readCar_93 : decode cX7_readCar 93 = .ok (.aload_n 0, 1) := by decide +kernel
theorem dX7_readCar_94 : decode cX7_readCar 94 = .ok (.bipush 44, 2) := by decide +kernel
theorem dX7_readCar_96 : decode cX7_readCar 96 = .ok (.invokevirtual 62, 3) := by decide +kernel
theorem dX7_readCar_99 : decode cX7_readCar 99 = .ok (.ifCond .eq 13, 3) := by decide +kernel
theorem dX7_readCar_102 : decode cX7_readCar 102 = .ok (.aload_n 0, 1) := by decide +kernel
theorem dX7_readCar_103 : decode cX7_readCar 103 = .ok (.iconst 0, 1) := by decide +kernel
theorem dX7_readCar_104 : decode cX7_readCar 104 = .ok (.bipush 60, 2) := by decide +kernel
theorem dX7_readCar_106 : decode cX7_readCar 106 = .ok (.invokevirtual 118, 3) := by decide +kernel
theorem dX7_readCar_109 : decode cX7_readCar 109 = .ok (.ifCond .ne 5, 3) := by decide +kernel
theorem dX7_readCar_112 : decode cX7_readCar 112 = .ok (.iconst 0, 1) := by decide +kernel
theorem dX7_readCar_113 : decode cX7_readCar 113 = .ok (.ireturn, 1) := by decide +kernel
theorem dX7_readCar_114 : decode cX7_readCar 114 = .ok (.aload_n 0, 1) := by decide +kernel
theorem dX7_readCar_115 : decode cX7_readCar 115 = .ok (.getfield 18, 3) := by decide +kernel
theorem dX7_readCar_118 : decode cX7_readCar 118 = .ok (.aload_n 0, 1) := by decide +kernel
theorem dX7_readCar_119 : decode cX7_readCar 119 = .ok (.getfield 122, 3) := by decide +kernel
theorem dX7_readCar_122 : decode cX7_readCar 122 = .ok (.putfield 134, 3) := by decide +kernel
theorem dX7_readCar_125 : decode cX7_readCar 125 = .ok (.aload_n 0, 1) := by decide +kernel
theorem dX7_readCar_126 : decode cX7_readCar 126 = .ok (.ldc 137, 2) := by decide +kernel
theorem dX7_readCar_128 : decode cX7_readCar 128 = .ok (.invokevirtual 115, 3) := by decide +kernel
theorem dX7_readCar_131 : decode cX7_readCar 131 = .ok (.ifCond .eq 14, 3) := by decide +kernel
theorem dX7_readCar_134 : decode cX7_readCar 134 = .ok (.aload_n 0, 1) := by decide +kernel
theorem dX7_readCar_135 : decode cX7_readCar 135 = .ok (.iconst 0, 1) := by decide +kernel
theorem dX7_readCar_136 : decode cX7_readCar 136 = .ok (.sipush 999, 3) := by decide +kernel
theorem dX7_readCar_139 : decode cX7_readCar 139 = .ok (.invokevirtual 118, 3) := by decide +kernel
theorem dX7_readCar_142 : decode cX7_readCar 142 = .ok (.ifCond .ne 5, 3) := by decide +kernel
theorem dX7_readCar_145 : decode cX7_readCar 145 = .ok (.iconst 0, 1) := by decide +kernel
theorem dX7_readCar_146 : decode cX7_readCar 146 = .ok (.ireturn, 1) := by decide +kernel
theorem dX7_readCar_147 : decode cX7_readCar 147 = .ok (.aload_n 0, 1) := by decide +kernel
theorem dX7_readCar_148 : decode cX7_readCar 148 = .ok (.getfield 18, 3) := by decide +kernel
theorem dX7_readCar_151 : decode cX7_readCar 151 = .ok (.aload_n 0, 1) := by decide +kernel
theorem dX7_readCar_152 : decode cX7_readCar 152 = .ok (.getfield 122, 3) := by decide +kernel
theorem dX7_readCar_155 : decode cX7_readCar 155 = .ok (.putfield 139, 3) := by decide +kernel
theorem dX7_readCar_158 : decode cX7_readCar 158 = .ok (.aload_n 0, 1) := by decide +kernel
theorem dX7_readCar_159 : decode cX7_readCar 159 = .ok (.getfield 18, 3) := by decide +kernel
theorem dX7_readCar_162 : decode cX7_readCar 162 = .ok (.iload_n 1, 1) := by decide +kernel
theorem dX7_readCar_163 : decode cX7_readCar 163 = .ok (.putfield 72, 3) := by decide +kernel
theorem dX7_readCar_166 : decode cX7_readCar 166 = .ok (.iconst 1, 1) := by decide +kernel
theorem dX7_readCar_167 : decode cX7_readCar 167 = .ok (.ireturn, 1) := by decide +kernel
theorem dX7_readPlace_0 : decode cX7_readPlace 0 = .ok (.aload_n 0, 1) := by decide +kernel
theorem dX7_readPlace_1 : decode cX7_readPlace 1 = .ok (.invokevirtual 45, 3) := by decide +kernel
theorem dX7_readPlace_4 : decode cX7_readPlace 4 = .ok (.aload_n 0, 1) := by decide +kernel
theorem dX7_readPlace_5 : decode cX7_readPlace 5 = .ok (.invokevirtual 141, 3) := by decide +kernel
theorem dX7_readPlace_8 : decode cX7_readPlace 8 = .ok (.ifCond .ne 9, 3) := by decide +kernel
theorem dX7_readPlace_11 : decode cX7_readPlace 11 = .ok (.aload_n 0, 1) := by decide +kernel
theorem dX7_readPlace_12 : decode cX7_readPlace 12 = .ok (.iconst 1, 1) := by decide +kernel
theorem dX7_readPlace_13 : decode cX7_readPlace 13 = .ok (.invokevirtual 58, 3) := by decide +kernel
theorem dX7_readPlace_16 : decode cX7_readPlace 16 = .ok (.ireturn, 1) := by decide +kernel
theorem dX7_readPlace_17 : decode cX7_readPlace 17 = .ok (.aload_n 0, 1) := by decide +kernel
theorem dX7_readPlace_18 : decode cX7_readPlace 18 = .ok (.invokevirtual 144, 3) := by decide +kernel
theorem dX7_readPlace_21 : decode cX7_readPlace 21 = .ok (.iconst (-1), 1) := by decide +kernel
theorem dX7_readPlace_22 : decode cX7_readPlace 22 = .ok (.if_icmp .eq 9, 3) := by decide +kernel
theorem dX7_readPlace_25 : decode cX7_readPlace 25 = .ok (.aload_n 0, 1) := by decide +kernel
theorem dX7_readPlace_26 : decode cX7_readPlace 26 = .ok (.iconst 3, 1) := by decide +kernel
theorem dX7_readPlace_27 : decode cX7_readPlace 27 = .ok (.invokevirtual 58, 3) := by decide +kernel
theorem dX7_readPlace_30 : decode cX7_readPlace 30 = .ok (.ireturn, 1) := by decide +kernel
theorem dX7_readPlace_31 : decode cX7_readPlace 31 = .ok (.aload_n 0, 1) := by decide +kernel
theorem dX7_readPlace_32 : decode cX7_readPlace 32 = .ok (.getfield 22, 3) := by decide +kernel
theorem dX7_readPlace_35 : decode cX7_readPlace 35 = .ok (.aload_n 0, 1) := by decide +kernel
theorem dX7_readPlace_36 : decode cX7_readPlace 36 = .ok (.getfield 18, 3) := by decide +kernel
theorem dX7_readPlace_39 : decode cX7_readPlace 39 = .ok (.getfield 87, 3) := by decide +kernel
theorem dX7_readPlace_42 : decode cX7_readPlace 42 = .ok (.aload_n 0, 1) := by decide +kernel
theorem dX7_readPlace_43 : decode cX7_readPlace 43 = .ok (.getfield 148, 3) := by decide +kernel
theorem dX7_readPlace_46 : decode cX7_readPlace 46 = .ok (.iastore, 1) := by decide +kernel
theorem dX7_readPlace_47 : decode cX7_readPlace 47 = .ok (.aload_n 0, 1) := by decide +kernel
theorem dX7_readPlace_48 : decode cX7_readPlace 48 = .ok (.getfield 26, 3) := by decide +kernel
theorem dX7_readPlace_51 : decode cX7_readPlace 51 = .ok (.aload_n 0, 1) := by decide +kernel
theorem dX7_readPlace_52 : decode cX7_readPlace 52 = .ok (.getfield 18, 3) := by decide +kernel
theorem dX7_readPlace_55 : decode cX7_readPlace 55 = .ok (.getfield 87, 3) := by decide +kernel
theorem dX7_readPlace_58 : decode cX7_readPlace 58 = .ok (.aload_n 0, 1) := by decide +kernel
theorem dX7_readPlace_59 : decode cX7_readPlace 59 = .ok (.getfield 42, 3) := by decide +kernel
theorem dX7_readPlace_62 : decode cX7_readPlace 62 = .ok (.iastore, 1) := by decide +kernel
theorem dX7_readPlace_63 : decode cX7_readPlace 63 = .ok (.aload_n 0, 1) := by decide +kernel
theorem dX7_readPlace_64 : decode cX7_readPlace 64 = .ok (.getfield 18, 3) := by decide +kernel
theorem dX7_readPlace_67 : decode cX7_readPlace 67 = .ok (.dup, 1) := by decide +kernel
theorem dX7_readPlace_68 : decode cX7_readPlace 68 = .ok (.getfield 87, 3) := by decide +kernel
theorem dX7_readPlace_71 : decode cX7_readPlace 71 = .ok (.iconst 1, 1) := by decide +kernel
theorem dX7_readPlace_72 : decode cX7_readPlace 72 = .ok (.iadd, 1) := by decide +kernel
theorem dX7_readPlace_73 : decode cX7_readPlace 73 = .ok (.putfield 87, 3) := by decide +kernel
theorem dX7_readPlace_76 : decode cX7_readPlace 76 = .ok (.aload_n 0, 1) := by decide +kernel
theorem dX7_readPlace_77 : decode cX7_readPlace 77 = .ok (.invokevirtual 45, 3) := by decide +kernel
theorem dX7_readPlace_80 : decode cX7_readPlace 80 = .ok (.iconst 1, 1) := by decide +kernel
theorem dX7_readPlace_81 : decode cX7_readPlace 81 = .ok (.ireturn, 1) := by decide +kernel
theorem dX7_readRoadBetween_0 : decode cX7_readRoadBetween 0 = .ok (.aload_n 0, 1) := by decide +kernel
theorem dX7_readRoadBetween_1 : decode cX7_readRoadBetween 1 = .ok (.invokevirtual 45, 3) := by decide +kernel
theorem dX7_readRoadBetween_4 : decode cX7_readRoadBetween 4 = .ok (.aload_n 0, 1) := by decide +kernel
theorem dX7_readRoadBetween_5 : decode cX7_readRoadBetween 5 = .ok (.invokevirtual 151, 3) := by decide +kernel
theorem dX7_readRoadBetween_8 : decode cX7_readRoadBetween 8 = .ok (.ifCond .ne 5, 3) := by decide +kernel
theorem dX7_readRoadBetween_11 : decode cX7_readRoadBetween 11 = .ok (.iconst 0, 1) := by decide +kernel
theorem dX7_readRoadBetween_12 : decode cX7_readRoadBetween 12 = .ok (.ireturn, 1) := by decide +kernel
theorem dX7_readRoadBetween_13 : decode cX7_readRoadBetween 13 = .ok (.aload_n 0, 1) := by decide +kernel
theorem dX7_readRoadBetween_14 : decode cX7_readRoadBetween 14 = .ok (.invokevirtual 144, 3) := by decide +kernel
theorem dX7_readRoadBetween_17 : decode cX7_readRoadBetween 17 = .ok (.istore_n 1, 1) := by decide +kernel
theorem dX7_readRoadBetween_18 : decode cX7_readRoadBetween 18 = .ok (.aload_n 0, 1) := by decide +kernel
theorem dX7_readRoadBetween_19 : decode cX7_readRoadBetween 19 = .ok (.invokevirtual 45, 3) := by decide +kernel
theorem dX7_readRoadBetween_22 : decode cX7_readRoadBetween 22 = .ok (.aload_n 0, 1) := by decide +kernel
theorem dX7_readRoadBetween_23 : decode cX7_readRoadBetween 23 = .ok (.invokevirtual 151, 3) := by decide +kernel
theorem dX7_readRoadBetween_26 : decode cX7_readRoadBetween 26 = .ok (.ifCond .ne 5, 3) := by decide +kernel
theorem dX7_readRoadBetween_29 : decode cX7_readRoadBetween 29 = .ok (.iconst 0, 1) := by decide +kernel
theorem dX7_readRoadBetween_30 : decode cX7_readRoadBetween 30 = .ok (.ireturn, 1) := by decide +kernel
theorem dX7_readRoadBetween_31 : decode cX7_readRoadBetween 31 = .ok (.aload_n 0, 1) := by decide +kernel
theorem dX7_readRoadBetween_32 : decode cX7_readRoadBetween 32 = .ok (.invokevirtual 144, 3) := by decide +kernel
theorem dX7_readRoadBetween_35 : decode cX7_readRoadBetween 35 = .ok (.istore_n 2, 1) := by decide +kernel
theorem dX7_readRoadBetween_36 : decode cX7_readRoadBetween 36 = .ok (.iload_n 1, 1) := by decide +kernel
theorem dX7_readRoadBetween_37 : decode cX7_readRoadBetween 37 = .ok (.iload_n 2, 1) := by decide +kernel
theorem dX7_readRoadBetween_38 : decode cX7_readRoadBetween 38 = .ok (.if_icmp .eq 15, 3) := by decide +kernel
theorem dX7_readRoadBetween_41 : decode cX7_readRoadBetween 41 = .ok (.aload_n 0, 1) := by decide +kernel
theorem dX7_readRoadBetween_42 : decode cX7_readRoadBetween 42 = .ok (.getfield 18, 3) := by decide +kernel
theorem dX7_readRoadBetween_45 : decode cX7_readRoadBetween 45 = .ok (.iload_n 1, 1) := by decide +kernel
theorem dX7_readRoadBetween_46 : decode cX7_readRoadBetween 46 = .ok (.iload_n 2, 1) := by decide +kernel
theorem dX7_readRoadBetween_47 : decode cX7_readRoadBetween 47 = .ok (.invokevirtual 154, 3) := by decide +kernel
theorem dX7_readRoadBetween_50 : decode cX7_readRoadBetween 50 = .ok (.ifCond .eq 9, 3) := by decide +kernel
theorem dX7_readRoadBetween_53 : decode cX7_readRoadBetween 53 = .ok (.aload_n 0, 1) := by decide +kernel
theorem dX7_readRoadBetween_54 : decode cX7_readRoadBetween 54 = .ok (.iconst 3, 1) := by decide +kernel
theorem dX7_readRoadBetween_55 : decode cX7_readRoadBetween 55 = .ok (.invokevirtual 58, 3) := by decide +kernel
theorem dX7_readRoadBetween_58 : decode cX7_readRoadBetween 58 = .ok (.ireturn, 1) := by decide +kernel
theorem dX7_readRoadBetween_59 : decode cX7_readRoadBetween 59 = .ok (.aload_n 0, 1) := by decide +kernel
theorem dX7_readRoadBetween_60 : decode cX7_readRoadBetween 60 = .ok (.invokevirtual 45, 3) := by decide +kernel
theorem dX7_readRoadBetween_63 : decode cX7_readRoadBetween 63 = .ok (.aload_n 0, 1) := by decide +kernel
theorem dX7_readRoadBetween_64 : decode cX7_readRoadBetween 64 = .ok (.ldc 157, 2) := by decide +kernel
theorem dX7_readRoadBetween_66 : decode cX7_readRoadBetween 66 = .ok (.invokevirtual 115, 3) := by decide +kernel
theorem dX7_readRoadBetween_69 : decode cX7_readRoadBetween 69 = .ok (.ifCond .eq 13, 3) := by decide +kernel
theorem dX7_readRoadBetween_72 : decode cX7_readRoadBetween 72 = .ok (.aload_n 0, 1) := by decide +kernel
theorem dX7_readRoadBetween_73 : decode cX7_readRoadBetween 73 = .ok (.iconst 1, 1) := by decide +kernel
theorem dX7_readRoadBetween_74 : decode cX7_readRoadBetween 74 = .ok (.bipush 40, 2) := by decide +kernel
theorem dX7_readRoadBetween_76 : decode cX7_readRoadBetween 76 = .ok (.invokevirtual 118, 3) := by decide +kernel
theorem dX7_readRoadBetween_79 : decode cX7_readRoadBetween 79 = .ok (.ifCond .ne 5, 3) := by decide +kernel
theorem dX7_readRoadBetween_82 : decode cX7_readRoadBetween 82 = .ok (.iconst 0, 1) := by decide +kernel
theorem dX7_readRoadBetween_83 : decode cX7_readRoadBetween 83 = .ok (.ireturn, 1) := by decide +kernel
theorem dX7_readRoadBetween_84 : decode cX7_readRoadBetween 84 = .ok (.aload_n 0, 1) := by decide +kernel
theorem dX7_readRoadBetween_85 : decode cX7_readRoadBetween 85 = .ok (.getfield 122, 3) := by decide +kernel
theorem dX7_readRoadBetween_88 : decode cX7_readRoadBetween 88 = .ok (.istore_n 3, 1) := by decide +kernel
theorem dX7_readRoadBetween_89 : decode cX7_readRoadBetween 89 = .ok (.aload_n 0, 1) := by decide +kernel
theorem dX7_readRoadBetween_90 : decode cX7_readRoadBetween 90 = .ok (.ldc 159, 2) := by decide +kernel
theorem dX7_readRoadBetween_92 : decode cX7_readRoadBetween 92 = .ok (.invokevirtual 115, 3) := by decide +kernel
theorem dX7_readRoadBetween_95 : decode cX7_readRoadBetween 95 = .ok (.ifCond .eq 13, 3) := by decide +kernel
theorem dX7_readRoadBetween_98 : decode cX7_readRoadBetween 98 = .ok (.aload_n 0, 1) := by decide +kernel
theorem dX7_readRoadBetween_99 : decode cX7_readRoadBetween 99 = .ok (.iconst 0, 1) := by decide +kernel
theorem dX7_readRoadBetween_100 : decode cX7_readRoadBetween 100 = .ok (.bipush 99, 2) := by decide +kernel
theorem dX7_readRoadBetween_102 : decode cX7_readRoadBetween 102 = .ok (.invokevirtual 118, 3) := by decide +kernel
theorem dX7_readRoadBetween_105 : decode cX7_readRoadBetween 105 = .ok (.ifCond .ne 5, 3) := by decide +kernel
theorem dX7_readRoadBetween_108 : decode cX7_readRoadBetween 108 = .ok (.iconst 0, 1) := by decide +kernel
theorem dX7_readRoadBetween_109 : decode cX7_readRoadBetween 109 = .ok (.ireturn, 1) := by decide +kernel
theorem dX7_readRoadBetween_110 : decode cX7_readRoadBetween 110 = .ok (.aload_n 0, 1) := by decide +kernel
theorem dX7_readRoadBetween_111 : decode cX7_readRoadBetween 111 = .ok (.getfield 18, 3) := by decide +kernel
theorem dX7_readRoadBetween_114 : decode cX7_readRoadBetween 114 = .ok (.iload_n 1, 1) := by decide +kernel
theorem dX7_readRoadBetween_115 : decode cX7_readRoadBetween 115 = .ok (.iload_n 2, 1) := by decide +kernel
theorem dX7_readRoadBetween_116 : decode cX7_readRoadBetween 116 = .ok (.iload_n 3, 1) := by decide +kernel
theorem dX7_readRoadBetween_117 : decode cX7_readRoadBetween 117 = .ok (.aload_n 0, 1) := by decide +kernel
theorem dX7_readRoadBetween_118 : decode cX7_readRoadBetween 118 = .ok (.getfield 122, 3) := by decide +kernel
theorem dX7_readRoadBetween_121 : decode cX7_readRoadBetween 121 = .ok (.invokevirtual 161, 3) := by decide +kernel
theorem dX7_readRoadBetween_124 : decode cX7_readRoadBetween 124 = .ok (.iconst 1, 1) := by decide +kernel
theorem dX7_readRoadBetween_125 : decode cX7_readRoadBetween 125 = .ok (.ireturn, 1) := by decide +kernel
theorem dX7_readPump_0 : decode cX7_readPump 0 = .ok (.aload_n 0, 1) := by decide +kernel
theorem dX7_readPump_1 : decode cX7_readPump 1 = .ok (.invokevirtual 45, 3) := by decide +kernel
theorem dX7_readPump_4 : decode cX7_readPump 4 = .ok (.aload_n 0, 1) := by decide +kernel
theorem dX7_readPump_5 : decode cX7_readPump 5 = .ok (.invokevirtual 151, 3) := by decide +kernel
theorem dX7_readPump_8 : decode cX7_readPump 8 = .ok (.ifCond .ne 5, 3) := by decide +kernel
theorem dX7_readPump_11 : decode cX7_readPump 11 = .ok (.iconst 0, 1) := by decide +kernel
theorem dX7_readPump_12 : decode cX7_readPump 12 = .ok (.ireturn, 1) := by decide +kernel
theorem dX7_readPump_13 : decode cX7_readPump 13 = .ok (.aload_n 0, 1) := by decide +kernel
theorem dX7_readPump_14 : decode cX7_readPump 14 = .ok (.invokevirtual 144, 3) := by decide +kernel
theorem dX7_readPump_17 : decode cX7_readPump 17 = .ok (.istore_n 1, 1) := by decide +kernel
theorem dX7_readPump_18 : decode cX7_readPump 18 = .ok (.aload_n 0, 1) := by decide +kernel
theorem dX7_readPump_19 : decode cX7_readPump 19 = .ok (.getfield 18, 3) := by decide +kernel
theorem dX7_readPump_22 : decode cX7_readPump 22 = .ok (.getfield 165, 3) := by decide +kernel
theorem dX7_readPump_25 : decode cX7_readPump 25 = .ok (.iload_n 1, 1) := by decide +kernel
theorem dX7_readPump_26 : decode cX7_readPump 26 = .ok (.iaload, 1) := by decide +kernel
theorem dX7_readPump_27 : decode cX7_readPump 27 = .ok (.ifCond .le 9, 3) := by decide +kernel
theorem dX7_readPump_30 : decode cX7_readPump 30 = .ok (.aload_n 0, 1) := by decide +kernel
theorem dX7_readPump_31 : decode cX7_readPump 31 = .ok (.iconst 3, 1) := by decide +kernel
theorem dX7_readPump_32 : decode cX7_readPump 32 = .ok (.invokevirtual 58, 3) := by decide +kernel
theorem dX7_readPump_35 : decode cX7_readPump 35 = .ok (.ireturn, 1) := by decide +kernel
theorem dX7_readPump_36 : decode cX7_readPump 36 = .ok (.aload_n 0, 1) := by decide +kernel
theorem dX7_readPump_37 : decode cX7_readPump 37 = .ok (.invokevirtual 45, 3) := by decide +kernel
theorem dX7_readPump_40 : decode cX7_readPump 40 = .ok (.aload_n 0, 1) := by decide +kernel
theorem dX7_readPump_41 : decode cX7_readPump 41 = .ok (.ldc 168, 2) := by decide +kernel
theorem dX7_readPump_43 : decode cX7_readPump 43 = .ok (.invokevirtual 115, 3) := by decide +kernel
theorem dX7_readPump_46 : decode cX7_readPump 46 = .ok (.ifCond .eq 13, 3) := by decide +kernel
theorem dX7_readPump_49 : decode cX7_readPump 49 = .ok (.aload_n 0, 1) := by decide +kernel
theorem dX7_readPump_50 : decode cX7_readPump 50 = .ok (.iconst 1, 1) := by decide +kernel
theorem dX7_readPump_51 : decode cX7_readPump 51 = .ok (.bipush 99, 2) := by decide +kernel
theorem dX7_readPump_53 : decode cX7_readPump 53 = .ok (.invokevirtual 118, 3) := by decide +kernel
theorem dX7_readPump_56 : decode cX7_readPump 56 = .ok (.ifCond .ne 5, 3) := by decide +kernel
theorem dX7_readPump_59 : decode cX7_readPump 59 = .ok (.iconst 0, 1) := by decide +kernel
theorem dX7_readPump_60 : decode cX7_readPump 60 = .ok (.ireturn, 1) := by decide +kernel
theorem dX7_readPump_61 : decode cX7_readPump 61 = .ok (.aload_n 0, 1) := by decide +kernel
theorem dX7_readPump_62 : decode cX7_readPump 62 = .ok (.getfield 18, 3) := by decide +kernel
theorem dX7_readPump_65 : decode cX7_readPump 65 = .ok (.getfield 165, 3) := by decide +kernel
theorem dX7_readPump_68 : decode cX7_readPump 68 = .ok (.iload_n 1, 1) := by decide +kernel
theorem dX7_readPump_69 : decode cX7_readPump 69 = .ok (.aload_n 0, 1) := by decide +kernel
theorem dX7_readPump_70 : decode cX7_readPump 70 = .ok (.getfield 122, 3) := by decide +kernel
theorem dX7_readPump_73 : decode cX7_readPump 73 = .ok (.iastore, 1) := by decide +kernel
theorem dX7_readPump_74 : decode cX7_readPump 74 = .ok (.aload_n 0, 1) := by decide +kernel
theorem dX7_readPump_75 : decode cX7_readPump 75 = .ok (.ldc 170, 2) := by decide +kernel
theorem dX7_readPump_77 : decode cX7_readPump 77 = .ok (.invokevirtual 68, 3) := by decide +kernel
theorem dX7_readPump_80 : decode cX7_readPump 80 = .ok (.ifCond .eq 60, 3) := by decide +kernel
theorem dX7_readPump_83 : decode cX7_readPump 83 = .ok (.aload_n 0, 1) := by decide +kernel
theorem dX7_readPump_84 : decode cX7_readPump 84 = .ok (.invokevirtual 45, 3) := by decide +kernel
theorem dX7_readPump_87 : decode cX7_readPump 87 = .ok (.aload_n 0, 1) := by decide +kernel
theorem dX7_readPump_88 : decode cX7_readPump 88 = .ok (.getfield 148, 3) := by decide +kernel
theorem dX7_readPump_91 : decode cX7_readPump 91 = .ok (.istore_n 2, 1) := by decide +kernel
theorem dX7_readPump_92 : decode cX7_readPump 92 = .ok (.aload_n 0, 1) := by decide +kernel
theorem dX7_readPump_93 : decode cX7_readPump 93 = .ok (.iconst 1, 1) := by decide +kernel
theorem dX7_readPump_94 : decode cX7_readPump 94 = .ok (.bipush 99, 2) := by decide +kernel
theorem dX7_readPump_96 : decode cX7_readPump 96 = .ok (.invokevirtual 118, 3) := by decide +kernel
theorem dX7_readPump_99 : decode cX7_readPump 99 = .ok (.ifCond .ne 5, 3) := by decide +kernel
theorem dX7_readPump_102 : decode cX7_readPump 102 = .ok (.iconst 0, 1) := by decide +kernel
theorem dX7_readPump_103 : decode cX7_readPump 103 = .ok (.ireturn, 1) := by decide +kernel
theorem dX7_readPump_104 : decode cX7_readPump 104 = .ok (.aload_n 0, 1) := by decide +kernel
theorem dX7_readPump_105 : decode cX7_readPump 105 = .ok (.getfield 122, 3) := by decide +kernel
theorem dX7_readPump_108 : decode cX7_readPump 108 = .ok (.aload_n 0, 1) := by decide +kernel
theorem dX7_readPump_109 : decode cX7_readPump 109 = .ok (.getfield 18, 3) := by decide +kernel
theorem dX7_readPump_112 : decode cX7_readPump 112 = .ok (.getfield 165, 3) := by decide +kernel
theorem dX7_readPump_115 : decode cX7_readPump 115 = .ok (.iload_n 1, 1) := by decide +kernel
theorem dX7_readPump_116 : decode cX7_readPump 116 = .ok (.iaload, 1) := by decide +kernel
theorem dX7_readPump_117 : decode cX7_readPump 117 = .ok (.if_icmp .ne 10, 3) := by decide +kernel
theorem dX7_readPump_120 : decode cX7_readPump 120 = .ok (.aload_n 0, 1) := by decide +kernel
theorem dX7_readPump_121 : decode cX7_readPump 121 = .ok (.iconst 3, 1) := by decide +kernel
theorem dX7_readPump_122 : decode cX7_readPump 122 = .ok (.iload_n 2, 1) := by decide +kernel
theorem dX7_readPump_123 : decode cX7_readPump 123 = .ok (.invokevirtual 172, 3) := by decide +kernel
theorem dX7_readPump_126 : decode cX7_readPump 126 = .ok (.ireturn, 1) := by decide +kernel
theorem dX7_readPump_127 : decode cX7_readPump 127 = .ok (.aload_n 0, 1) := by decide +kernel
theorem dX7_readPump_128 : decode cX7_readPump 128 = .ok (.getfield 18, 3) := by decide +kernel
theorem dX7_readPump_131 : decode cX7_readPump 131 = .ok (.getfield 175, 3) := by decide +kernel
theorem dX7_readPump_134 : decode cX7_readPump 134 = .ok (.iload_n 1, 1) := by decide +kernel
theorem dX7_readPump_135 : decode cX7_readPump 135 = .ok (.aload_n 0, 1) := by decide +kernel
theorem dX7_readPump_136 : decode cX7_readPump 136 = .ok (.getfield 122, 3) := by decide +kernel
theorem dX7_readPump_139 : decode cX7_readPump 139 = .ok (.iastore, 1) := by decide +kernel
theorem dX7_readPump_140 : decode cX7_readPump 140 = .ok (.aload_n 0, 1) := by decide +kernel
theorem dX7_readPump_141 : decode cX7_readPump 141 = .ok (.ldc 178, 2) := by decide +kernel
theorem dX7_readPump_143 : decode cX7_readPump 143 = .ok (.invokevirtual 115, 3) := by decide +kernel
theorem dX7_readPump_146 : decode cX7_readPump 146 = .ok (.ifCond .eq 13, 3) := by decide +kernel
theorem dX7_readPump_149 : decode cX7_readPump 149 = .ok (.aload_n 0, 1) := by decide +kernel
theorem dX7_readPump_150 : decode cX7_readPump 150 = .ok (.iconst 0, 1) := by decide +kernel
theorem dX7_readPump_151 : decode cX7_readPump 151 = .ok (.bipush 9, 2) := by decide +kernel
theorem dX7_readPump_153 : decode cX7_readPump 153 = .ok (.invokevirtual 118, 3) := by decide +kernel
theorem dX7_readPump_156 : decode cX7_readPump 156 = .ok (.ifCond .ne 5, 3) := by decide +kernel
theorem dX7_readPump_159 : decode cX7_readPump 159 = .ok (.iconst 0, 1) := by decide +kernel
theorem dX7_readPump_160 : decode cX7_readPump 160 = .ok (.ireturn, 1) := by decide +kernel
theorem dX7_readPump_161 : decode cX7_readPump 161 = .ok (.aload_n 0, 1) := by decide +kernel
theorem dX7_readPump_162 : decode cX7_readPump 162 = .ok (.getfield 18, 3) := by decide +kernel
theorem dX7_readPump_165 : decode cX7_readPump 165 = .ok (.getfield 180, 3) := by decide +kernel
theorem dX7_readPump_168 : decode cX7_readPump 168 = .ok (.iload_n 1, 1) := by decide +kernel
theorem dX7_readPump_169 : decode cX7_readPump 169 = .ok (.aload_n 0, 1) := by decide +kernel
theorem dX7_readPump_170 : decode cX7_readPump 170 = .ok (.getfield 122, 3) := by decide +kernel
theorem dX7_readPump_173 : decode cX7_readPump 173 = .ok (.iastore, 1) := by decide +kernel
theorem dX7_readPump_174 : decode cX7_readPump 174 = .ok (.aload_n 0, 1) := by decide +kernel
theorem dX7_readPump_175 : decode cX7_readPump 175 = .ok (.getfield 18, 3) := by decide +kernel
theorem dX7_readPump_178 : decode cX7_readPump 178 = .ok (.dup, 1) := by decide +kernel
theorem dX7_readPump_179 : decode cX7_readPump 179 = .ok (.getfield 99, 3) := by decide +kernel
theorem dX7_readPump_182 : decode cX7_readPump 182 = .ok (.iconst 1, 1) := by decide +kernel
theorem dX7_readPump_183 : decode cX7_readPump 183 = .ok (.iadd, 1) := by decide +kernel
theorem dX7_readPump_184 : decode cX7_readPump 184 = .ok (.putfield 99, 3) := by decide +kernel
theorem dX7_readPump_187 : decode cX7_readPump 187 = .ok (.iconst 1, 1) := by decide +kernel
theorem dX7_readPump_188 : decode cX7_readPump 188 = .ok (.ireturn, 1) := by decide +kernel
theorem dX7_readWay_0 : decode cX7_readWay 0 = .ok (.iconst 0, 1) := by decide +kernel
theorem dX7_readWay_1 : decode cX7_readWay 1 = .ok (.istore_n 1, 1) := by decide +kernel
theorem dX7_readWay_2 : decode cX7_readWay 2 = .ok (.iconst 1, 1) := by decide +kernel
theorem dX7_readWay_3 : decode cX7_readWay 3 = .ok (.istore_n 2, 1) := by decide +kernel
theorem dX7_readWay_4 : decode cX7_readWay 4 = .ok (.iconst 0, 1) := by decide +kernel
theorem dX7_readWay_5 : decode cX7_readWay 5 = .ok (.istore_n 3, 1) := by decide +kernel
theorem dX7_readWay_6 : decode cX7_readWay 6 = .ok (.iload_n 2, 1) := by decide +kernel
theorem dX7_readWay_7 : decode cX7_readWay 7 = .ok (.ifCond .eq 154, 3) := by decide +kernel
theorem dX7_readWay_10 : decode cX7_readWay 10 = .ok (.iload_n 3, 1) := by decide +kernel
theorem dX7_readWay_11 : decode cX7_readWay 11 = .ok (.bipush 9, 2) := by decide +kernel
theorem dX7_readWay_13 : decode cX7_readWay 13 = .ok (.if_icmp .gt 148, 3) := by decide +kernel
theorem dX7_readWay_16 : decode cX7_readWay 16 = .ok (.aload_n 0, 1) := by decide +kernel
theorem dX7_readWay_17 : decode cX7_readWay 17 = .ok (.invokevirtual 45, 3) := by decide +kernel
theorem dX7_readWay_20 : decode cX7_readWay 20 = .ok (.aload_n 0, 1) := by decide +kernel
theorem dX7_readWay_21 : decode cX7_readWay 21 = .ok (.invokevirtual 151, 3) := by decide +kernel
theorem dX7_readWay_24 : decode cX7_readWay 24 = .ok (.ifCond .ne 5, 3) := by decide +kernel
theorem dX7_readWay_27 : decode cX7_readWay 27 = .ok (.iconst 0, 1) := by decide +kernel
theorem dX7_readWay_28 : decode cX7_readWay 28 = .ok (.ireturn, 1) := by decide +kernel
theorem dX7_readWay_29 : decode cX7_readWay 29 = .ok (.iload_n 3, 1) := by decide +kernel
theorem dX7_readWay_30 : decode cX7_readWay 30 = .ok (.bipush 9, 2) := by decide +kernel
theorem dX7_readWay_32 : decode cX7_readWay 32 = .ok (.if_icmp .lt 9, 3) := by decide +kernel
theorem dX7_readWay_35 : decode cX7_readWay 35 = .ok (.aload_n 0, 1) := by decide +kernel
theorem dX7_readWay_36 : decode cX7_readWay 36 = .ok (.iconst 5, 1) := by decide +kernel
theorem dX7_readWay_37 : decode cX7_readWay 37 = .ok (.invokevirtual 58, 3) := by decide +kernel
theorem dX7_readWay_40 : decode cX7_readWay 40 = .ok (.ireturn, 1) := by decide +kernel
theorem dX7_readWay_41 : decode cX7_readWay 41 = .ok (.aload_n 0, 1) := by decide +kernel
theorem dX7_readWay_42 : decode cX7_readWay 42 = .ok (.invokevirtual 144, 3) := by decide +kernel
theorem dX7_readWay_45 : decode cX7_readWay 45 = .ok (.istore 4, 2) := by decide +kernel
theorem dX7_readWay_47 : decode cX7_readWay 47 = .ok (.iload_n 3, 1) := by decide +kernel
theorem dX7_readWay_48 : decode cX7_readWay 48 = .ok (.ifCond .le 33, 3) := by decide +kernel
theorem dX7_readWay_51 : decode cX7_readWay 51 = .ok (.aload_n 0, 1) := by decide +kernel
theorem dX7_readWay_52 : decode cX7_readWay 52 = .ok (.getfield 18, 3) := by decide +kernel
theorem dX7_readWay_55 : decode cX7_readWay 55 = .ok (.aload_n 0, 1) := by decide +kernel
theorem dX7_readWay_56 : decode cX7_readWay 56 = .ok (.getfield 18, 3) := by decide +kernel
theorem dX7_readWay_59 : decode cX7_readWay 59 = .ok (.getfield 182, 3) := by decide +kernel
theorem dX7_readWay_62 : decode cX7_readWay 62 = .ok (.iload_n 3, 1) := by decide +kernel
theorem dX7_readWay_63 : decode cX7_readWay 63 = .ok (.iconst 1, 1) := by decide +kernel
theorem dX7_readWay_64 : decode cX7_readWay 64 = .ok (.isub, 1) := by decide +kernel
theorem dX7_readWay_65 : decode cX7_readWay 65 = .ok (.iaload, 1) := by decide +kernel
theorem dX7_readWay_66 : decode cX7_readWay 66 = .ok (.iload 4, 2) := by decide +kernel
theorem dX7_readWay_68 : decode cX7_readWay 68 = .ok (.invokevirtual 154, 3) := by decide +kernel
theorem dX7_readWay_71 : decode cX7_readWay 71 = .ok (.ifCond .ne 10, 3) := by decide +kernel
theorem dX7_readWay_74 : decode cX7_readWay 74 = .ok (.aload_n 0, 1) := by decide +kernel
theorem dX7_readWay_75 : decode cX7_readWay 75 = .ok (.bipush 7, 2) := by decide +kernel
theorem dX7_readWay_77 : decode cX7_readWay 77 = .ok (.invokevirtual 58, 3) := by decide +kernel
theorem dX7_readWay_80 : decode cX7_readWay 80 = .ok (.ireturn, 1) := by decide +kernel
theorem dX7_readWay_81 : decode cX7_readWay 81 = .ok (.aload_n 0, 1) := by decide +kernel
theorem dX7_readWay_82 : decode cX7_readWay 82 = .ok (.getfield 18, 3) := by decide +kernel
theorem dX7_readWay_85 : decode cX7_readWay 85 = .ok (.getfield 182, 3) := by decide +kernel
theorem dX7_readWay_88 : decode cX7_readWay 88 = .ok (.iload_n 3, 1) := by decide +kernel
theorem dX7_readWay_89 : decode cX7_readWay 89 = .ok (.iload 4, 2) := by decide +kernel
theorem dX7_readWay_91 : decode cX7_readWay 91 = .ok (.iastore, 1) := by decide +kernel
theorem dX7_readWay_92 : decode cX7_readWay 92 = .ok (.aload_n 0, 1) := by decide +kernel
theorem dX7_readWay_93 : decode cX7_readWay 93 = .ok (.getfield 18, 3) := by decide +kernel
theorem dX7_readWay_96 : decode cX7_readWay 96 = .ok (.getfield 184, 3) := by decide +kernel
theorem dX7_readWay_99 : decode cX7_readWay 99 = .ok (.iload_n 3, 1) := by decide +kernel
theorem dX7_readWay_100 : decode cX7_readWay 100 = .ok (.iload_n 3, 1) := by decide +kernel
theorem dX7_readWay_101 : decode cX7_readWay 101 = .ok (.ifCond .le 38, 3) := by decide +kernel
theorem dX7_readWay_104 : decode cX7_readWay 104 = .ok (.aload_n 0, 1) := by decide +kernel
theorem dX7_readWay_105 : decode cX7_readWay 105 = .ok (.getfield 18, 3) := by decide +kernel
theorem dX7_readWay_108 : decode cX7_readWay 108 = .ok (.getfield 184, 3) := by decide +kernel
theorem dX7_readWay_111 : decode cX7_readWay 111 = .ok (.iload_n 3, 1) := by decide +kernel
theorem dX7_readWay_112 : decode cX7_readWay 112 = .ok (.iconst 1, 1) := by decide +kernel
theorem dX7_readWay_113 : decode cX7_readWay 113 = .ok (.isub, 1) := by decide +kernel
theorem dX7_readWay_114 : decode cX7_readWay 114 = .ok (.iaload, 1) := by decide +kernel
theorem dX7_readWay_115 : decode cX7_readWay 115 = .ok (.aload_n 0, 1) := by decide +kernel
theorem dX7_readWay_116 : decode cX7_readWay 116 = .ok (.getfield 18, 3) := by decide +kernel
theorem dX7_readWay_119 : decode cX7_readWay 119 = .ok (.aload_n 0, 1) := by decide +kernel
theorem dX7_readWay_120 : decode cX7_readWay 120 = .ok (.getfield 18, 3) := by decide +kernel
theorem dX7_readWay_123 : decode cX7_readWay 123 = .ok (.getfield 182, 3) := by decide +kernel
theorem dX7_readWay_126 : decode cX7_readWay 126 = .ok (.iload_n 3, 1) := by decide +kernel
theorem dX7_readWay_127 : decode cX7_readWay 127 = .ok (.iconst 1, 1) := by decide +kernel
theorem dX7_readWay_128 : decode cX7_readWay 128 = .ok (.isub, 1) := by decide +kernel
theorem dX7_readWay_129 : decode cX7_readWay 129 = .ok (.iaload, 1) := by decide +kernel
theorem dX7_readWay_130 : decode cX7_readWay 130 = .ok (.iload 4, 2) := by decide +kernel
theorem dX7_readWay_132 : decode cX7_readWay 132 = .ok (.invokevirtual 187, 3) := by decide +kernel
theorem dX7_readWay_135 : decode cX7_readWay 135 = .ok (.iadd, 1) := by decide +kernel
theorem dX7_readWay_136 : decode cX7_readWay 136 = .ok (.goto 4, 3) := by decide +kernel
theorem dX7_readWay_139 : decode cX7_readWay 139 = .ok (.iconst 0, 1) := by decide +kernel
theorem dX7_readWay_140 : decode cX7_readWay 140 = .ok (.iastore, 1) := by decide +kernel
theorem dX7_readWay_141 : decode cX7_readWay 141 = .ok (.iinc 1 1, 3) := by decide +kernel
theorem dX7_readWay_144 : decode cX7_readWay 144 = .ok (.aload_n 0, 1) := by decide +kernel
theorem dX7_readWay_145 : decode cX7_readWay 145 = .ok (.invokevirtual 45, 3) := by decide +kernel
theorem dX7_readWay_148 : decode cX7_readWay 148 = .ok (.aload_n 0, 1) := by decide +kernel
theorem dX7_readWay_149 : decode cX7_readWay 149 = .ok (.bipush 44, 2) := by decide +kernel
theorem dX7_readWay_151 : decode cX7_readWay 151 = .ok (.invokevirtual 191, 3) := by decide +kernel
theorem dX7_readWay_154 : decode cX7_readWay 154 = .ok (.istore_n 2, 1) := by decide +kernel
theorem dX7_readWay_155 : decode cX7_readWay 155 = .ok (.iinc 3 1, 3) := by decide +kernel
theorem dX7_readWay_158 : decode cX7_readWay 158 = .ok (.goto (-152), 3) := by decide +kernel
theorem dX7_readWay_161 : decode cX7_readWay 161 = .ok (.iload_n 1, 1) := by decide +kernel
theorem dX7_readWay_162 : decode cX7_readWay 162 = .ok (.iconst 1, 1) := by decide +kernel
theorem dX7_readWay_163 : decode cX7_readWay 163 = .ok (.if_icmp .ne 26, 3) := by decide +kernel
theorem dX7_readWay_166 : decode cX7_readWay 166 = .ok (.aload_n 0, 1) := by decide +kernel
theorem dX7_readWay_167 : decode cX7_readWay 167 = .ok (.getfield 52, 3) := by decide +kernel
theorem dX7_readWay_170 : decode cX7_readWay 170 = .ok (.ifCond .eq 12, 3) := by decide +kernel
theorem dX7_readWay_173 : decode cX7_readWay 173 = .ok (.aload_n 0, 1) := by decide +kernel
theorem dX7_readWay_174 : decode cX7_readWay 174 = .ok (.bipush 59, 2) := by decide +kernel
theorem dX7_readWay_176 : decode cX7_readWay 176 = .ok (.invokevirtual 191, 3) := by decide +kernel
theorem dX7_readWay_179 : decode cX7_readWay 179 = .ok (.ifCond .eq 10, 3) := by decide +kernel
theorem dX7_readWay_182 : decode cX7_readWay 182 = .ok (.aload_n 0, 1) := by decide +kernel
theorem dX7_readWay_183 : decode cX7_readWay 183 = .ok (.bipush 6, 2) := by decide +kernel
theorem dX7_readWay_185 : decode cX7_readWay 185 = .ok (.invokevirtual 58, 3) := by decide +kernel
theorem dX7_readWay_188 : decode cX7_readWay 188 = .ok (.ireturn, 1) := by decide +kernel
theorem dX7_readWay_189 : decode cX7_readWay 189 = .ok (.aload_n 0, 1) := by decide +kernel
theorem dX7_readWay_190 : decode cX7_readWay 190 = .ok (.getfield 18, 3) := by decide +kernel
theorem dX7_readWay_193 : decode cX7_readWay 193 = .ok (.iload_n 1, 1) := by decide +kernel
theorem dX7_readWay_194 : decode cX7_readWay 194 = .ok (.putfield 194, 3) := by decide +kernel
theorem dX7_readWay_197 : decode cX7_readWay 197 = .ok (.iconst 1, 1) := by decide +kernel
theorem dX7_readWay_198 : decode cX7_readWay 198 = .ok (.ireturn, 1) := by decide +kernel
theorem dX7_readReceipt_0 : decode cX7_readReceipt 0 = .ok (.aload_n 0, 1) := by decide +kernel
theorem dX7_readReceipt_1 : decode cX7_readReceipt 1 = .ok (.invokevirtual 45, 3) := by decide +kernel
theorem dX7_readReceipt_4 : decode cX7_readReceipt 4 = .ok (.aload_n 0, 1) := by decide +kernel
theorem dX7_readReceipt_5 : decode cX7_readReceipt 5 = .ok (.invokevirtual 151, 3) := by decide +kernel
theorem dX7_readReceipt_8 : decode cX7_readReceipt 8 = .ok (.ifCond .ne 5, 3) := by decide +kernel
theorem dX7_readReceipt_11 : decode cX7_readReceipt 11 = .ok (.iconst 0, 1) := by decide +kernel
theorem dX7_readReceipt_12 : decode cX7_readReceipt 12 = .ok (.ireturn, 1) := by decide +kernel
theorem dX7_readReceipt_13 : decode cX7_readReceipt 13 = .ok (.aload_n 0, 1) := by decide +kernel
theorem dX7_readReceipt_14 : decode cX7_readReceipt 14 = .ok (.invokevirtual 144, 3) := by decide +kernel
theorem dX7_readReceipt_17 : decode cX7_readReceipt 17 = .ok (.istore_n 1, 1) := by decide +kernel
theorem dX7_readReceipt_18 : decode cX7_readReceipt 18 = .ok (.aload_n 0, 1) := by decide +kernel
theorem dX7_readReceipt_19 : decode cX7_readReceipt 19 = .ok (.getfield 18, 3) := by decide +kernel
theorem dX7_readReceipt_22 : decode cX7_readReceipt 22 = .ok (.getfield 165, 3) := by decide +kernel
theorem dX7_readReceipt_25 : decode cX7_readReceipt 25 = .ok (.iload_n 1, 1) := by decide +kernel
theorem dX7_readReceipt_26 : decode cX7_readReceipt 26 = .ok (.iaload, 1) := by decide +kernel
theorem dX7_readReceipt_27 : decode cX7_readReceipt 27 = .ok (.ifCond .ne 10, 3) := by decide +kernel
theorem dX7_readReceipt_30 : decode cX7_readReceipt 30 = .ok (.aload_n 0, 1) := by decide +kernel
theorem dX7_readReceipt_31 : decode cX7_readReceipt 31 = .ok (.bipush 7, 2) := by decide +kernel
theorem dX7_readReceipt_33 : decode cX7_readReceipt 33 = .ok (.invokevirtual 58, 3) := by decide +kernel
theorem dX7_readReceipt_36 : decode cX7_readReceipt 36 = .ok (.ireturn, 1) := by decide +kernel
theorem dX7_readReceipt_37 : decode cX7_readReceipt 37 = .ok (.aload_n 0, 1) := by decide +kernel
theorem dX7_readReceipt_38 : decode cX7_readReceipt 38 = .ok (.invokevirtual 45, 3) := by decide +kernel
theorem dX7_readReceipt_41 : decode cX7_readReceipt 41 = .ok (.aload_n 0, 1) := by decide +kernel
theorem dX7_readReceipt_42 : decode cX7_readReceipt 42 = .ok (.iconst 1, 1) := by decide +kernel
theorem dX7_readReceipt_43 : decode cX7_readReceipt 43 = .ok (.sipush 999, 3) := by decide +kernel
theorem dX7_readReceipt_46 : decode cX7_readReceipt 46 = .ok (.invokevirtual 118, 3) := by decide +kernel
theorem dX7_readReceipt_49 : decode cX7_readReceipt 49 = .ok (.ifCond .ne 5, 3) := by decide +kernel
theorem dX7_readReceipt_52 : decode cX7_readReceipt 52 = .ok (.iconst 0, 1) := by decide +kernel
theorem dX7_readReceipt_53 : decode cX7_readReceipt 53 = .ok (.ireturn, 1) := by decide +kernel
theorem dX7_readReceipt_54 : decode cX7_readReceipt 54 = .ok (.aload_n 0, 1) := by decide +kernel
theorem dX7_readReceipt_55 : decode cX7_readReceipt 55 = .ok (.getfield 18, 3) := by decide +kernel
theorem dX7_readReceipt_58 : decode cX7_readReceipt 58 = .ok (.getfield 197, 3) := by decide +kernel
theorem dX7_readReceipt_61 : decode cX7_readReceipt 61 = .ok (.aload_n 0, 1) := by decide +kernel
theorem dX7_readReceipt_62 : decode cX7_readReceipt 62 = .ok (.getfield 18, 3) := by decide +kernel
theorem dX7_readReceipt_65 : decode cX7_readReceipt 65 = .ok (.getfield 108, 3) := by decide +kernel
theorem dX7_readReceipt_68 : decode cX7_readReceipt 68 = .ok (.iload_n 1, 1) := by decide +kernel
theorem dX7_readReceipt_69 : decode cX7_readReceipt 69 = .ok (.iastore, 1) := by decide +kernel
theorem dX7_readReceipt_70 : decode cX7_readReceipt 70 = .ok (.aload_n 0, 1) := by decide +kernel
theorem dX7_readReceipt_71 : decode cX7_readReceipt 71 = .ok (.getfield 18, 3) := by decide +kernel
theorem dX7_readReceipt_74 : decode cX7_readReceipt 74 = .ok (.getfield 200, 3) := by decide +kernel
theorem dX7_readReceipt_77 : decode cX7_readReceipt 77 = .ok (.aload_n 0, 1) := by decide +kernel
theorem dX7_readReceipt_78 : decode cX7_readReceipt 78 = .ok (.getfield 18, 3) := by decide +kernel
theorem dX7_readReceipt_81 : decode cX7_readReceipt 81 = .ok (.getfield 108, 3) := by decide +kernel
theorem dX7_readReceipt_84 : decode cX7_readReceipt 84 = .ok (.aload_n 0, 1) := by decide +kernel
theorem dX7_readReceipt_85 : decode cX7_readReceipt 85 = .ok (.getfield 122, 3) := by decide +kernel
theorem dX7_readReceipt_88 : decode cX7_readReceipt 88 = .ok (.iastore, 1) := by decide +kernel
theorem dX7_readReceipt_89 : decode cX7_readReceipt 89 = .ok (.aload_n 0, 1) := by decide +kernel
theorem dX7_readReceipt_90 : decode cX7_readReceipt 90 = .ok (.getfield 18, 3) := by decide +kernel
theorem dX7_readReceipt_93 : decode cX7_readReceipt 93 = .ok (.dup, 1) := by decide +kernel
theorem dX7_readReceipt_94 : decode cX7_readReceipt 94 = .ok (.getfield 108, 3) := by decide +kernel
theorem dX7_readReceipt_97 : decode cX7_readReceipt 97 = .ok (.iconst 1, 1) := by decide +kernel
theorem dX7_readReceipt_98 : decode cX7_readReceipt 98 = .ok (.iadd, 1) := by decide +kernel
theorem dX7_readReceipt_99 : decode cX7_readReceipt 99 = .ok (.putfield 108, 3) := by decide +kernel
theorem dX7_readReceipt_102 : decode cX7_readReceipt 102 = .ok (.iconst 1, 1) := by decide +kernel
theorem dX7_readReceipt_103 : decode cX7_readReceipt 103 = .ok (.ireturn, 1) := by decide +kernel
theorem dX7_failWith_0 : decode cX7_failWith 0 = .ok (.aload_n 0, 1) := by decide +kernel
theorem dX7_failWith_1 : decode cX7_failWith 1 = .ok (.iload_n 1, 1) := by decide +kernel
theorem dX7_failWith_2 : decode cX7_failWith 2 = .ok (.aload_n 0, 1) := by decide +kernel
theorem dX7_failWith_3 : decode cX7_failWith 3 = .ok (.getfield 148, 3) := by decide +kernel
theorem dX7_failWith_6 : decode cX7_failWith 6 = .ok (.invokevirtual 172, 3) := by decide +kernel
theorem dX7_failWith_9 : decode cX7_failWith 9 = .ok (.ireturn, 1) := by decide +kernel
theorem dX7_failAt_0 : decode cX7_failAt 0 = .ok (.aload_n 0, 1) := by decide +kernel
theorem dX7_failAt_1 : decode cX7_failAt 1 = .ok (.iload_n 1, 1) := by decide +kernel
theorem dX7_failAt_2 : decode cX7_failAt 2 = .ok (.putfield 36, 3) := by decide +kernel
theorem dX7_failAt_5 : decode cX7_failAt 5 = .ok (.aload_n 0, 1) := by decide +kernel
theorem dX7_failAt_6 : decode cX7_failAt 6 = .ok (.iload_n 2, 1) := by decide +kernel
theorem dX7_failAt_7 : decode cX7_failAt 7 = .ok (.putfield 39, 3) := by decide +kernel
theorem dX7_failAt_10 : decode cX7_failAt 10 = .ok (.iconst 0, 1) := by decide +kernel
theorem dX7_failAt_11 : decode cX7_failAt 11 = .ok (.ireturn, 1) := by decide +kernel
theorem dX7_lookOn_0 : decode cX7_lookOn 0 = .ok (.aload_n 0, 1) := by decide +kernel
theorem dX7_lookOn_1 : decode cX7_lookOn 1 = .ok (.aload_n 0, 1) := by decide +kernel
theorem dX7_lookOn_2 : decode cX7_lookOn 2 = .ok (.getfield 42, 3) := by decide +kernel
theorem dX7_lookOn_5 : decode cX7_lookOn 5 = .ok (.putfield 148, 3) := by decide +kernel
theorem dX7_lookOn_8 : decode cX7_lookOn 8 = .ok (.aload_n 0, 1) := by decide +kernel
theorem dX7_lookOn_9 : decode cX7_lookOn 9 = .ok (.getfield 148, 3) := by decide +kernel
theorem dX7_lookOn_12 : decode cX7_lookOn 12 = .ok (.aload_n 0, 1) := by decide +kernel
theorem dX7_lookOn_13 : decode cX7_lookOn 13 = .ok (.getfield 29, 3) := by decide +kernel
theorem dX7_lookOn_16 : decode cX7_lookOn 16 = .ok (.if_icmp .ge 30, 3) := by decide +kernel
theorem dX7_lookOn_19 : decode cX7_lookOn 19 = .ok (.aload_n 0, 1) := by decide +kernel
theorem dX7_lookOn_20 : decode cX7_lookOn 20 = .ok (.getfield 9, 3) := by decide +kernel
theorem dX7_lookOn_23 : decode cX7_lookOn 23 = .ok (.aload_n 0, 1) := by decide +kernel
theorem dX7_lookOn_24 : decode cX7_lookOn 24 = .ok (.getfield 148, 3) := by decide +kernel
theorem dX7_lookOn_27 : decode cX7_lookOn 27 = .ok (.baload, 1) := by decide +kernel
theorem dX7_lookOn_28 : decode cX7_lookOn 28 = .ok (.bipush 32, 2) := by decide +kernel
theorem dX7_lookOn_30 : decode cX7_lookOn 30 = .ok (.if_icmp .ne 16, 3) := by decide +kernel
theorem dX7_lookOn_33 : decode cX7_lookOn 33 = .ok (.aload_n 0, 1) := by decide +kernel
theorem dX7_lookOn_34 : decode cX7_lookOn 34 = .ok (.dup, 1) := by decide +kernel
theorem dX7_lookOn_35 : decode cX7_lookOn 35 = .ok (.getfield 148, 3) := by decide +kernel
theorem dX7_lookOn_38 : decode cX7_lookOn 38 = .ok (.iconst 1, 1) := by decide +kernel
theorem dX7_lookOn_39 : decode cX7_lookOn 39 = .ok (.iadd, 1) := by decide +kernel
theorem dX7_lookOn_40 : decode cX7_lookOn 40 = .ok (.putfield 148, 3) := by decide +kernel
theorem dX7_lookOn_43 : decode cX7_lookOn 43 = .ok (.goto (-35), 3) := by decide +kernel
theorem dX7_lookOn_46 : decode cX7_lookOn 46 = .ok (.aload_n 0, 1) := by decide +kernel
theorem dX7_lookOn_47 : decode cX7_lookOn 47 = .ok (.getfield 148, 3) := by decide +kernel
theorem dX7_lookOn_50 : decode cX7_lookOn 50 = .ok (.aload_n 0, 1) := by decide +kernel
theorem dX7_lookOn_51 : decode cX7_lookOn 51 = .ok (.getfield 29, 3) := by decide +kernel
theorem dX7_lookOn_54 : decode cX7_lookOn 54 = .ok (.if_icmp .lt 17, 3) := by decide +kernel
theorem dX7_lookOn_57 : decode cX7_lookOn 57 = .ok (.aload_n 0, 1) := by decide +kernel
theorem dX7_lookOn_58 : decode cX7_lookOn 58 = .ok (.aload_n 0, 1) := by decide +kernel
theorem dX7_lookOn_59 : decode cX7_lookOn 59 = .ok (.getfield 148, 3) := by decide +kernel
theorem dX7_lookOn_62 : decode cX7_lookOn 62 = .ok (.putfield 42, 3) := by decide +kernel
theorem dX7_lookOn_65 : decode cX7_lookOn 65 = .ok (.aload_n 0, 1) := by decide +kernel
theorem dX7_lookOn_66 : decode cX7_lookOn 66 = .ok (.iconst 0, 1) := by decide +kernel
theorem dX7_lookOn_67 : decode cX7_lookOn 67 = .ok (.putfield 52, 3) := by decide +kernel
theorem dX7_lookOn_70 : decode cX7_lookOn 70 = .ok (.return_, 1) := by decide +kernel
theorem dX7_lookOn_71 : decode cX7_lookOn 71 = .ok (.aload_n 0, 1) := by decide +kernel
theorem dX7_lookOn_72 : decode cX7_lookOn 72 = .ok (.bipush 97, 2) := by decide +kernel
theorem dX7_lookOn_74 : decode cX7_lookOn 74 = .ok (.bipush 122, 2) := by decide +kernel
theorem dX7_lookOn_76 : decode cX7_lookOn 76 = .ok (.invokevirtual 203, 3) := by decide +kernel
theorem dX7_lookOn_79 : decode cX7_lookOn 79 = .ok (.istore_n 1, 1) := by decide +kernel
theorem dX7_lookOn_80 : decode cX7_lookOn 80 = .ok (.aload_n 0, 1) := by decide +kernel
theorem dX7_lookOn_81 : decode cX7_lookOn 81 = .ok (.bipush 48, 2) := by decide +kernel
theorem dX7_lookOn_83 : decode cX7_lookOn 83 = .ok (.bipush 57, 2) := by decide +kernel
theorem dX7_lookOn_85 : decode cX7_lookOn 85 = .ok (.invokevirtual 203, 3) := by decide +kernel
theorem dX7_lookOn_88 : decode cX7_lookOn 88 = .ok (.istore_n 2, 1) := by decide +kernel
theorem dX7_lookOn_89 : decode cX7_lookOn 89 = .ok (.aload_n 0, 1) := by decide +kernel
theorem dX7_lookOn_90 : decode cX7_lookOn 90 = .ok (.getfield 9, 3) := by decide +kernel
theorem dX7_lookOn_93 : decode cX7_lookOn 93 = .ok (.aload_n 0, 1) := by decide +kernel
theorem dX7_lookOn_94 : decode cX7_lookOn 94 = .ok (.getfield 148, 3) := by decide +kernel
theorem dX7_lookOn_97 : decode cX7_lookOn 97 = .ok (.baload, 1) := by decide +kernel
theorem dX7_lookOn_98 : decode cX7_lookOn 98 = .ok (.bipush 59, 2) := by decide +kernel
theorem dX7_lookOn_100 : decode cX7_lookOn 100 = .ok (.if_icmp .eq 17, 3) := by decide +kernel
theorem dX7_lookOn_103 : decode cX7_lookOn 103 = .ok (.aload_n 0, 1) := by decide +kernel
theorem dX7_lookOn_104 : decode cX7_lookOn 104 = .ok (.getfield 9, 3) := by decide +kernel
theorem dX7_lookOn_107 : decode cX7_lookOn 107 = .ok (.aload_n 0, 1) := by decide +kernel
theorem dX7_lookOn_108 : decode cX7_lookOn 108 = .ok (.getfield 148, 3) := by decide +kernel
theorem dX7_lookOn_111 : decode cX7_lookOn 111 = .ok (.baload, 1) := by decide +kernel
theorem dX7_lookOn_112 : decode cX7_lookOn 112 = .ok (.bipush 44, 2) := by decide +kernel
theorem dX7_lookOn_114 : decode cX7_lookOn 114 = .ok (.if_icmp .ne 7, 3) := by decide +kernel
theorem dX7_lookOn_117 : decode cX7_lookOn 117 = .ok (.iconst 1, 1) := by decide +kernel
theorem dX7_lookOn_118 : decode cX7_lookOn 118 = .ok (.goto 4, 3) := by decide +kernel
theorem dX7_lookOn_121 : decode cX7_lookOn 121 = .ok (.iconst 0, 1) := by decide +kernel
theorem dX7_lookOn_122 : decode cX7_lookOn 122 = .ok (.istore_n 3, 1) := by decide +kernel
theorem dX7_lookOn_123 : decode cX7_lookOn 123 = .ok (.aload_n 0, 1) := by decide +kernel
theorem dX7_lookOn_124 : decode cX7_lookOn 124 = .ok (.aload_n 0, 1) := by decide +kernel
theorem dX7_lookOn_125 : decode cX7_lookOn 125 = .ok (.getfield 148, 3) := by decide +kernel
theorem dX7_lookOn_128 : decode cX7_lookOn 128 = .ok (.iconst 1, 1) := by decide +kernel
theorem dX7_lookOn_129 : decode cX7_lookOn 129 = .ok (.iload_n 1, 1) := by decide +kernel
theorem dX7_lookOn_130 : decode cX7_lookOn 130 = .ok (.iload_n 2, 1) := by decide +kernel
theorem dX7_lookOn_131 : decode cX7_lookOn 131 = .ok (.iadd, 1) := by decide +kernel
theorem dX7_lookOn_132 : decode cX7_lookOn 132 = .ok (.invokestatic 207, 3) := by decide +kernel
theorem dX7_lookOn_135 : decode cX7_lookOn 135 = .ok (.iadd, 1) := by decide +kernel
theorem dX7_lookOn_136 : decode cX7_lookOn 136 = .ok (.putfield 42, 3) := by decide +kernel
theorem dX7_lookOn_139 : decode cX7_lookOn 139 = .ok (.iload_n 1, 1) := by decide +kernel
theorem dX7_lookOn_140 : decode cX7_lookOn 140 = .ok (.ifCond .le 21, 3) := by decide +kernel
theorem dX7_lookOn_143 : decode cX7_lookOn 143 = .ok (.aload_n 0, 1) := by decide +kernel
theorem dX7_lookOn_144 : decode cX7_lookOn 144 = .ok (.iload_n 1, 1) := by decide +kernel
theorem dX7_lookOn_145 : decode cX7_lookOn 145 = .ok (.bipush 8, 2) := by decide +kernel
theorem dX7_lookOn_147 : decode cX7_lookOn 147 = .ok (.if_icmp .gt 7, 3) := by decide +kernel
theorem dX7_lookOn_150 : decode cX7_lookOn 150 = .ok (.iconst 1, 1) := by decide +kernel
theorem dX7_lookOn_151 : decode cX7_lookOn 151 = .ok (.goto 4, 3) := by decide +kernel
theorem dX7_lookOn_154 : decode cX7_lookOn 154 = .ok (.iconst 4, 1) := by decide +kernel
theorem dX7_lookOn_155 : decode cX7_lookOn 155 = .ok (.putfield 52, 3) := by decide +kernel
theorem dX7_lookOn_158 : decode cX7_lookOn 158 = .ok (.goto 37, 3) := by decide +kernel
theorem dX7_lookOn_161 : decode cX7_lookOn 161 = .ok (.iload_n 2, 1) := by decide +kernel
theorem dX7_lookOn_162 : decode cX7_lookOn 162 = .ok (.ifCond .le 20, 3) := by decide +kernel
theorem dX7_lookOn_165 : decode cX7_lookOn 165 = .ok (.aload_n 0, 1) := by decide +kernel
theorem dX7_lookOn_166 : decode cX7_lookOn 166 = .ok (.iload_n 2, 1) := by decide +kernel
theorem dX7_lookOn_167 : decode cX7_lookOn 167 = .ok (.iconst 3, 1) := by decide +kernel
theorem dX7_lookOn_168 : decode cX7_lookOn 168 = .ok (.if_icmp .gt 7, 3) := by decide +kernel
theorem dX7_lookOn_171 : decode cX7_lookOn 171 = .ok (.iconst 2, 1) := by decide +kernel
theorem dX7_lookOn_172 : decode cX7_lookOn 172 = .ok (.goto 4, 3) := by decide +kernel
theorem dX7_lookOn_175 : decode cX7_lookOn 175 = .ok (.iconst 4, 1) := by decide +kernel
theorem dX7_lookOn_176 : decode cX7_lookOn 176 = .ok (.putfield 52, 3) := by decide +kernel
theorem dX7_lookOn_179 : decode cX7_lookOn 179 = .ok (.goto 16, 3) := by decide +kernel
theorem dX7_lookOn_182 : decode cX7_lookOn 182 = .ok (.aload_n 0, 1) := by decide +kernel
theorem dX7_lookOn_183 : decode cX7_lookOn 183 = .ok (.iload_n 3, 1) := by decide +kernel
theorem dX7_lookOn_184 : decode cX7_lookOn 184 = .ok (.ifCond .eq 7, 3) := by decide +kernel
theorem dX7_lookOn_187 : decode cX7_lookOn 187 = .ok (.iconst 3, 1) := by decide +kernel
theorem dX7_lookOn_188 : decode cX7_lookOn 188 = .ok (.goto 4, 3) := by decide +kernel
theorem dX7_lookOn_191 : decode cX7_lookOn 191 = .ok (.iconst 4, 1) := by decide +kernel
theorem dX7_lookOn_192 : decode cX7_lookOn 192 = .ok (.putfield 52, 3) := by decide +kernel
theorem dX7_lookOn_195 : decode cX7_lookOn 195 = .ok (.return_, 1) := by decide +kernel
theorem dX7_runLength_0 : decode cX7_runLength 0 = .ok (.aload_n 0, 1) := by decide +kernel
theorem dX7_runLength_1 : decode cX7_runLength 1 = .ok (.getfield 148, 3) := by decide +kernel
theorem dX7_runLength_4 : decode cX7_runLength 4 = .ok (.istore_n 3, 1) := by decide +kernel
theorem dX7_runLength_5 : decode cX7_runLength 5 = .ok (.iload_n 3, 1) := by decide +kernel
theorem dX7_runLength_6 : decode cX7_runLength 6 = .ok (.aload_n 0, 1) := by decide +kernel
theorem dX7_runLength_7 : decode cX7_runLength 7 = .ok (.getfield 29, 3) := by decide +kernel
theorem dX7_runLength_10 : decode cX7_runLength 10 = .ok (.if_icmp .ge 29, 3) := by decide +kernel
theorem dX7_runLength_13 : decode cX7_runLength 13 = .ok (.aload_n 0, 1) := by decide +kernel
theorem dX7_runLength_14 : decode cX7_runLength 14 = .ok (.getfield 9, 3) := by decide +kernel
theorem dX7_runLength_17 : decode cX7_runLength 17 = .ok (.iload_n 3, 1) := by decide +kernel
theorem dX7_runLength_18 : decode cX7_runLength 18 = .ok (.baload, 1) := by decide +kernel
theorem dX7_runLength_19 : decode cX7_runLength 19 = .ok (.iload_n 1, 1) := by decide +kernel
theorem dX7_runLength_20 : decode cX7_runLength 20 = .ok (.if_icmp .lt 19, 3) := by decide +kernel
theorem dX7_runLength_23 : decode cX7_runLength 23 = .ok (.aload_n 0, 1) := by decide +kernel
theorem dX7_runLength_24 : decode cX7_runLength 24 = .ok (.getfield 9, 3) := by decide +kernel
theorem dX7_runLength_27 : decode cX7_runLength 27 = .ok (.iload_n 3, 1) := by decide +kernel
theorem dX7_runLength_28 : decode cX7_runLength 28 = .ok (.baload, 1) := by decide +kernel
theorem dX7_runLength_29 : decode cX7_runLength 29 = .ok (.iload_n 2, 1) := by decide +kernel
theorem dX7_runLength_30 : decode cX7_runLength 30 = .ok (.if_icmp .gt 9, 3) := by decide +kernel
theorem dX7_runLength_33 : decode cX7_runLength 33 = .ok (.iinc 3 1, 3) := by decide +kernel
theorem dX7_runLength_36 : decode cX7_runLength 36 = .ok (.goto (-31), 3) := by decide +kernel
theorem dX7_runLength_39 : decode cX7_runLength 39 = .ok (.iload_n 3, 1) := by decide +kernel
theorem dX7_runLength_40 : decode cX7_runLength 40 = .ok (.aload_n 0, 1) := by decide +kernel
theorem dX7_runLength_41 : decode cX7_runLength 41 = .ok (.getfield 148, 3) := by decide +kernel
theorem dX7_runLength_44 : decode cX7_runLength 44 = .ok (.isub, 1) := by decide +kernel
theorem dX7_runLength_45 : decode cX7_runLength 45 = .ok (.ireturn, 1) := by decide +kernel
theorem dX7_isSign_0 : decode cX7_isSign 0 = .ok (.aload_n 0, 1) := by decide +kernel
theorem dX7_isSign_1 : decode cX7_isSign 1 = .ok (.getfield 52, 3) := by decide +kernel
theorem dX7_isSign_4 : decode cX7_isSign 4 = .ok (.iconst 3, 1) := by decide +kernel
theorem dX7_isSign_5 : decode cX7_isSign 5 = .ok (.if_icmp .ne 20, 3) := by decide +kernel
theorem dX7_isSign_8 : decode cX7_isSign 8 = .ok (.aload_n 0, 1) := by decide +kernel
theorem dX7_isSign_9 : decode cX7_isSign 9 = .ok (.getfield 9, 3) := by decide +kernel
theorem dX7_isSign_12 : decode cX7_isSign 12 = .ok (.aload_n 0, 1) := by decide +kernel
theorem dX7_isSign_13 : decode cX7_isSign 13 = .ok (.getfield 148, 3) := by decide +kernel
theorem dX7_isSign_16 : decode cX7_isSign 16 = .ok (.baload, 1) := by decide +kernel
theorem dX7_isSign_17 : decode cX7_isSign 17 = .ok (.iload_n 1, 1) := by decide +kernel
theorem dX7_isSign_18 : decode cX7_isSign 18 = .ok (.if_icmp .ne 7, 3) := by decide +kernel
theorem dX7_isSign_21 : decode cX7_isSign 21 = .ok (.iconst 1, 1) := by decide +kernel
theorem dX7_isSign_22 : decode cX7_isSign 22 = .ok (.goto 4, 3) := by decide +kernel
theorem dX7_isSign_25 : decode cX7_isSign 25 = .ok (.iconst 0, 1) := by decide +kernel
theorem dX7_isSign_26 : decode cX7_isSign 26 = .ok (.ireturn, 1) := by decide +kernel
theorem dX7_isWord_0 : decode cX7_isWord 0 = .ok (.aload_n 0, 1) := by decide +kernel
theorem dX7_isWord_1 : decode cX7_isWord 1 = .ok (.getfield 52, 3) := by decide +kernel
theorem dX7_isWord_4 : decode cX7_isWord 4 = .ok (.iconst 1, 1) := by decide +kernel
theorem dX7_isWord_5 : decode cX7_isWord 5 = .ok (.if_icmp .ne 19, 3) := by decide +kernel
theorem dX7_isWord_8 : decode cX7_isWord 8 = .ok (.aload_n 0, 1) := by decide +kernel
theorem dX7_isWord_9 : decode cX7_isWord 9 = .ok (.getfield 42, 3) := by decide +kernel
theorem dX7_isWord_12 : decode cX7_isWord 12 = .ok (.aload_n 0, 1) := by decide +kernel
theorem dX7_isWord_13 : decode cX7_isWord 13 = .ok (.getfield 148, 3) := by decide +kernel
theorem dX7_isWord_16 : decode cX7_isWord 16 = .ok (.isub, 1) := by decide +kernel
theorem dX7_isWord_17 : decode cX7_isWord 17 = .ok (.aload_n 1, 1) := by decide +kernel
theorem dX7_isWord_18 : decode cX7_isWord 18 = .ok (.invokevirtual 212, 3) := by decide +kernel
theorem dX7_isWord_21 : decode cX7_isWord 21 = .ok (.if_icmp .eq 5, 3) := by decide +kernel
theorem dX7_isWord_24 : decode cX7_isWord 24 = .ok (.iconst 0, 1) := by decide +kernel
theorem dX7_isWord_25 : decode cX7_isWord 25 = .ok (.ireturn, 1) := by decide +kernel
theorem dX7_isWord_26 : decode cX7_isWord 26 = .ok (.iconst 0, 1) := by decide +kernel
theorem dX7_isWord_27 : decode cX7_isWord 27 = .ok (.istore_n 2, 1) := by decide +kernel
theorem dX7_isWord_28 : decode cX7_isWord 28 = .ok (.iload_n 2, 1) := by decide +kernel
theorem dX7_isWord_29 : decode cX7_isWord 29 = .ok (.aload_n 1, 1) := by decide +kernel
theorem dX7_isWord_30 : decode cX7_isWord 30 = .ok (.invokevirtual 212, 3) := by decide +kernel
theorem dX7_isWord_33 : decode cX7_isWord 33 = .ok (.if_icmp .ge 30, 3) := by decide +kernel
theorem dX7_isWord_36 : decode cX7_isWord 36 = .ok (.aload_n 0, 1) := by decide +kernel
theorem dX7_isWord_37 : decode cX7_isWord 37 = .ok (.getfield 9, 3) := by decide +kernel
theorem dX7_isWord_40 : decode cX7_isWord 40 = .ok (.aload_n 0, 1) := by decide +kernel
theorem dX7_isWord_41 : decode cX7_isWord 41 = .ok (.getfield 148, 3) := by decide +kernel
theorem dX7_isWord_44 : decode cX7_isWord 44 = .ok (.iload_n 2, 1) := by decide +kernel
theorem dX7_isWord_45 : decode cX7_isWord 45 = .ok (.iadd, 1) := by decide +kernel
theorem dX7_isWord_46 : decode cX7_isWord 46 = .ok (.baload, 1) := by decide +kernel
theorem dX7_isWord_47 : decode cX7_isWord 47 = .ok (.aload_n 1, 1) := by decide +kernel
theorem dX7_isWord_48 : decode cX7_isWord 48 = .ok (.iload_n 2, 1) := by decide +kernel
theorem dX7_isWord_49 : decode cX7_isWord 49 = .ok (.invokevirtual 217, 3) := by decide +kernel
theorem dX7_isWord_52 : decode cX7_isWord 52 = .ok (.if_icmp .eq 5, 3) := by decide +kernel
theorem dX7_isWord_55 : decode cX7_isWord 55 = .ok (.iconst 0, 1) := by decide +kernel
theorem dX7_isWord_56 : decode cX7_isWord 56 = .ok (.ireturn, 1) := by decide +kernel
theorem dX7_isWord_57 : decode cX7_isWord 57 = .ok (.iinc 2 1, 3) := by decide +kernel
theorem dX7_isWord_60 : decode cX7_isWord 60 = .ok (.goto (-32), 3) := by decide +kernel
theorem dX7_isWord_63 : decode cX7_isWord 63 = .ok (.iconst 1, 1) := by decide +kernel
theorem dX7_isWord_64 : decode cX7_isWord 64 = .ok (.ireturn, 1) := by decide +kernel
theorem dX7_passSign_0 : decode cX7_passSign 0 = .ok (.aload_n 0, 1) := by decide +kernel
theorem dX7_passSign_1 : decode cX7_passSign 1 = .ok (.iload_n 1, 1) := by decide +kernel
theorem dX7_passSign_2 : decode cX7_passSign 2 = .ok (.invokevirtual 191, 3) := by decide +kernel
theorem dX7_passSign_5 : decode cX7_passSign 5 = .ok (.ifCond .ne 9, 3) := by decide +kernel
theorem dX7_passSign_8 : decode cX7_passSign 8 = .ok (.aload_n 0, 1) := by decide +kernel
theorem dX7_passSign_9 : decode cX7_passSign 9 = .ok (.iconst 1, 1) := by decide +kernel
theorem dX7_passSign_10 : decode cX7_passSign 10 = .ok (.invokevirtual 58, 3) := by decide +kernel
theorem dX7_passSign_13 : decode cX7_passSign 13 = .ok (.ireturn, 1) := by decide +kernel
theorem dX7_passSign_14 : decode cX7_passSign 14 = .ok (.aload_n 0, 1) := by decide +kernel
theorem dX7_passSign_15 : decode cX7_passSign 15 = .ok (.invokevirtual 45, 3) := by decide +kernel
theorem dX7_passSign_18 : decode cX7_passSign 18 = .ok (.iconst 1, 1) := by decide +kernel
theorem dX7_passSign_19 : decode cX7_passSign 19 = .ok (.ireturn, 1) := by decide +kernel
theorem dX7_passWord_0 : decode cX7_passWord 0 = .ok (.aload_n 0, 1) := by decide +kernel
theorem dX7_passWord_1 : decode cX7_passWord 1 = .ok (.aload_n 1, 1) := by decide +kernel
theorem dX7_passWord_2 : decode cX7_passWord 2 = .ok (.invokevirtual 68, 3) := by decide +kernel
theorem dX7_passWord_5 : decode cX7_passWord 5 = .ok (.ifCond .ne 9, 3) := by decide +kernel
theorem dX7_passWord_8 : decode cX7_passWord 8 = .ok (.aload_n 0, 1) := by decide +kernel
theorem dX7_passWord_9 : decode cX7_passWord 9 = .ok (.iconst 1, 1) := by decide +kernel
theorem dX7_passWord_10 : decode cX7_passWord 10 = .ok (.invokevirtual 58, 3) := by decide +kernel
theorem dX7_passWord_13 : decode cX7_passWord 13 = .ok (.ireturn, 1) := by decide +kernel
theorem dX7_passWord_14 : decode cX7_passWord 14 = .ok (.aload_n 0, 1) := by decide +kernel
theorem dX7_passWord_15 : decode cX7_passWord 15 = .ok (.invokevirtual 45, 3) := by decide +kernel
theorem dX7_passWord_18 : decode cX7_passWord 18 = .ok (.iconst 1, 1) := by decide +kernel
theorem dX7_passWord_19 : decode cX7_passWord 19 = .ok (.ireturn, 1) := by decide +kernel
theorem dX7_passWhole_0 : decode cX7_passWhole 0 = .ok (.aload_n 0, 1) := by decide +kernel
theorem dX7_passWhole_1 : decode cX7_passWhole 1 = .ok (.getfield 52, 3) := by decide +kernel
theorem dX7_passWhole_4 : decode cX7_passWhole 4 = .ok (.iconst 2, 1) := by decide +kernel
theorem dX7_passWhole_5 : decode cX7_passWhole 5 = .ok (.if_icmp .eq 9, 3) := by decide +kernel
theorem dX7_passWhole_8 : decode cX7_passWhole 8 = .ok (.aload_n 0, 1) := by decide +kernel
theorem dX7_passWhole_9 : decode cX7_passWhole 9 = .ok (.iconst 1, 1) := by decide +kernel
theorem dX7_passWhole_10 : decode cX7_passWhole 10 = .ok (.invokevirtual 58, 3) := by decide +kernel
theorem dX7_passWhole_13 : decode cX7_passWhole 13 = .ok (.ireturn, 1) := by decide +kernel
theorem dX7_passWhole_14 : decode cX7_passWhole 14 = .ok (.aload_n 0, 1) := by decide +kernel
theorem dX7_passWhole_15 : decode cX7_passWhole 15 = .ok (.iconst 0, 1) := by decide +kernel
theorem dX7_passWhole_16 : decode cX7_passWhole 16 = .ok (.putfield 122, 3) := by decide +kernel
theorem dX7_passWhole_19 : decode cX7_passWhole 19 = .ok (.aload_n 0, 1) := by decide +kernel
theorem dX7_passWhole_20 : decode cX7_passWhole 20 = .ok (.getfield 148, 3) := by decide +kernel
theorem dX7_passWhole_23 : decode cX7_passWhole 23 = .ok (.istore_n 3, 1) := by decide +kernel
theorem dX7_passWhole_24 : decode cX7_passWhole 24 = .ok (.iload_n 3, 1) := by decide +kernel
theorem dX7_passWhole_25 : decode cX7_passWhole 25 = .ok (.aload_n 0, 1) := by decide +kernel
theorem dX7_passWhole_26 : decode cX7_passWhole 26 = .ok (.getfield 42, 3) := by decide +kernel
theorem dX7_passWhole_29 : decode cX7_passWhole 29 = .ok (.if_icmp .ge 30, 3) := by decide +kernel
theorem dX7_passWhole_32 : decode cX7_passWhole 32 = .ok (.aload_n 0, 1) := by decide +kernel
theorem dX7_passWhole_33 : decode cX7_passWhole 33 = .ok (.aload_n 0, 1) := by decide +kernel
theorem dX7_passWhole_34 : decode cX7_passWhole 34 = .ok (.getfield 122, 3) := by decide +kernel
theorem dX7_passWhole_37 : decode cX7_passWhole 37 = .ok (.bipush 10, 2) := by decide +kernel
theorem dX7_passWhole_39 : decode cX7_passWhole 39 = .ok (.imul, 1) := by decide +kernel
theorem dX7_passWhole_40 : decode cX7_passWhole 40 = .ok (.aload_n 0, 1) := by decide +kernel
theorem dX7_passWhole_41 : decode cX7_passWhole 41 = .ok (.getfield 9, 3) := by decide +kernel
theorem dX7_passWhole_44 : decode cX7_passWhole 44 = .ok (.iload_n 3, 1) := by decide +kernel
theorem dX7_passWhole_45 : decode cX7_passWhole 45 = .ok (.baload, 1) := by decide +kernel
theorem dX7_passWhole_46 : decode cX7_passWhole 46 = .ok (.iadd, 1) := by decide +kernel
theorem dX7_passWhole_47 : decode cX7_passWhole 47 = .ok (.bipush 48, 2) := by decide +kernel
theorem dX7_passWhole_49 : decode cX7_passWhole 49 = .ok (.isub, 1) := by decide +kernel
theorem dX7_passWhole_50 : decode cX7_passWhole 50 = .ok (.putfield 122, 3) := by decide +kernel
theorem dX7_passWhole_53 : decode cX7_passWhole 53 = .ok (.iinc 3 1, 3) := by decide +kernel
theorem dX7_passWhole_56 : decode cX7_passWhole 56 = .ok (.goto (-32), 3) := by decide +kernel
theorem dX7_passWhole_59 : decode cX7_passWhole 59 = .ok (.aload_n 0, 1) := by decide +kernel
theorem dX7_passWhole_60 : decode cX7_passWhole 60 = .ok (.getfield 122, 3) := by decide +kernel
theorem dX7_passWhole_63 : decode cX7_passWhole 63 = .ok (.iload_n 1, 1) := by decide +kernel
theorem dX7_passWhole_64 : decode cX7_passWhole 64 = .ok (.if_icmp .lt 11, 3) := by decide +kernel
theorem dX7_passWhole_67 : decode cX7_passWhole 67 = .ok (.aload_n 0, 1) := by decide +kernel
theorem dX7_passWhole_68 : decode cX7_passWhole 68 = .ok (.getfield 122, 3) := by decide +kernel
theorem dX7_passWhole_71 : decode cX7_passWhole 71 = .ok (.iload_n 2, 1) := by decide +kernel
theorem dX7_passWhole_72 : decode cX7_passWhole 72 = .ok (.if_icmp .le 9, 3) := by decide +kernel
theorem dX7_passWhole_75 : decode cX7_passWhole 75 = .ok (.aload_n 0, 1) := by decide +kernel
theorem dX7_passWhole_76 : decode cX7_passWhole 76 = .ok (.iconst 4, 1) := by decide +kernel
theorem dX7_passWhole_77 : decode cX7_passWhole 77 = .ok (.invokevirtual 58, 3) := by decide +kernel
theorem dX7_passWhole_80 : decode cX7_passWhole 80 = .ok (.ireturn, 1) := by decide +kernel
theorem dX7_passWhole_81 : decode cX7_passWhole 81 = .ok (.aload_n 0, 1) := by decide +kernel
theorem dX7_passWhole_82 : decode cX7_passWhole 82 = .ok (.invokevirtual 45, 3) := by decide +kernel
theorem dX7_passWhole_85 : decode cX7_passWhole 85 = .ok (.iconst 1, 1) := by decide +kernel
theorem dX7_passWhole_86 : decode cX7_passWhole 86 = .ok (.ireturn, 1) := by decide +kernel
theorem dX7_isName_0 : decode cX7_isName 0 = .ok (.aload_n 0, 1) := by decide +kernel
theorem dX7_isName_1 : decode cX7_isName 1 = .ok (.getfield 52, 3) := by decide +kernel
theorem dX7_isName_4 : decode cX7_isName 4 = .ok (.iconst 1, 1) := by decide +kernel
theorem dX7_isName_5 : decode cX7_isName 5 = .ok (.if_icmp .ne 70, 3) := by decide +kernel
theorem dX7_isName_8 : decode cX7_isName 8 = .ok (.aload_n 0, 1) := by decide +kernel
theorem dX7_isName_9 : decode cX7_isName 9 = .ok (.ldc 66, 2) := by decide +kernel
theorem dX7_isName_11 : decode cX7_isName 11 = .ok (.invokevirtual 68, 3) := by decide +kernel
theorem dX7_isName_14 : decode cX7_isName 14 = .ok (.ifCond .ne 61, 3) := by decide +kernel
theorem dX7_isName_17 : decode cX7_isName 17 = .ok (.aload_n 0, 1) := by decide +kernel
theorem dX7_isName_18 : decode cX7_isName 18 = .ok (.ldc 78, 2) := by decide +kernel
theorem dX7_isName_20 : decode cX7_isName 20 = .ok (.invokevirtual 68, 3) := by decide +kernel
theorem dX7_isName_23 : decode cX7_isName 23 = .ok (.ifCond .ne 52, 3) := by decide +kernel
theorem dX7_isName_26 : decode cX7_isName 26 = .ok (.aload_n 0, 1) := by decide +kernel
theorem dX7_isName_27 : decode cX7_isName 27 = .ok (.ldc 80, 2) := by decide +kernel
theorem dX7_isName_29 : decode cX7_isName 29 = .ok (.invokevirtual 68, 3) := by decide +kernel
theorem dX7_isName_32 : decode cX7_isName 32 = .ok (.ifCond .ne 43, 3) := by decide +kernel
theorem dX7_isName_35 : decode cX7_isName 35 = .ok (.aload_n 0, 1) := by decide +kernel
theorem dX7_isName_36 : decode cX7_isName 36 = .ok (.ldc 81, 2) := by decide +kernel
theorem dX7_isName_38 : decode cX7_isName 38 = .ok (.invokevirtual 68, 3) := by decide +kernel
theorem dX7_isName_41 : decode cX7_isName 41 = .ok (.ifCond .ne 34, 3) := by decide +kernel
theorem dX7_isName_44 : decode cX7_isName 44 = .ok (.aload_n 0, 1) := by decide +kernel
theorem dX7_isName_45 : decode cX7_isName 45 = .ok (.ldc 83, 2) := by decide +kernel
theorem dX7_isName_47 : decode cX7_isName 47 = .ok (.invokevirtual 68, 3) := by decide +kernel
theorem dX7_isName_50 : decode cX7_isName 50 = .ok (.ifCond .ne 25, 3) := by decide +kernel
theorem dX7_isName_53 : decode cX7_isName 53 = .ok (.aload_n 0, 1) := by decide +kernel
theorem dX7_isName_54 : decode cX7_isName 54 = .ok (.ldc 85, 2) := by decide +kernel
theorem dX7_isName_56 : decode cX7_isName 56 = .ok (.invokevirtual 68, 3) := by decide +kernel
theorem dX7_isName_59 : decode cX7_isName 59 = .ok (.ifCond .ne 16, 3) := by decide +kernel
theorem dX7_isName_62 : decode cX7_isName 62 = .ok (.aload_n 0, 1) := by decide +kernel
theorem dX7_isName_63 : decode cX7_isName 63 = .ok (.ldc 170, 2) := by decide +kernel
theorem dX7_isName_65 : decode cX7_isName 65 = .ok (.invokevirtual 68, 3) := by decide +kernel
theorem dX7_isName_68 : decode cX7_isName 68 = .ok (.ifCond .ne 7, 3) := by decide +kernel
theorem dX7_isName_71 : decode cX7_isName 71 = .ok (.iconst 1, 1) := by decide +kernel
theorem dX7_isName_72 : decode cX7_isName 72 = .ok (.goto 4, 3) := by decide +kernel
theorem dX7_isName_75 : decode cX7_isName 75 = .ok (.iconst 0, 1) := by decide +kernel
theorem dX7_isName_76 : decode cX7_isName 76 = .ok (.ireturn, 1) := by decide +kernel
theorem dX7_isToldName_0 : decode cX7_isToldName 0 = .ok (.aload_n 0, 1) := by decide +kernel
theorem dX7_isToldName_1 : decode cX7_isToldName 1 = .ok (.invokevirtual 141, 3) := by decide +kernel
theorem dX7_isToldName_4 : decode cX7_isToldName 4 = .ok (.ifCond .ne 9, 3) := by decide +kernel
theorem dX7_isToldName_7 : decode cX7_isToldName 7 = .ok (.aload_n 0, 1) := by decide +kernel
theorem dX7_isToldName_8 : decode cX7_isToldName 8 = .ok (.iconst 1, 1) := by decide +kernel
theorem dX7_isToldName_9 : decode cX7_isToldName 9 = .ok (.invokevirtual 58, 3) := by decide +kernel
theorem dX7_isToldName_12 : decode cX7_isToldName 12 = .ok (.ireturn, 1) := by decide +kernel
theorem dX7_isToldName_13 : decode cX7_isToldName 13 = .ok (.aload_n 0, 1) := by decide +kernel
theorem dX7_isToldName_14 : decode cX7_isToldName 14 = .ok (.invokevirtual 144, 3) := by decide +kernel
theorem dX7_isToldName_17 : decode cX7_isToldName 17 = .ok (.iconst (-1), 1) := by decide +kernel
theorem dX7_isToldName_18 : decode cX7_isToldName 18 = .ok (.if_icmp .ne 11, 3) := by decide +kernel
theorem dX7_isToldName_21 : decode cX7_isToldName 21 = .ok (.aload_n 0, 1) := by decide +kernel
theorem dX7_isToldName_22 : decode cX7_isToldName 22 = .ok (.iconst 2, 1) := by decide +kernel
theorem dX7_isToldName_23 : decode cX7_isToldName 23 = .ok (.invokevirtual 58, 3) := by decide +kernel
theorem dX7_isToldName_26 : decode cX7_isToldName 26 = .ok (.ifCond .eq 7, 3) := by decide +kernel
theorem dX7_isToldName_29 : decode cX7_isToldName 29 = .ok (.iconst 1, 1) := by decide +kernel
theorem dX7_isToldName_30 : decode cX7_isToldName 30 = .ok (.goto 4, 3) := by decide +kernel
theorem dX7_isToldName_33 : decode cX7_isToldName 33 = .ok (.iconst 0, 1) := by decide +kernel
theorem dX7_isToldName_34 : decode cX7_isToldName 34 = .ok (.ireturn, 1) := by decide +kernel
theorem dX7_placeNamed_0 : decode cX7_placeNamed 0 = .ok (.iconst 0, 1) := by decide +kernel
theorem dX7_placeNamed_1 : decode cX7_placeNamed 1 = .ok (.istore_n 1, 1) := by decide +kernel
theorem dX7_placeNamed_2 : decode cX7_placeNamed 2 = .ok (.iload_n 1, 1) := by decide +kernel
theorem dX7_placeNamed_3 : decode cX7_placeNamed 3 = .ok (.aload_n 0, 1) := by decide +kernel
theorem dX7_placeNamed_4 : decode cX7_placeNamed 4 = .ok (.getfield 18, 3) := by decide +kernel
theorem dX7_placeNamed_7 : decode cX7_placeNamed 7 = .ok (.getfield 87, 3) := by decide +kernel
theorem dX7_placeNamed_10 : decode cX7_placeNamed 10 = .ok (.if_icmp .ge 19, 3) := by decide +kernel
theorem dX7_placeNamed_13 : decode cX7_placeNamed 13 = .ok (.aload_n 0, 1) := by decide +kernel
theorem dX7_placeNamed_14 : decode cX7_placeNamed 14 = .ok (.iload_n 1, 1) := by decide +kernel
theorem dX7_placeNamed_15 : decode cX7_placeNamed 15 = .ok (.invokevirtual 221, 3) := by decide +kernel
theorem dX7_placeNamed_18 : decode cX7_placeNamed 18 = .ok (.ifCond .eq 5, 3) := by decide +kernel
theorem dX7_placeNamed_21 : decode cX7_placeNamed 21 = .ok (.iload_n 1, 1) := by decide +kernel
theorem dX7_placeNamed_22 : decode cX7_placeNamed 22 = .ok (.ireturn, 1) := by decide +kernel
theorem dX7_placeNamed_23 : decode cX7_placeNamed 23 = .ok (.iinc 1 1, 3) := by decide +kernel
theorem dX7_placeNamed_26 : decode cX7_placeNamed 26 = .ok (.goto (-24), 3) := by decide +kernel
theorem dX7_placeNamed_29 : decode cX7_placeNamed 29 = .ok (.iconst (-1), 1) := by decide +kernel
theorem dX7_placeNamed_30 : decode cX7_placeNamed 30 = .ok (.ireturn, 1) := by decide +kernel
theorem dX7_isSameName_0 : decode cX7_isSameName 0 = .ok (.aload_n 0, 1) := by decide +kernel
theorem dX7_isSameName_1 : decode cX7_isSameName 1 = .ok (.getfield 26, 3) := by decide +kernel
theorem dX7_isSameName_4 : decode cX7_isSameName 4 = .ok (.iload_n 1, 1) := by decide +kernel
theorem dX7_isSameName_5 : decode cX7_isSameName 5 = .ok (.iaload, 1) := by decide +kernel
theorem dX7_isSameName_6 : decode cX7_isSameName 6 = .ok (.aload_n 0, 1) := by decide +kernel
theorem dX7_isSameName_7 : decode cX7_isSameName 7 = .ok (.getfield 22, 3) := by decide +kernel
theorem dX7_isSameName_10 : decode cX7_isSameName 10 = .ok (.iload_n 1, 1) := by decide +kernel
theorem dX7_isSameName_11 : decode cX7_isSameName 11 = .ok (.iaload, 1) := by decide +kernel
theorem dX7_isSameName_12 : decode cX7_isSameName 12 = .ok (.isub, 1) := by decide +kernel
theorem dX7_isSameName_13 : decode cX7_isSameName 13 = .ok (.istore_n 2, 1) := by decide +kernel
theorem dX7_isSameName_14 : decode cX7_isSameName 14 = .ok (.iload_n 2, 1) := by decide +kernel
theorem dX7_isSameName_15 : decode cX7_isSameName 15 = .ok (.aload_n 0, 1) := by decide +kernel
theorem dX7_isSameName_16 : decode cX7_isSameName 16 = .ok (.getfield 42, 3) := by decide +kernel
theorem dX7_isSameName_19 : decode cX7_isSameName 19 = .ok (.aload_n 0, 1) := by decide +kernel
theorem dX7_isSameName_20 : decode cX7_isSameName 20 = .ok (.getfield 148, 3) := by decide +kernel
theorem dX7_isSameName_23 : decode cX7_isSameName 23 = .ok (.isub, 1) := by decide +kernel
theorem dX7_isSameName_24 : decode cX7_isSameName 24 = .ok (.if_icmp .eq 5, 3) := by decide +kernel
theorem dX7_isSameName_27 : decode cX7_isSameName 27 = .ok (.iconst 0, 1) := by decide +kernel
theorem dX7_isSameName_28 : decode cX7_isSameName 28 = .ok (.ireturn, 1) := by decide +kernel
theorem dX7_isSameName_29 : decode cX7_isSameName 29 = .ok (.iconst 0, 1) := by decide +kernel
theorem dX7_isSameName_30 : decode cX7_isSameName 30 = .ok (.istore_n 3, 1) := by decide +kernel
theorem dX7_isSameName_31 : decode cX7_isSameName 31 = .ok (.iload_n 3, 1) := by decide +kernel
theorem dX7_isSameName_32 : decode cX7_isSameName 32 = .ok (.iload_n 2, 1) := by decide +kernel
theorem dX7_isSameName_33 : decode cX7_isSameName 33 = .ok (.if_icmp .ge 38, 3) := by decide +kernel
theorem dX7_isSameName_36 : decode cX7_isSameName 36 = .ok (.aload_n 0, 1) := by decide +kernel
theorem dX7_isSameName_37 : decode cX7_isSameName 37 = .ok (.getfield 9, 3) := by decide +kernel
theorem dX7_isSameName_40 : decode cX7_isSameName 40 = .ok (.aload_n 0, 1) := by decide +kernel
theorem dX7_isSameName_41 : decode cX7_isSameName 41 = .ok (.getfield 22, 3) := by decide +kernel
theorem dX7_isSameName_44 : decode cX7_isSameName 44 = .ok (.iload_n 1, 1) := by decide +kernel
theorem dX7_isSameName_45 : decode cX7_isSameName 45 = .ok (.iaload, 1) := by decide +kernel
theorem dX7_isSameName_46 : decode cX7_isSameName 46 = .ok (.iload_n 3, 1) := by decide +kernel
theorem dX7_isSameName_47 : decode cX7_isSameName 47 = .ok (.iadd, 1) := by decide +kernel
theorem dX7_isSameName_48 : decode cX7_isSameName 48 = .ok (.baload, 1) := by decide +kernel
theorem dX7_isSameName_49 : decode cX7_isSameName 49 = .ok (.aload_n 0, 1) := by decide +kernel
theorem dX7_isSameName_50 : decode cX7_isSameName 50 = .ok (.getfield 9, 3) := by decide +kernel
theorem dX7_isSameName_53 : decode cX7_isSameName 53 = .ok (.aload_n 0, 1) := by decide +kernel
theorem dX7_isSameName_54 : decode cX7_isSameName 54 = .ok (.getfield 148, 3) := by decide +kernel
theorem dX7_isSameName_57 : decode cX7_isSameName 57 = .ok (.iload_n 3, 1) := by decide +kernel
theorem dX7_isSameName_58 : decode cX7_isSameName 58 = .ok (.iadd, 1) := by decide +kernel
theorem dX7_isSameName_59 : decode cX7_isSameName 59 = .ok (.baload, 1) := by decide +kernel
theorem dX7_isSameName_60 : decode cX7_isSameName 60 = .ok (.if_icmp .eq 5, 3) := by decide +kernel
theorem dX7_isSameName_63 : decode cX7_isSameName 63 = .ok (.iconst 0, 1) := by decide +kernel
theorem dX7_isSameName_64 : decode cX7_isSameName 64 = .ok (.ireturn, 1) := by decide +kernel
theorem dX7_isSameName_65 : decode cX7_isSameName 65 = .ok (.iinc 3 1, 3) := by decide +kernel
theorem dX7_isSameName_68 : decode cX7_isSameName 68 = .ok (.goto (-37), 3) := by decide +kernel
theorem dX7_isSameName_71 : decode cX7_isSameName 71 = .ok (.iconst 1, 1) := by decide +kernel
theorem dX7_isSameName_72 : decode cX7_isSameName 72 = .ok (.ireturn, 1) := by decide +kernel
theorem dX8_init_0 : decode cX8_init 0 = .ok (.aload_n 0, 1) := by decide +kernel
theorem dX8_init_1 : decode cX8_init 1 = .ok (.invokespecial 3, 3) := by decide +kernel
theorem dX8_init_4 : decode cX8_init 4 = .ok (.aload_n 0, 1) := by decide +kernel
theorem dX8_init_5 : decode cX8_init 5 = .ok (.bipush 9, 2) := by decide +kernel
theorem dX8_init_7 : decode cX8_init 7 = .ok (.newarray .int, 2) := by decide +kernel
theorem dX8_init_9 : decode cX8_init 9 = .ok (.putfield 9, 3) := by decide +kernel
theorem dX8_init_12 : decode cX8_init 12 = .ok (.aload_n 0, 1) := by decide +kernel
theorem dX8_init_13 : decode cX8_init 13 = .ok (.bipush 9, 2) := by decide +kernel
theorem dX8_init_15 : decode cX8_init 15 = .ok (.newarray .int, 2) := by decide +kernel
theorem dX8_init_17 : decode cX8_init 17 = .ok (.putfield 15, 3) := by decide +kernel
theorem dX8_init_20 : decode cX8_init 20 = .ok (.return_, 1) := by decide +kernel
theorem dX8_search_0 : decode cX8_search 0 = .ok (.aload_n 0, 1) := by decide +kernel
theorem dX8_search_1 : decode cX8_search 1 = .ok (.iconst 0, 1) := by decide +kernel
theorem dX8_search_2 : decode cX8_search 2 = .ok (.putfield 18, 3) := by decide +kernel
theorem dX8_search_5 : decode cX8_search 5 = .ok (.aload_n 0, 1) := by decide +kernel
theorem dX8_search_6 : decode cX8_search 6 = .ok (.iconst 0, 1) := by decide +kernel
theorem dX8_search_7 : decode cX8_search 7 = .ok (.putfield 22, 3) := by decide +kernel
theorem dX8_search_10 : decode cX8_search 10 = .ok (.aload_n 0, 1) := by decide +kernel
theorem dX8_search_11 : decode cX8_search 11 = .ok (.iconst 0, 1) := by decide +kernel
theorem dX8_search_12 : decode cX8_search 12 = .ok (.putfield 25, 3) := by decide +kernel
theorem dX8_search_15 : decode cX8_search 15 = .ok (.aload_n 0, 1) := by decide +kernel
theorem dX8_search_16 : decode cX8_search 16 = .ok (.lconst 0, 1) := by decide +kernel
theorem dX8_search_17 : decode cX8_search 17 = .ok (.putfield 28, 3) := by decide +kernel
theorem dX8_search_20 : decode cX8_search 20 = .ok (.aload_n 0, 1) := by decide +kernel
theorem dX8_search_21 : decode cX8_search 21 = .ok (.iconst 0, 1) := by decide +kernel
theorem dX8_search_22 : decode cX8_search 22 = .ok (.putfield 32, 3) := by decide +kernel
theorem dX8_search_25 : decode cX8_search 25 = .ok (.aload_n 0, 1) := by decide +kernel
theorem dX8_search_26 : decode cX8_search 26 = .ok (.iload_n 2, 1) := by decide +kernel
theorem dX8_search_27 : decode cX8_search 27 = .ok (.putfield 35, 3) := by decide +kernel
theorem dX8_search_30 : decode cX8_search 30 = .ok (.aload_n 0, 1) := by decide +kernel
theorem dX8_search_31 : decode cX8_search 31 = .ok (.getfield 15, 3) := by decide +kernel
theorem dX8_search_34 : decode cX8_search 34 = .ok (.iconst 0, 1) := by decide +kernel
theorem dX8_search_35 : decode cX8_search 35 = .ok (.aload_n 1, 1) := by decide +kernel
theorem dX8_search_36 : decode cX8_search 36 = .ok (.invokevirtual 38, 3) := by decide +kernel
theorem dX8_search_39 : decode cX8_search 39 = .ok (.iastore, 1) := by decide +kernel
theorem dX8_search_40 : decode cX8_search 40 = .ok (.aload_n 0, 1) := by decide +kernel
theorem dX8_search_41 : decode cX8_search 41 = .ok (.aload_n 1, 1) := by decide +kernel
theorem dX8_search_42 : decode cX8_search 42 = .ok (.iconst 1, 1) := by decide +kernel
theorem dX8_search_43 : decode cX8_search 43 = .ok (.iconst 1, 1) := by decide +kernel
theorem dX8_search_44 : decode cX8_search 44 = .ok (.aload_n 1, 1) := by decide +kernel
theorem dX8_search_45 : decode cX8_search 45 = .ok (.invokevirtual 38, 3) := by decide +kernel
theorem dX8_search_48 : decode cX8_search 48 = .ok (.ishl, 1) := by decide +kernel
theorem dX8_search_49 : decode cX8_search 49 = .ok (.invokevirtual 44, 3) := by decide +kernel
theorem dX8_search_52 : decode cX8_search 52 = .ok (.return_, 1) := by decide +kernel
theorem dX8_extend_0 : decode cX8_extend 0 = .ok (.aload_n 0, 1) := by decide +kernel
theorem dX8_extend_1 : decode cX8_extend 1 = .ok (.getfield 15, 3) := by decide +kernel
theorem dX8_extend_4 : decode cX8_extend 4 = .ok (.iload_n 2, 1) := by decide +kernel
theorem dX8_extend_5 : decode cX8_extend 5 = .ok (.iconst 1, 1) := by decide +kernel
theorem dX8_extend_6 : decode cX8_extend 6 = .ok (.isub, 1) := by decide +kernel
theorem dX8_extend_7 : decode cX8_extend 7 = .ok (.iaload, 1) := by decide +kernel
theorem dX8_extend_8 : decode cX8_extend 8 = .ok (.istore 4, 2) := by decide +kernel
theorem dX8_extend_10 : decode cX8_extend 10 = .ok (.iload 4, 2) := by decide +kernel
theorem dX8_extend_12 : decode cX8_extend 12 = .ok (.aload_n 1, 1) := by decide +kernel
theorem dX8_extend_13 : decode cX8_extend 13 = .ok (.invokevirtual 48, 3) := by decide +kernel
theorem dX8_extend_16 : decode cX8_extend 16 = .ok (.if_icmp .ne 11, 3) := by decide +kernel
theorem dX8_extend_19 : decode cX8_extend 19 = .ok (.aload_n 0, 1) := by decide +kernel
theorem dX8_extend_20 : decode cX8_extend 20 = .ok (.aload_n 1, 1) := by decide +kernel
theorem dX8_extend_21 : decode cX8_extend 21 = .ok (.iload_n 2, 1) := by decide +kernel
theorem dX8_extend_22 : decode cX8_extend 22 = .ok (.iload_n 3, 1) := by decide +kernel
theorem dX8_extend_23 : decode cX8_extend 23 = .ok (.invokevirtual 51, 3) := by decide +kernel
theorem dX8_extend_26 : decode cX8_extend 26 = .ok (.return_, 1) := by decide +kernel
theorem dX8_extend_27 : decode cX8_extend 27 = .ok (.iload_n 2, 1) := by decide +kernel
theorem dX8_extend_28 : decode cX8_extend 28 = .ok (.bipush 9, 2) := by decide +kernel
theorem dX8_extend_30 : decode cX8_extend 30 = .ok (.if_icmp .lt 4, 3) := by decide +kernel
theorem dX8_extend_33 : decode cX8_extend 33 = .ok (.return_, 1) := by decide +kernel
theorem dX8_extend_34 : decode cX8_extend 34 = .ok (.iconst 0, 1) := by decide +kernel
theorem dX8_extend_35 : decode cX8_extend 35 = .ok (.istore 5, 2) := by decide +kernel
theorem dX8_extend_37 : decode cX8_extend 37 = .ok (.iload 5, 2) := by decide +kernel
theorem dX8_extend_39 : decode cX8_extend 39 = .ok (.aload_n 1, 1) := by decide +kernel
theorem dX8_extend_40 : decode cX8_extend 40 = .ok (.getfield 54, 3) := by decide +kernel
theorem dX8_extend_43 : decode cX8_extend 43 = .ok (.if_icmp .ge 51, 3) := by decide +kernel
theorem dX8_extend_46 : decode cX8_extend 46 = .ok (.aload_n 1, 1) := by decide +kernel
theorem dX8_extend_47 : decode cX8_extend 47 = .ok (.iload 4, 2) := by decide +kernel
theorem dX8_extend_49 : decode cX8_extend 49 = .ok (.iload 5, 2) := by decide +kernel
theorem dX8_extend_51 : decode cX8_extend 51 = .ok (.invokevirtual 57, 3) := by decide +kernel
theorem dX8_extend_54 : decode cX8_extend 54 = .ok (.ifCond .eq 34, 3) := by decide +kernel
theorem dX8_extend_57 : decode cX8_extend 57 = .ok (.iload_n 3, 1) := by decide +kernel
theorem dX8_extend_58 : decode cX8_extend 58 = .ok (.iload 5, 2) := by decide +kernel
theorem dX8_extend_60 : decode cX8_extend 60 = .ok (.ishr, 1) := by decide +kernel
theorem dX8_extend_61 : decode cX8_extend 61 = .ok (.iconst 1, 1) := by decide +kernel
theorem dX8_extend_62 : decode cX8_extend 62 = .ok (.iand, 1) := by decide +kernel
theorem dX8_extend_63 : decode cX8_extend 63 = .ok (.ifCond .ne 25, 3) := by decide +kernel
theorem dX8_extend_66 : decode cX8_extend 66 = .ok (.aload_n 0, 1) := by decide +kernel
theorem dX8_extend_67 : decode cX8_extend 67 = .ok (.getfield 15, 3) := by decide +kernel
theorem dX8_extend_70 : decode cX8_extend 70 = .ok (.iload_n 2, 1) := by decide +kernel
theorem dX8_extend_71 : decode cX8_extend 71 = .ok (.iload 5, 2) := by decide +kernel
theorem dX8_extend_73 : decode cX8_extend 73 = .ok (.iastore, 1) := by decide +kernel
theorem dX8_extend_74 : decode cX8_extend 74 = .ok (.aload_n 0, 1) := by decide +kernel
theorem dX8_extend_75 : decode cX8_extend 75 = .ok (.aload_n 1, 1) := by decide +kernel
theorem dX8_extend_76 : decode cX8_extend 76 = .ok (.iload_n 2, 1) := by decide +kernel
theorem dX8_extend_77 : decode cX8_extend 77 = .ok (.iconst 1, 1) := by decide +kernel
theorem dX8_extend_78 : decode cX8_extend 78 = .ok (.iadd, 1) := by decide +kernel
theorem dX8_extend_79 : decode cX8_extend 79 = .ok (.iload_n 3, 1) := by decide +kernel
theorem dX8_extend_80 : decode cX8_extend 80 = .ok (.iconst 1, 1) := by decide +kernel
theorem dX8_extend_81 : decode cX8_extend 81 = .ok (.iload 5, 2) := by decide +kernel
theorem dX8_extend_83 : decode cX8_extend 83 = .ok (.ishl, 1) := by decide +kernel
theorem dX8_extend_84 : decode cX8_extend 84 = .ok (.ior, 1) := by decide +kernel
theorem dX8_extend_85 : decode cX8_extend 85 = .ok (.invokevirtual 44, 3) := by decide +kernel
theorem dX8_extend_88 : decode cX8_extend 88 = .ok (.iinc 5 1, 3) := by decide +kernel
theorem dX8_extend_91 : decode cX8_extend 91 = .ok (.goto (-54), 3) := by decide +kernel
theorem dX8_extend_94 : decode cX8_extend 94 = .ok (.return_, 1) := by decide +kernel
theorem dX8_weigh_0 : decode cX8_weigh 0 = .ok (.aload_n 0, 1) := by decide +kernel
theorem dX8_weigh_1 : decode cX8_weigh 1 = .ok (.aload_n 1, 1) := by decide +kernel
theorem dX8_weigh_2 : decode cX8_weigh 2 = .ok (.iload_n 2, 1) := by decide +kernel
theorem dX8_weigh_3 : decode cX8_weigh 3 = .ok (.invokevirtual 61, 3) := by decide +kernel
theorem dX8_weigh_6 : decode cX8_weigh 6 = .ok (.lstore 4, 2) := by decide +kernel
theorem dX8_weigh_8 : decode cX8_weigh 8 = .ok (.aload_n 0, 1) := by decide +kernel
theorem dX8_weigh_9 : decode cX8_weigh 9 = .ok (.dup, 1) := by decide +kernel
theorem dX8_weigh_10 : decode cX8_weigh 10 = .ok (.getfield 28, 3) := by decide +kernel
theorem dX8_weigh_13 : decode cX8_weigh 13 = .ok (.lload 4, 2) := by decide +kernel
theorem dX8_weigh_15 : decode cX8_weigh 15 = .ok (.lor, 1) := by decide +kernel
theorem dX8_weigh_16 : decode cX8_weigh 16 = .ok (.putfield 28, 3) := by decide +kernel
theorem dX8_weigh_19 : decode cX8_weigh 19 = .ok (.lload 4, 2) := by decide +kernel
theorem dX8_weigh_21 : decode cX8_weigh 21 = .ok (.aload_n 1, 1) := by decide +kernel
theorem dX8_weigh_22 : decode cX8_weigh 22 = .ok (.getfield 65, 3) := by decide +kernel
theorem dX8_weigh_25 : decode cX8_weigh 25 = .ok (.lshr, 1) := by decide +kernel
theorem dX8_weigh_26 : decode cX8_weigh 26 = .ok (.lconst 1, 1) := by decide +kernel
theorem dX8_weigh_27 : decode cX8_weigh 27 = .ok (.land, 1) := by decide +kernel
theorem dX8_weigh_28 : decode cX8_weigh 28 = .ok (.lconst 0, 1) := by decide +kernel
theorem dX8_weigh_29 : decode cX8_weigh 29 = .ok (.lcmp, 1) := by decide +kernel
theorem dX8_weigh_30 : decode cX8_weigh 30 = .ok (.ifCond .ne 4, 3) := by decide +kernel
theorem dX8_weigh_33 : decode cX8_weigh 33 = .ok (.return_, 1) := by decide +kernel
theorem dX8_weigh_34 : decode cX8_weigh 34 = .ok (.aload_n 0, 1) := by decide +kernel
theorem dX8_weigh_35 : decode cX8_weigh 35 = .ok (.getfield 18, 3) := by decide +kernel
theorem dX8_weigh_38 : decode cX8_weigh 38 = .ok (.aload_n 0, 1) := by decide +kernel
theorem dX8_weigh_39 : decode cX8_weigh 39 = .ok (.getfield 35, 3) := by decide +kernel
theorem dX8_weigh_42 : decode cX8_weigh 42 = .ok (.if_icmp .ne 22, 3) := by decide +kernel
theorem dX8_weigh_45 : decode cX8_weigh 45 = .ok (.aload_n 0, 1) := by decide +kernel
theorem dX8_weigh_46 : decode cX8_weigh 46 = .ok (.getfield 15, 3) := by decide +kernel
theorem dX8_weigh_49 : decode cX8_weigh 49 = .ok (.iconst 0, 1) := by decide +kernel
theorem dX8_weigh_50 : decode cX8_weigh 50 = .ok (.aload_n 0, 1) := by decide +kernel
theorem dX8_weigh_51 : decode cX8_weigh 51 = .ok (.getfield 9, 3) := by decide +kernel
theorem dX8_weigh_54 : decode cX8_weigh 54 = .ok (.iconst 0, 1) := by decide +kernel
theorem dX8_weigh_55 : decode cX8_weigh 55 = .ok (.iload_n 2, 1) := by decide +kernel
theorem dX8_weigh_56 : decode cX8_weigh 56 = .ok (.invokestatic 68, 3) := by decide +kernel
theorem dX8_weigh_59 : decode cX8_weigh 59 = .ok (.aload_n 0, 1) := by decide +kernel
theorem dX8_weigh_60 : decode cX8_weigh 60 = .ok (.iload_n 2, 1) := by decide +kernel
theorem dX8_weigh_61 : decode cX8_weigh 61 = .ok (.putfield 32, 3) := by decide +kernel
theorem dX8_weigh_64 : decode cX8_weigh 64 = .ok (.aload_n 0, 1) := by decide +kernel
theorem dX8_weigh_65 : decode cX8_weigh 65 = .ok (.aload_n 0, 1) := by decide +kernel
theorem dX8_weigh_66 : decode cX8_weigh 66 = .ok (.getfield 18, 3) := by decide +kernel
theorem dX8_weigh_69 : decode cX8_weigh 69 = .ok (.ifCond .ne 7, 3) := by decide +kernel
theorem dX8_weigh_72 : decode cX8_weigh 72 = .ok (.iload_n 3, 1) := by decide +kernel
theorem dX8_weigh_73 : decode cX8_weigh 73 = .ok (.goto 9, 3) := by decide +kernel
theorem dX8_weigh_76 : decode cX8_weigh 76 = .ok (.aload_n 0, 1) := by decide +kernel
theorem dX8_weigh_77 : decode cX8_weigh 77 = .ok (.getfield 25, 3) := by decide +kernel
theorem dX8_weigh_80 : decode cX8_weigh 80 = .ok (.iload_n 3, 1) := by decide +kernel
theorem dX8_weigh_81 : decode cX8_weigh 81 = .ok (.iand, 1) := by decide +kernel
theorem dX8_weigh_82 : decode cX8_weigh 82 = .ok (.putfield 25, 3) := by decide +kernel
theorem dX8_weigh_85 : decode cX8_weigh 85 = .ok (.aload_n 0, 1) := by decide +kernel
theorem dX8_weigh_86 : decode cX8_weigh 86 = .ok (.dup, 1) := by decide +kernel
theorem dX8_weigh_87 : decode cX8_weigh 87 = .ok (.getfield 22, 3) := by decide +kernel
theorem dX8_weigh_90 : decode cX8_weigh 90 = .ok (.iload_n 3, 1) := by decide +kernel
theorem dX8_weigh_91 : decode cX8_weigh 91 = .ok (.ior, 1) := by decide +kernel
theorem dX8_weigh_92 : decode cX8_weigh 92 = .ok (.putfield 22, 3) := by decide +kernel
theorem dX8_weigh_95 : decode cX8_weigh 95 = .ok (.aload_n 0, 1) := by decide +kernel
theorem dX8_weigh_96 : decode cX8_weigh 96 = .ok (.dup, 1) := by decide +kernel
theorem dX8_weigh_97 : decode cX8_weigh 97 = .ok (.getfield 18, 3) := by decide +kernel
theorem dX8_weigh_100 : decode cX8_weigh 100 = .ok (.iconst 1, 1) := by decide +kernel
theorem dX8_weigh_101 : decode cX8_weigh 101 = .ok (.iadd, 1) := by decide +kernel
theorem dX8_weigh_102 : decode cX8_weigh 102 = .ok (.putfield 18, 3) := by decide +kernel
theorem dX8_weigh_105 : decode cX8_weigh 105 = .ok (.return_, 1) := by decide +kernel
theorem dX8_fittingBeginnings_0 : decode cX8_fittingBeginnings 0 = .ok (.lconst 1, 1) := by decide +kernel
theorem dX8_fittingBeginnings_1 : decode cX8_fittingBeginnings 1 = .ok (.aload_n 1, 1) := by decide +kernel
theorem dX8_fittingBeginnings_2 : decode cX8_fittingBeginnings 2 = .ok (.getfield 74, 3) := by decide +kernel
theorem dX8_fittingBeginnings_5 : decode cX8_fittingBeginnings 5 = .ok (.iconst 1, 1) := by decide +kernel
theorem dX8_fittingBeginnings_6 : decode cX8_fittingBeginnings 6 = .ok (.iadd, 1) := by decide +kernel
theorem dX8_fittingBeginnings_7 : decode cX8_fittingBeginnings 7 = .ok (.lshl, 1) := by decide +kernel
theorem dX8_fittingBeginnings_8 : decode cX8_fittingBeginnings 8 = .ok (.lconst 1, 1) := by decide +kernel
theorem dX8_fittingBeginnings_9 : decode cX8_fittingBeginnings 9 = .ok (.lsub, 1) := by decide +kernel
theorem dX8_fittingBeginnings_10 : decode cX8_fittingBeginnings 10 = .ok (.lstore_n 3, 1) := by decide +kernel
theorem dX8_fittingBeginnings_11 : decode cX8_fittingBeginnings 11 = .ok (.lload_n 3, 1) := by decide +kernel
theorem dX8_fittingBeginnings_12 : decode cX8_fittingBeginnings 12 = .ok (.lstore 5, 2) := by decide +kernel
theorem dX8_fittingBeginnings_14 : decode cX8_fittingBeginnings 14 = .ok (.aload_n 1, 1) := by decide +kernel
theorem dX8_fittingBeginnings_15 : decode cX8_fittingBeginnings 15 = .ok (.getfield 77, 3) := by decide +kernel
theorem dX8_fittingBeginnings_18 : decode cX8_fittingBeginnings 18 = .ok (.iconst 1, 1) := by decide +kernel
theorem dX8_fittingBeginnings_19 : decode cX8_fittingBeginnings 19 = .ok (.isub, 1) := by decide +kernel
theorem dX8_fittingBeginnings_20 : decode cX8_fittingBeginnings 20 = .ok (.istore 7, 2) := by decide +kernel
theorem dX8_fittingBeginnings_22 : decode cX8_fittingBeginnings 22 = .ok (.iload_n 2, 1) := by decide +kernel
theorem dX8_fittingBeginnings_23 : decode cX8_fittingBeginnings 23 = .ok (.iconst 1, 1) := by decide +kernel
theorem dX8_fittingBeginnings_24 : decode cX8_fittingBeginnings 24 = .ok (.isub, 1) := by decide +kernel
theorem dX8_fittingBeginnings_25 : decode cX8_fittingBeginnings 25 = .ok (.istore 8, 2) := by decide +kernel
theorem dX8_fittingBeginnings_27 : decode cX8_fittingBeginnings 27 = .ok (.iload 8, 2) := by decide +kernel
theorem dX8_fittingBeginnings_29 : decode cX8_fittingBeginnings 29 = .ok (.ifCond .lt 79, 3) := by decide +kernel
theorem dX8_fittingBeginnings_32 : decode cX8_fittingBeginnings 32 = .ok (.iload 7, 2) := by decide +kernel
theorem dX8_fittingBeginnings_34 : decode cX8_fittingBeginnings 34 = .ok (.ifCond .lt 36, 3) := by decide +kernel
theorem dX8_fittingBeginnings_37 : decode cX8_fittingBeginnings 37 = .ok (.aload_n 1, 1) := by decide +kernel
theorem dX8_fittingBeginnings_38 : decode cX8_fittingBeginnings 38 = .ok (.getfield 80, 3) := by decide +kernel
theorem dX8_fittingBeginnings_41 : decode cX8_fittingBeginnings 41 = .ok (.iload 7, 2) := by decide +kernel
theorem dX8_fittingBeginnings_43 : decode cX8_fittingBeginnings 43 = .ok (.iaload, 1) := by decide +kernel
theorem dX8_fittingBeginnings_44 : decode cX8_fittingBeginnings 44 = .ok (.aload_n 0, 1) := by decide +kernel
theorem dX8_fittingBeginnings_45 : decode cX8_fittingBeginnings 45 = .ok (.getfield 15, 3) := by decide +kernel
theorem dX8_fittingBeginnings_48 : decode cX8_fittingBeginnings 48 = .ok (.iload 8, 2) := by decide +kernel
theorem dX8_fittingBeginnings_50 : decode cX8_fittingBeginnings 50 = .ok (.iaload, 1) := by decide +kernel
theorem dX8_fittingBeginnings_51 : decode cX8_fittingBeginnings 51 = .ok (.if_icmp .ne 19, 3) := by decide +kernel
theorem dX8_fittingBeginnings_54 : decode cX8_fittingBeginnings 54 = .ok (.aload_n 1, 1) := by decide +kernel
theorem dX8_fittingBeginnings_55 : decode cX8_fittingBeginnings 55 = .ok (.iload 7, 2) := by decide +kernel
theorem dX8_fittingBeginnings_57 : decode cX8_fittingBeginnings 57 = .ok (.lload 5, 2) := by decide +kernel
theorem dX8_fittingBeginnings_59 : decode cX8_fittingBeginnings 59 = .ok (.invokestatic 83, 3) := by decide +kernel
theorem dX8_fittingBeginnings_62 : decode cX8_fittingBeginnings 62 = .ok (.lstore 5, 2) := by decide +kernel
theorem dX8_fittingBeginnings_64 : decode cX8_fittingBeginnings 64 = .ok (.iinc 7 (-1), 3) := by decide +kernel
theorem dX8_fittingBeginnings_67 : decode cX8_fittingBeginnings 67 = .ok (.goto (-35), 3) := by decide +kernel
theorem dX8_fittingBeginnings_70 : decode cX8_fittingBeginnings 70 = .ok (.iload 8, 2) := by decide +kernel
theorem dX8_fittingBeginnings_72 : decode cX8_fittingBeginnings 72 = .ok (.ifCond .le 30, 3) := by decide +kernel
theorem dX8_fittingBeginnings_75 : decode cX8_fittingBeginnings 75 = .ok (.lload 5, 2) := by decide +kernel
theorem dX8_fittingBeginnings_77 : decode cX8_fittingBeginnings 77 = .ok (.aload_n 1, 1) := by decide +kernel
theorem dX8_fittingBeginnings_78 : decode cX8_fittingBeginnings 78 = .ok (.aload_n 0, 1) := by decide +kernel
theorem dX8_fittingBeginnings_79 : decode cX8_fittingBeginnings 79 = .ok (.getfield 15, 3) := by decide +kernel
theorem dX8_fittingBeginnings_82 : decode cX8_fittingBeginnings 82 = .ok (.iload 8, 2) := by decide +kernel
theorem dX8_fittingBeginnings_84 : decode cX8_fittingBeginnings 84 = .ok (.iconst 1, 1) := by decide +kernel
theorem dX8_fittingBeginnings_85 : decode cX8_fittingBeginnings 85 = .ok (.isub, 1) := by decide +kernel
theorem dX8_fittingBeginnings_86 : decode cX8_fittingBeginnings 86 = .ok (.iaload, 1) := by decide +kernel
theorem dX8_fittingBeginnings_87 : decode cX8_fittingBeginnings 87 = .ok (.aload_n 0, 1) := by decide +kernel
theorem dX8_fittingBeginnings_88 : decode cX8_fittingBeginnings 88 = .ok (.getfield 15, 3) := by decide +kernel
theorem dX8_fittingBeginnings_91 : decode cX8_fittingBeginnings 91 = .ok (.iload 8, 2) := by decide +kernel
theorem dX8_fittingBeginnings_93 : decode cX8_fittingBeginnings 93 = .ok (.iaload, 1) := by decide +kernel
theorem dX8_fittingBeginnings_94 : decode cX8_fittingBeginnings 94 = .ok (.invokevirtual 87, 3) := by decide +kernel
theorem dX8_fittingBeginnings_97 : decode cX8_fittingBeginnings 97 = .ok (.lshl, 1) := by decide +kernel
theorem dX8_fittingBeginnings_98 : decode cX8_fittingBeginnings 98 = .ok (.lload_n 3, 1) := by decide +kernel
theorem dX8_fittingBeginnings_99 : decode cX8_fittingBeginnings 99 = .ok (.land, 1) := by decide +kernel
theorem dX8_fittingBeginnings_100 : decode cX8_fittingBeginnings 100 = .ok (.lstore 5, 2) := by decide +kernel
theorem dX8_fittingBeginnings_102 : decode cX8_fittingBeginnings 102 = .ok (.iinc 8 (-1), 3) := by decide +kernel
theorem dX8_fittingBeginnings_105 : decode cX8_fittingBeginnings 105 = .ok (.goto (-78), 3) := by decide +kernel
theorem dX8_fittingBeginnings_108 : decode cX8_fittingBeginnings 108 = .ok (.iload 7, 2) := by decide +kernel
theorem dX8_fittingBeginnings_110 : decode cX8_fittingBeginnings 110 = .ok (.ifCond .ge 8, 3) := by decide +kernel
theorem dX8_fittingBeginnings_113 : decode cX8_fittingBeginnings 113 = .ok (.lload 5, 2) := by decide +kernel
theorem dX8_fittingBeginnings_115 : decode cX8_fittingBeginnings 115 = .ok (.goto 4, 3) := by decide +kernel
theorem dX8_fittingBeginnings_118 : decode cX8_fittingBeginnings 118 = .ok (.lconst 0, 1) := by decide +kernel
theorem dX8_fittingBeginnings_119 : decode cX8_fittingBeginnings 119 = .ok (.lreturn, 1) := by decide +kernel
theorem dX8_beforeReceipt_0 : decode cX8_beforeReceipt 0 = .ok (.aload_n 0, 1) := by decide +kernel
theorem dX8_beforeReceipt_1 : decode cX8_beforeReceipt 1 = .ok (.getfield 80, 3) := by decide +kernel
theorem dX8_beforeReceipt_4 : decode cX8_beforeReceipt 4 = .ok (.iload_n 1, 1) := by decide +kernel
theorem dX8_beforeReceipt_5 : decode cX8_beforeReceipt 5 = .ok (.iaload, 1) := by decide +kernel
theorem dX8_beforeReceipt_6 : decode cX8_beforeReceipt 6 = .ok (.istore 4, 2) := by decide +kernel
theorem dX8_beforeReceipt_8 : decode cX8_beforeReceipt 8 = .ok (.aload_n 0, 1) := by decide +kernel
theorem dX8_beforeReceipt_9 : decode cX8_beforeReceipt 9 = .ok (.getfield 91, 3) := by decide +kernel
theorem dX8_beforeReceipt_12 : decode cX8_beforeReceipt 12 = .ok (.iload_n 1, 1) := by decide +kernel
theorem dX8_beforeReceipt_13 : decode cX8_beforeReceipt 13 = .ok (.iaload, 1) := by decide +kernel
theorem dX8_beforeReceipt_14 : decode cX8_beforeReceipt 14 = .ok (.istore 5, 2) := by decide +kernel
theorem dX8_beforeReceipt_16 : decode cX8_beforeReceipt 16 = .ok (.iload 5, 2) := by decide +kernel
theorem dX8_beforeReceipt_18 : decode cX8_beforeReceipt 18 = .ok (.aload_n 0, 1) := by decide +kernel
theorem dX8_beforeReceipt_19 : decode cX8_beforeReceipt 19 = .ok (.getfield 94, 3) := by decide +kernel
theorem dX8_beforeReceipt_22 : decode cX8_beforeReceipt 22 = .ok (.iload 4, 2) := by decide +kernel
theorem dX8_beforeReceipt_24 : decode cX8_beforeReceipt 24 = .ok (.iaload, 1) := by decide +kernel
theorem dX8_beforeReceipt_25 : decode cX8_beforeReceipt 25 = .ok (.lload_n 2, 1) := by decide +kernel
theorem dX8_beforeReceipt_26 : decode cX8_beforeReceipt 26 = .ok (.invokestatic 97, 3) := by decide +kernel
theorem dX8_beforeReceipt_29 : decode cX8_beforeReceipt 29 = .ok (.iload 5, 2) := by decide +kernel
theorem dX8_beforeReceipt_31 : decode cX8_beforeReceipt 31 = .ok (.aload_n 0, 1) := by decide +kernel
theorem dX8_beforeReceipt_32 : decode cX8_beforeReceipt 32 = .ok (.getfield 101, 3) := by decide +kernel
theorem dX8_beforeReceipt_35 : decode cX8_beforeReceipt 35 = .ok (.iload 4, 2) := by decide +kernel
theorem dX8_beforeReceipt_37 : decode cX8_beforeReceipt 37 = .ok (.iaload, 1) := by decide +kernel
theorem dX8_beforeReceipt_38 : decode cX8_beforeReceipt 38 = .ok (.lload_n 2, 1) := by decide +kernel
theorem dX8_beforeReceipt_39 : decode cX8_beforeReceipt 39 = .ok (.invokestatic 97, 3) := by decide +kernel
theorem dX8_beforeReceipt_42 : decode cX8_beforeReceipt 42 = .ok (.lor, 1) := by decide +kernel
theorem dX8_beforeReceipt_43 : decode cX8_beforeReceipt 43 = .ok (.lreturn, 1) := by decide +kernel
theorem dX8_beforeBuying_0 : decode cX8_beforeBuying 0 = .ok (.iload_n 1, 1) := by decide +kernel
theorem dX8_beforeBuying_1 : decode cX8_beforeBuying 1 = .ok (.ifCond .eq 9, 3) := by decide +kernel
theorem dX8_beforeBuying_4 : decode cX8_beforeBuying 4 = .ok (.iload_n 0, 1) := by decide +kernel
theorem dX8_beforeBuying_5 : decode cX8_beforeBuying 5 = .ok (.iload_n 1, 1) := by decide +kernel
theorem dX8_beforeBuying_6 : decode cX8_beforeBuying 6 = .ok (.irem, 1) := by decide +kernel
theorem dX8_beforeBuying_7 : decode cX8_beforeBuying 7 = .ok (.ifCond .eq 5, 3) := by decide +kernel
theorem dX8_beforeBuying_10 : decode cX8_beforeBuying 10 = .ok (.lconst 0, 1) := by decide +kernel
theorem dX8_beforeBuying_11 : decode cX8_beforeBuying 11 = .ok (.lreturn, 1) := by decide +kernel
theorem dX8_beforeBuying_12 : decode cX8_beforeBuying 12 = .ok (.iload_n 0, 1) := by decide +kernel
theorem dX8_beforeBuying_13 : decode cX8_beforeBuying 13 = .ok (.iload_n 1, 1) := by decide +kernel
theorem dX8_beforeBuying_14 : decode cX8_beforeBuying 14 = .ok (.idiv, 1) := by decide +kernel
theorem dX8_beforeBuying_15 : decode cX8_beforeBuying 15 = .ok (.istore 4, 2) := by decide +kernel
theorem dX8_beforeBuying_17 : decode cX8_beforeBuying 17 = .ok (.iload 4, 2) := by decide +kernel
theorem dX8_beforeBuying_19 : decode cX8_beforeBuying 19 = .ok (.bipush 40, 2) := by decide +kernel
theorem dX8_beforeBuying_21 : decode cX8_beforeBuying 21 = .ok (.if_icmp .le 7, 3) := by decide +kernel
theorem dX8_beforeBuying_24 : decode cX8_beforeBuying 24 = .ok (.lconst 0, 1) := by decide +kernel
theorem dX8_beforeBuying_25 : decode cX8_beforeBuying 25 = .ok (.goto 7, 3) := by decide +kernel
theorem dX8_beforeBuying_28 : decode cX8_beforeBuying 28 = .ok (.lload_n 2, 1) := by decide +kernel
theorem dX8_beforeBuying_29 : decode cX8_beforeBuying 29 = .ok (.iload 4, 2) := by decide +kernel
theorem dX8_beforeBuying_31 : decode cX8_beforeBuying 31 = .ok (.lshr, 1) := by decide +kernel
theorem dX8_beforeBuying_32 : decode cX8_beforeBuying 32 = .ok (.lreturn, 1) := by decide +kernel
theorem dX9_init_0 : decode cX9_init 0 = .ok (.aload_n 0, 1) := by decide +kernel
theorem dX9_init_1 : decode cX9_init 1 = .ok (.invokespecial 3, 3) := by decide +kernel
theorem dX9_init_4 : decode cX9_init 4 = .ok (.aload_n 0, 1) := by decide +kernel
theorem dX9_init_5 : decode cX9_init 5 = .ok (.bipush 81, 2) := by decide +kernel
theorem dX9_init_7 : decode cX9_init 7 = .ok (.newarray .int, 2) := by decide +kernel
theorem dX9_init_9 : decode cX9_init 9 = .ok (.putfield 9, 3) := by decide +kernel
theorem dX9_init_12 : decode cX9_init 12 = .ok (.aload_n 0, 1) := by decide +kernel
theorem dX9_init_13 : decode cX9_init 13 = .ok (.bipush 81, 2) := by decide +kernel
theorem dX9_init_15 : decode cX9_init 15 = .ok (.newarray .int, 2) := by decide +kernel
theorem dX9_init_17 : decode cX9_init 17 = .ok (.putfield 15, 3) := by decide +kernel
theorem dX9_init_20 : decode cX9_init 20 = .ok (.aload_n 0, 1) := by decide +kernel
theorem dX9_init_21 : decode cX9_init 21 = .ok (.bipush 9, 2) := by decide +kernel
theorem dX9_init_23 : decode cX9_init 23 = .ok (.newarray .int, 2) := by decide +kernel
theorem dX9_init_25 : decode cX9_init 25 = .ok (.putfield 18, 3) := by decide +kernel
theorem dX9_init_28 : decode cX9_init 28 = .ok (.aload_n 0, 1) := by decide +kernel
theorem dX9_init_29 : decode cX9_init 29 = .ok (.bipush 9, 2) := by decide +kernel
theorem dX9_init_31 : decode cX9_init 31 = .ok (.newarray .int, 2) := by decide +kernel
theorem dX9_init_33 : decode cX9_init 33 = .ok (.putfield 21, 3) := by decide +kernel
theorem dX9_init_36 : decode cX9_init 36 = .ok (.aload_n 0, 1) := by decide +kernel
theorem dX9_init_37 : decode cX9_init 37 = .ok (.bipush 9, 2) := by decide +kernel
theorem dX9_init_39 : decode cX9_init 39 = .ok (.newarray .int, 2) := by decide +kernel
theorem dX9_init_41 : decode cX9_init 41 = .ok (.putfield 24, 3) := by decide +kernel
theorem dX9_init_44 : decode cX9_init 44 = .ok (.aload_n 0, 1) := by decide +kernel
theorem dX9_init_45 : decode cX9_init 45 = .ok (.bipush 9, 2) := by decide +kernel
theorem dX9_init_47 : decode cX9_init 47 = .ok (.newarray .int, 2) := by decide +kernel
theorem dX9_init_49 : decode cX9_init 49 = .ok (.putfield 27, 3) := by decide +kernel
theorem dX9_init_52 : decode cX9_init 52 = .ok (.aload_n 0, 1) := by decide +kernel
theorem dX9_init_53 : decode cX9_init 53 = .ok (.bipush 9, 2) := by decide +kernel
theorem dX9_init_55 : decode cX9_init 55 = .ok (.newarray .int, 2) := by decide +kernel
theorem dX9_init_57 : decode cX9_init 57 = .ok (.putfield 30, 3) := by decide +kernel
theorem dX9_init_60 : decode cX9_init 60 = .ok (.aload_n 0, 1) := by decide +kernel
theorem dX9_init_61 : decode cX9_init 61 = .ok (.iconst 5, 1) := by decide +kernel
theorem dX9_init_62 : decode cX9_init 62 = .ok (.newarray .int, 2) := by decide +kernel
theorem dX9_init_64 : decode cX9_init 64 = .ok (.putfield 33, 3) := by decide +kernel
theorem dX9_init_67 : decode cX9_init 67 = .ok (.aload_n 0, 1) := by decide +kernel
theorem dX9_init_68 : decode cX9_init 68 = .ok (.iconst 5, 1) := by decide +kernel
theorem dX9_init_69 : decode cX9_init 69 = .ok (.newarray .int, 2) := by decide +kernel
theorem dX9_init_71 : decode cX9_init 71 = .ok (.putfield 36, 3) := by decide +kernel
theorem dX9_init_74 : decode cX9_init 74 = .ok (.return_, 1) := by decide +kernel
theorem dX9_clear_0 : decode cX9_clear 0 = .ok (.aload_n 0, 1) := by decide +kernel
theorem dX9_clear_1 : decode cX9_clear 1 = .ok (.iconst 0, 1) := by decide +kernel
theorem dX9_clear_2 : decode cX9_clear 2 = .ok (.putfield 39, 3) := by decide +kernel
theorem dX9_clear_5 : decode cX9_clear 5 = .ok (.aload_n 0, 1) := by decide +kernel
theorem dX9_clear_6 : decode cX9_clear 6 = .ok (.iconst 0, 1) := by decide +kernel
theorem dX9_clear_7 : decode cX9_clear 7 = .ok (.putfield 43, 3) := by decide +kernel
theorem dX9_clear_10 : decode cX9_clear 10 = .ok (.aload_n 0, 1) := by decide +kernel
theorem dX9_clear_11 : decode cX9_clear 11 = .ok (.iconst 0, 1) := by decide +kernel
theorem dX9_clear_12 : decode cX9_clear 12 = .ok (.putfield 46, 3) := by decide +kernel
theorem dX9_clear_15 : decode cX9_clear 15 = .ok (.aload_n 0, 1) := by decide +kernel
theorem dX9_clear_16 : decode cX9_clear 16 = .ok (.iconst 0, 1) := by decide +kernel
theorem dX9_clear_17 : decode cX9_clear 17 = .ok (.putfield 49, 3) := by decide +kernel
theorem dX9_clear_20 : decode cX9_clear 20 = .ok (.aload_n 0, 1) := by decide +kernel
theorem dX9_clear_21 : decode cX9_clear 21 = .ok (.iconst 0, 1) := by decide +kernel
theorem dX9_clear_22 : decode cX9_clear 22 = .ok (.putfield 52, 3) := by decide +kernel
theorem dX9_clear_25 : decode cX9_clear 25 = .ok (.aload_n 0, 1) := by decide +kernel
theorem dX9_clear_26 : decode cX9_clear 26 = .ok (.iconst 0, 1) := by decide +kernel
theorem dX9_clear_27 : decode cX9_clear 27 = .ok (.putfield 55, 3) := by decide +kernel
theorem dX9_clear_30 : decode cX9_clear 30 = .ok (.aload_n 0, 1) := by decide +kernel
theorem dX9_clear_31 : decode cX9_clear 31 = .ok (.iconst 0, 1) := by decide +kernel
theorem dX9_clear_32 : decode cX9_clear 32 = .ok (.putfield 58, 3) := by decide +kernel
theorem dX9_clear_35 : decode cX9_clear 35 = .ok (.aload_n 0, 1) := by decide +kernel
theorem dX9_clear_36 : decode cX9_clear 36 = .ok (.iconst 0, 1) := by decide +kernel
theorem dX9_clear_37 : decode cX9_clear 37 = .ok (.putfield 61, 3) := by decide +kernel
theorem dX9_clear_40 : decode cX9_clear 40 = .ok (.aload_n 0, 1) := by decide +kernel
theorem dX9_clear_41 : decode cX9_clear 41 = .ok (.iconst 0, 1) := by decide +kernel
theorem dX9_clear_42 : decode cX9_clear 42 = .ok (.putfield 64, 3) := by decide +kernel
theorem dX9_clear_45 : decode cX9_clear 45 = .ok (.aload_n 0, 1) := by decide +kernel
theorem dX9_clear_46 : decode cX9_clear 46 = .ok (.iconst 0, 1) := by decide +kernel
theorem dX9_clear_47 : decode cX9_clear 47 = .ok (.putfield 67, 3) := by decide +kernel
theorem dX9_clear_50 : decode cX9_clear 50 = .ok (.aload_n 0, 1) := by decide +kernel
theorem dX9_clear_51 : decode cX9_clear 51 = .ok (.getfield 9, 3) := by decide +kernel
theorem dX9_clear_54 : decode cX9_clear 54 = .ok (.iconst 0, 1) := by decide +kernel
theorem dX9_clear_55 : decode cX9_clear 55 = .ok (.invokestatic 70, 3) := by decide +kernel
theorem dX9_clear_58 : decode cX9_clear 58 = .ok (.aload_n 0, 1) := by decide +kernel
theorem dX9_clear_59 : decode cX9_clear 59 = .ok (.getfield 15, 3) := by decide +kernel
theorem dX9_clear_62 : decode cX9_clear 62 = .ok (.iconst 0, 1) := by decide +kernel
theorem dX9_clear_63 : decode cX9_clear 63 = .ok (.invokestatic 70, 3) := by decide +kernel
theorem dX9_clear_66 : decode cX9_clear 66 = .ok (.aload_n 0, 1) := by decide +kernel
theorem dX9_clear_67 : decode cX9_clear 67 = .ok (.getfield 18, 3) := by decide +kernel
theorem dX9_clear_70 : decode cX9_clear 70 = .ok (.iconst 0, 1) := by decide +kernel
theorem dX9_clear_71 : decode cX9_clear 71 = .ok (.invokestatic 70, 3) := by decide +kernel
theorem dX9_clear_74 : decode cX9_clear 74 = .ok (.aload_n 0, 1) := by decide +kernel
theorem dX9_clear_75 : decode cX9_clear 75 = .ok (.getfield 21, 3) := by decide +kernel
theorem dX9_clear_78 : decode cX9_clear 78 = .ok (.iconst 0, 1) := by decide +kernel
theorem dX9_clear_79 : decode cX9_clear 79 = .ok (.invokestatic 70, 3) := by decide +kernel
theorem dX9_clear_82 : decode cX9_clear 82 = .ok (.aload_n 0, 1) := by decide +kernel
theorem dX9_clear_83 : decode cX9_clear 83 = .ok (.getfield 24, 3) := by decide +kernel
theorem dX9_clear_86 : decode cX9_clear 86 = .ok (.iconst 0, 1) := by decide +kernel
theorem dX9_clear_87 : decode cX9_clear 87 = .ok (.invokestatic 70, 3) := by decide +kernel
theorem dX9_clear_90 : decode cX9_clear 90 = .ok (.return_, 1) := by decide +kernel
theorem dX9_addRoad_0 : decode cX9_addRoad 0 = .ok (.aload_n 0, 1) := by decide +kernel
theorem dX9_addRoad_1 : decode cX9_addRoad 1 = .ok (.getfield 9, 3) := by decide +kernel
theorem dX9_addRoad_4 : decode cX9_addRoad 4 = .ok (.iload_n 1, 1) := by decide +kernel
theorem dX9_addRoad_5 : decode cX9_addRoad 5 = .ok (.bipush 9, 2) := by decide +kernel
theorem dX9_addRoad_7 : decode cX9_addRoad 7 = .ok (.imul, 1) := by decide +kernel
theorem dX9_addRoad_8 : decode cX9_addRoad 8 = .ok (.iload_n 2, 1) := by decide +kernel
theorem dX9_addRoad_9 : decode cX9_addRoad 9 = .ok (.iadd, 1) := by decide +kernel
theorem dX9_addRoad_10 : decode cX9_addRoad 10 = .ok (.iload_n 3, 1) := by decide +kernel
theorem dX9_addRoad_11 : decode cX9_addRoad 11 = .ok (.iastore, 1) := by decide +kernel
theorem dX9_addRoad_12 : decode cX9_addRoad 12 = .ok (.aload_n 0, 1) := by decide +kernel
theorem dX9_addRoad_13 : decode cX9_addRoad 13 = .ok (.getfield 9, 3) := by decide +kernel
theorem dX9_addRoad_16 : decode cX9_addRoad 16 = .ok (.iload_n 2, 1) := by decide +kernel
theorem dX9_addRoad_17 : decode cX9_addRoad 17 = .ok (.bipush 9, 2) := by decide +kernel
theorem dX9_addRoad_19 : decode cX9_addRoad 19 = .ok (.imul, 1) := by decide +kernel
theorem dX9_addRoad_20 : decode cX9_addRoad 20 = .ok (.iload_n 1, 1) := by decide +kernel
theorem dX9_addRoad_21 : decode cX9_addRoad 21 = .ok (.iadd, 1) := by decide +kernel
theorem dX9_addRoad_22 : decode cX9_addRoad 22 = .ok (.iload_n 3, 1) := by decide +kernel
theorem dX9_addRoad_23 : decode cX9_addRoad 23 = .ok (.iastore, 1) := by decide +kernel
theorem dX9_addRoad_24 : decode cX9_addRoad 24 = .ok (.aload_n 0, 1) := by decide +kernel
theorem dX9_addRoad_25 : decode cX9_addRoad 25 = .ok (.getfield 15, 3) := by decide +kernel
theorem dX9_addRoad_28 : decode cX9_addRoad 28 = .ok (.iload_n 1, 1) := by decide +kernel
theorem dX9_addRoad_29 : decode cX9_addRoad 29 = .ok (.bipush 9, 2) := by decide +kernel
theorem dX9_addRoad_31 : decode cX9_addRoad 31 = .ok (.imul, 1) := by decide +kernel
theorem dX9_addRoad_32 : decode cX9_addRoad 32 = .ok (.iload_n 2, 1) := by decide +kernel
theorem dX9_addRoad_33 : decode cX9_addRoad 33 = .ok (.iadd, 1) := by decide +kernel
theorem dX9_addRoad_34 : decode cX9_addRoad 34 = .ok (.iload 4, 2) := by decide +kernel
theorem dX9_addRoad_36 : decode cX9_addRoad 36 = .ok (.iastore, 1) := by decide +kernel
theorem dX9_addRoad_37 : decode cX9_addRoad 37 = .ok (.aload_n 0, 1) := by decide +kernel
theorem dX9_addRoad_38 : decode cX9_addRoad 38 = .ok (.getfield 15, 3) := by decide +kernel
theorem dX9_addRoad_41 : decode cX9_addRoad 41 = .ok (.iload_n 2, 1) := by decide +kernel
theorem dX9_addRoad_42 : decode cX9_addRoad 42 = .ok (.bipush 9, 2) := by decide +kernel
theorem dX9_addRoad_44 : decode cX9_addRoad 44 = .ok (.imul, 1) := by decide +kernel
theorem dX9_addRoad_45 : decode cX9_addRoad 45 = .ok (.iload_n 1, 1) := by decide +kernel
theorem dX9_addRoad_46 : decode cX9_addRoad 46 = .ok (.iadd, 1) := by decide +kernel
theorem dX9_addRoad_47 : decode cX9_addRoad 47 = .ok (.iload 4, 2) := by decide +kernel
theorem dX9_addRoad_49 : decode cX9_addRoad 49 = .ok (.iastore, 1) := by decide +kernel
theorem dX9_addRoad_50 : decode cX9_addRoad 50 = .ok (.aload_n 0, 1) := by decide +kernel
theorem dX9_addRoad_51 : decode cX9_addRoad 51 = .ok (.dup, 1) := by decide +kernel
theorem dX9_addRoad_52 : decode cX9_addRoad 52 = .ok (.getfield 58, 3) := by decide +kernel
theorem dX9_addRoad_55 : decode cX9_addRoad 55 = .ok (.iconst 1, 1) := by decide +kernel
theorem dX9_addRoad_56 : decode cX9_addRoad 56 = .ok (.iadd, 1) := by decide +kernel
theorem dX9_addRoad_57 : decode cX9_addRoad 57 = .ok (.putfield 58, 3) := by decide +kernel
theorem dX9_addRoad_60 : decode cX9_addRoad 60 = .ok (.return_, 1) := by decide +kernel
theorem dX9_isTold_0 : decode cX9_isTold 0 = .ok (.aload_n 0, 1) := by decide +kernel
theorem dX9_isTold_1 : decode cX9_isTold 1 = .ok (.getfield 64, 3) := by decide +kernel
theorem dX9_isTold_4 : decode cX9_isTold 4 = .ok (.ifCond .le 7, 3) := by decide +kernel
theorem dX9_isTold_7 : decode cX9_isTold 7 = .ok (.iconst 1, 1) := by decide +kernel
theorem dX9_isTold_8 : decode cX9_isTold 8 = .ok (.goto 4, 3) := by decide +kernel
theorem dX9_isTold_11 : decode cX9_isTold 11 = .ok (.iconst 0, 1) := by decide +kernel
theorem dX9_isTold_12 : decode cX9_isTold 12 = .ok (.ireturn, 1) := by decide +kernel
theorem dX9_isPlace_0 : decode cX9_isPlace 0 = .ok (.iload_n 1, 1) := by decide +kernel
theorem dX9_isPlace_1 : decode cX9_isPlace 1 = .ok (.ifCond .lt 15, 3) := by decide +kernel
theorem dX9_isPlace_4 : decode cX9_isPlace 4 = .ok (.iload_n 1, 1) := by decide +kernel
theorem dX9_isPlace_5 : decode cX9_isPlace 5 = .ok (.aload_n 0, 1) := by decide +kernel
theorem dX9_isPlace_6 : decode cX9_isPlace 6 = .ok (.getfield 55, 3) := by decide +kernel
theorem dX9_isPlace_9 : decode cX9_isPlace 9 = .ok (.if_icmp .ge 7, 3) := by decide +kernel
theorem dX9_isPlace_12 : decode cX9_isPlace 12 = .ok (.iconst 1, 1) := by decide +kernel
theorem dX9_isPlace_13 : decode cX9_isPlace 13 = .ok (.goto 4, 3) := by decide +kernel
theorem dX9_isPlace_16 : decode cX9_isPlace 16 = .ok (.iconst 0, 1) := by decide +kernel
theorem dX9_isPlace_17 : decode cX9_isPlace 17 = .ok (.ireturn, 1) := by decide +kernel
theorem dX9_isStation_0 : decode cX9_isStation 0 = .ok (.iload_n 1, 1) := by decide +kernel
theorem dX9_isStation_1 : decode cX9_isStation 1 = .ok (.ifCond .lt 15, 3) := by decide +kernel
theorem dX9_isStation_4 : decode cX9_isStation 4 = .ok (.iload_n 1, 1) := by decide +kernel
theorem dX9_isStation_5 : decode cX9_isStation 5 = .ok (.aload_n 0, 1) := by decide +kernel
theorem dX9_isStation_6 : decode cX9_isStation 6 = .ok (.getfield 64, 3) := by decide +kernel
theorem dX9_isStation_9 : decode cX9_isStation 9 = .ok (.if_icmp .ge 7, 3) := by decide +kernel
theorem dX9_isStation_12 : decode cX9_isStation 12 = .ok (.iconst 1, 1) := by decide +kernel
theorem dX9_isStation_13 : decode cX9_isStation 13 = .ok (.goto 4, 3) := by decide +kernel
theorem dX9_isStation_16 : decode cX9_isStation 16 = .ok (.iconst 0, 1) := by decide +kernel
theorem dX9_isStation_17 : decode cX9_isStation 17 = .ok (.ireturn, 1) := by decide +kernel
theorem dX9_isLeft_0 : decode cX9_isLeft 0 = .ok (.iload_n 1, 1) := by decide +kernel
theorem dX9_isLeft_1 : decode cX9_isLeft 1 = .ok (.ifCond .lt 17, 3) := by decide +kernel
theorem dX9_isLeft_4 : decode cX9_isLeft 4 = .ok (.iload_n 1, 1) := by decide +kernel
theorem dX9_isLeft_5 : decode cX9_isLeft 5 = .ok (.aload_n 0, 1) := by decide +kernel
theorem dX9_isLeft_6 : decode cX9_isLeft 6 = .ok (.getfield 64, 3) := by decide +kernel
theorem dX9_isLeft_9 : decode cX9_isLeft 9 = .ok (.iconst 1, 1) := by decide +kernel
theorem dX9_isLeft_10 : decode cX9_isLeft 10 = .ok (.isub, 1) := by decide +kernel
theorem dX9_isLeft_11 : decode cX9_isLeft 11 = .ok (.if_icmp .ge 7, 3) := by decide +kernel
theorem dX9_isLeft_14 : decode cX9_isLeft 14 = .ok (.iconst 1, 1) := by decide +kernel
theorem dX9_isLeft_15 : decode cX9_isLeft 15 = .ok (.goto 4, 3) := by decide +kernel
theorem dX9_isLeft_18 : decode cX9_isLeft 18 = .ok (.iconst 0, 1) := by decide +kernel
theorem dX9_isLeft_19 : decode cX9_isLeft 19 = .ok (.ireturn, 1) := by decide +kernel
theorem dX9_isLevel_0 : decode cX9_isLevel 0 = .ok (.iload_n 1, 1) := by decide +kernel
theorem dX9_isLevel_1 : decode cX9_isLevel 1 = .ok (.ifCond .lt 15, 3) := by decide +kernel
theorem dX9_isLevel_4 : decode cX9_isLevel 4 = .ok (.iload_n 1, 1) := by decide +kernel
theorem dX9_isLevel_5 : decode cX9_isLevel 5 = .ok (.aload_n 0, 1) := by decide +kernel
theorem dX9_isLevel_6 : decode cX9_isLevel 6 = .ok (.getfield 39, 3) := by decide +kernel
theorem dX9_isLevel_9 : decode cX9_isLevel 9 = .ok (.if_icmp .gt 7, 3) := by decide +kernel
theorem dX9_isLevel_12 : decode cX9_isLevel 12 = .ok (.iconst 1, 1) := by decide +kernel
theorem dX9_isLevel_13 : decode cX9_isLevel 13 = .ok (.goto 4, 3) := by decide +kernel
theorem dX9_isLevel_16 : decode cX9_isLevel 16 = .ok (.iconst 0, 1) := by decide +kernel
theorem dX9_isLevel_17 : decode cX9_isLevel 17 = .ok (.ireturn, 1) := by decide +kernel
theorem dX9_isRoad_0 : decode cX9_isRoad 0 = .ok (.aload_n 0, 1) := by decide +kernel
theorem dX9_isRoad_1 : decode cX9_isRoad 1 = .ok (.iload_n 1, 1) := by decide +kernel
theorem dX9_isRoad_2 : decode cX9_isRoad 2 = .ok (.iload_n 2, 1) := by decide +kernel
theorem dX9_isRoad_3 : decode cX9_isRoad 3 = .ok (.invokevirtual 76, 3) := by decide +kernel
theorem dX9_isRoad_6 : decode cX9_isRoad 6 = .ok (.ifCond .le 7, 3) := by decide +kernel
theorem dX9_isRoad_9 : decode cX9_isRoad 9 = .ok (.iconst 1, 1) := by decide +kernel
theorem dX9_isRoad_10 : decode cX9_isRoad 10 = .ok (.goto 4, 3) := by decide +kernel
theorem dX9_isRoad_13 : decode cX9_isRoad 13 = .ok (.iconst 0, 1) := by decide +kernel
theorem dX9_isRoad_14 : decode cX9_isRoad 14 = .ok (.ireturn, 1) := by decide +kernel
theorem dX9_pintsOf_0 : decode cX9_pintsOf 0 = .ok (.aload_n 0, 1) := by decide +kernel
theorem dX9_pintsOf_1 : decode cX9_pintsOf 1 = .ok (.getfield 9, 3) := by decide +kernel
theorem dX9_pintsOf_4 : decode cX9_pintsOf 4 = .ok (.iload_n 1, 1) := by decide +kernel
theorem dX9_pintsOf_5 : decode cX9_pintsOf 5 = .ok (.bipush 9, 2) := by decide +kernel
theorem dX9_pintsOf_7 : decode cX9_pintsOf 7 = .ok (.imul, 1) := by decide +kernel
theorem dX9_pintsOf_8 : decode cX9_pintsOf 8 = .ok (.iload_n 2, 1) := by decide +kernel
theorem dX9_pintsOf_9 : decode cX9_pintsOf 9 = .ok (.iadd, 1) := by decide +kernel
theorem dX9_pintsOf_10 : decode cX9_pintsOf 10 = .ok (.iaload, 1) := by decide +kernel
theorem dX9_pintsOf_11 : decode cX9_pintsOf 11 = .ok (.ireturn, 1) := by decide +kernel
theorem dX9_minutesOf_0 : decode cX9_minutesOf 0 = .ok (.aload_n 0, 1) := by decide +kernel
theorem dX9_minutesOf_1 : decode cX9_minutesOf 1 = .ok (.getfield 15, 3) := by decide +kernel
theorem dX9_minutesOf_4 : decode cX9_minutesOf 4 = .ok (.iload_n 1, 1) := by decide +kernel
theorem dX9_minutesOf_5 : decode cX9_minutesOf 5 = .ok (.bipush 9, 2) := by decide +kernel
theorem dX9_minutesOf_7 : decode cX9_minutesOf 7 = .ok (.imul, 1) := by decide +kernel
theorem dX9_minutesOf_8 : decode cX9_minutesOf 8 = .ok (.iload_n 2, 1) := by decide +kernel
theorem dX9_minutesOf_9 : decode cX9_minutesOf 9 = .ok (.iadd, 1) := by decide +kernel
theorem dX9_minutesOf_10 : decode cX9_minutesOf 10 = .ok (.iaload, 1) := by decide +kernel
theorem dX9_minutesOf_11 : decode cX9_minutesOf 11 = .ok (.ireturn, 1) := by decide +kernel
theorem dX9_start_0 : decode cX9_start 0 = .ok (.aload_n 0, 1) := by decide +kernel
theorem dX9_start_1 : decode cX9_start 1 = .ok (.getfield 27, 3) := by decide +kernel
theorem dX9_start_4 : decode cX9_start 4 = .ok (.iconst 0, 1) := by decide +kernel
theorem dX9_start_5 : decode cX9_start 5 = .ok (.iaload, 1) := by decide +kernel
theorem dX9_start_6 : decode cX9_start 6 = .ok (.ireturn, 1) := by decide +kernel
theorem dX9_goal_0 : decode cX9_goal 0 = .ok (.aload_n 0, 1) := by decide +kernel
theorem dX9_goal_1 : decode cX9_goal 1 = .ok (.getfield 64, 3) := by decide +kernel
theorem dX9_goal_4 : decode cX9_goal 4 = .ok (.ifCond .le 17, 3) := by decide +kernel
theorem dX9_goal_7 : decode cX9_goal 7 = .ok (.aload_n 0, 1) := by decide +kernel
theorem dX9_goal_8 : decode cX9_goal 8 = .ok (.getfield 27, 3) := by decide +kernel
theorem dX9_goal_11 : decode cX9_goal 11 = .ok (.aload_n 0, 1) := by decide +kernel
theorem dX9_goal_12 : decode cX9_goal 12 = .ok (.getfield 64, 3) := by decide +kernel
theorem dX9_goal_15 : decode cX9_goal 15 = .ok (.iconst 1, 1) := by decide +kernel
theorem dX9_goal_16 : decode cX9_goal 16 = .ok (.isub, 1) := by decide +kernel
theorem dX9_goal_17 : decode cX9_goal 17 = .ok (.iaload, 1) := by decide +kernel
theorem dX9_goal_18 : decode cX9_goal 18 = .ok (.goto 9, 3) := by decide +kernel
theorem dX9_goal_21 : decode cX9_goal 21 = .ok (.aload_n 0, 1) := by decide +kernel
theorem dX9_goal_22 : decode cX9_goal 22 = .ok (.getfield 27, 3) := by decide +kernel
theorem dX9_goal_25 : decode cX9_goal 25 = .ok (.iconst 0, 1) := by decide +kernel
theorem dX9_goal_26 : decode cX9_goal 26 = .ok (.iaload, 1) := by decide +kernel
theorem dX9_goal_27 : decode cX9_goal 27 = .ok (.ireturn, 1) := by decide +kernel
theorem dX9_legPints_0 : decode cX9_legPints 0 = .ok (.aload_n 0, 1) := by decide +kernel
theorem dX9_legPints_1 : decode cX9_legPints 1 = .ok (.getfield 30, 3) := by decide +kernel
theorem dX9_legPints_4 : decode cX9_legPints 4 = .ok (.iload_n 1, 1) := by decide +kernel
theorem dX9_legPints_5 : decode cX9_legPints 5 = .ok (.iconst 1, 1) := by decide +kernel
theorem dX9_legPints_6 : decode cX9_legPints 6 = .ok (.iadd, 1) := by decide +kernel
theorem dX9_legPints_7 : decode cX9_legPints 7 = .ok (.iaload, 1) := by decide +kernel
theorem dX9_legPints_8 : decode cX9_legPints 8 = .ok (.aload_n 0, 1) := by decide +kernel
theorem dX9_legPints_9 : decode cX9_legPints 9 = .ok (.getfield 30, 3) := by decide +kernel
theorem dX9_legPints_12 : decode cX9_legPints 12 = .ok (.iload_n 1, 1) := by decide +kernel
theorem dX9_legPints_13 : decode cX9_legPints 13 = .ok (.iaload, 1) := by decide +kernel
theorem dX9_legPints_14 : decode cX9_legPints 14 = .ok (.isub, 1) := by decide +kernel
theorem dX9_legPints_15 : decode cX9_legPints 15 = .ok (.ireturn, 1) := by decide +kernel
theorem dX9_legMinutes_0 : decode cX9_legMinutes 0 = .ok (.aload_n 0, 1) := by decide +kernel
theorem dX9_legMinutes_1 : decode cX9_legMinutes 1 = .ok (.aload_n 0, 1) := by decide +kernel
theorem dX9_legMinutes_2 : decode cX9_legMinutes 2 = .ok (.getfield 27, 3) := by decide +kernel
theorem dX9_legMinutes_5 : decode cX9_legMinutes 5 = .ok (.iload_n 1, 1) := by decide +kernel
theorem dX9_legMinutes_6 : decode cX9_legMinutes 6 = .ok (.iaload, 1) := by decide +kernel
theorem dX9_legMinutes_7 : decode cX9_legMinutes 7 = .ok (.aload_n 0, 1) := by decide +kernel
theorem dX9_legMinutes_8 : decode cX9_legMinutes 8 = .ok (.getfield 27, 3) := by decide +kernel
theorem dX9_legMinutes_11 : decode cX9_legMinutes 11 = .ok (.iload_n 1, 1) := by decide +kernel
theorem dX9_legMinutes_12 : decode cX9_legMinutes 12 = .ok (.iconst 1, 1) := by decide +kernel
theorem dX9_legMinutes_13 : decode cX9_legMinutes 13 = .ok (.iadd, 1) := by decide +kernel
theorem dX9_legMinutes_14 : decode cX9_legMinutes 14 = .ok (.iaload, 1) := by decide +kernel
theorem dX9_legMinutes_15 : decode cX9_legMinutes 15 = .ok (.invokevirtual 80, 3) := by decide +kernel
theorem dX9_legMinutes_18 : decode cX9_legMinutes 18 = .ok (.ireturn, 1) := by decide +kernel
theorem dX9_legsPints_0 : decode cX9_legsPints 0 = .ok (.aload_n 0, 1) := by decide +kernel
theorem dX9_legsPints_1 : decode cX9_legsPints 1 = .ok (.getfield 30, 3) := by decide +kernel
theorem dX9_legsPints_4 : decode cX9_legsPints 4 = .ok (.iload_n 2, 1) := by decide +kernel
theorem dX9_legsPints_5 : decode cX9_legsPints 5 = .ok (.iaload, 1) := by decide +kernel
theorem dX9_legsPints_6 : decode cX9_legsPints 6 = .ok (.aload_n 0, 1) := by decide +kernel
theorem dX9_legsPints_7 : decode cX9_legsPints 7 = .ok (.getfield 30, 3) := by decide +kernel
theorem dX9_legsPints_10 : decode cX9_legsPints 10 = .ok (.iload_n 1, 1) := by decide +kernel
theorem dX9_legsPints_11 : decode cX9_legsPints 11 = .ok (.iaload, 1) := by decide +kernel
theorem dX9_legsPints_12 : decode cX9_legsPints 12 = .ok (.isub, 1) := by decide +kernel
theorem dX9_legsPints_13 : decode cX9_legsPints 13 = .ok (.ireturn, 1) := by decide +kernel
theorem dX9_lastReached_0 : decode cX9_lastReached 0 = .ok (.iload_n 1, 1) := by decide +kernel
theorem dX9_lastReached_1 : decode cX9_lastReached 1 = .ok (.istore_n 3, 1) := by decide +kernel
theorem dX9_lastReached_2 : decode cX9_lastReached 2 = .ok (.iload_n 1, 1) := by decide +kernel
theorem dX9_lastReached_3 : decode cX9_lastReached 3 = .ok (.istore 4, 2) := by decide +kernel
theorem dX9_lastReached_5 : decode cX9_lastReached 5 = .ok (.iload 4, 2) := by decide +kernel
theorem dX9_lastReached_7 : decode cX9_lastReached 7 = .ok (.aload_n 0, 1) := by decide +kernel
theorem dX9_lastReached_8 : decode cX9_lastReached 8 = .ok (.getfield 64, 3) := by decide +kernel
theorem dX9_lastReached_11 : decode cX9_lastReached 11 = .ok (.if_icmp .ge 30, 3) := by decide +kernel
theorem dX9_lastReached_14 : decode cX9_lastReached 14 = .ok (.aload_n 0, 1) := by decide +kernel
theorem dX9_lastReached_15 : decode cX9_lastReached 15 = .ok (.getfield 30, 3) := by decide +kernel
theorem dX9_lastReached_18 : decode cX9_lastReached 18 = .ok (.iload 4, 2) := by decide +kernel
theorem dX9_lastReached_20 : decode cX9_lastReached 20 = .ok (.iaload, 1) := by decide +kernel
theorem dX9_lastReached_21 : decode cX9_lastReached 21 = .ok (.aload_n 0, 1) := by decide +kernel
theorem dX9_lastReached_22 : decode cX9_lastReached 22 = .ok (.getfield 30, 3) := by decide +kernel
theorem dX9_lastReached_25 : decode cX9_lastReached 25 = .ok (.iload_n 1, 1) := by decide +kernel
theorem dX9_lastReached_26 : decode cX9_lastReached 26 = .ok (.iaload, 1) := by decide +kernel
theorem dX9_lastReached_27 : decode cX9_lastReached 27 = .ok (.isub, 1) := by decide +kernel
theorem dX9_lastReached_28 : decode cX9_lastReached 28 = .ok (.iload_n 2, 1) := by decide +kernel
theorem dX9_lastReached_29 : decode cX9_lastReached 29 = .ok (.if_icmp .gt 6, 3) := by decide +kernel
theorem dX9_lastReached_32 : decode cX9_lastReached 32 = .ok (.iload 4, 2) := by decide +kernel
theorem dX9_lastReached_34 : decode cX9_lastReached 34 = .ok (.istore_n 3, 1) := by decide +kernel
theorem dX9_lastReached_35 : decode cX9_lastReached 35 = .ok (.iinc 4 1, 3) := by decide +kernel
theorem dX9_lastReached_38 : decode cX9_lastReached 38 = .ok (.goto (-33), 3) := by decide +kernel
theorem dX9_lastReached_41 : decode cX9_lastReached 41 = .ok (.iload_n 3, 1) := by decide +kernel
theorem dX9_lastReached_42 : decode cX9_lastReached 42 = .ok (.ireturn, 1) := by decide +kernel
theorem dX9_hasPumpAt_0 : decode cX9_hasPumpAt 0 = .ok (.aload_n 0, 1) := by decide +kernel
theorem dX9_hasPumpAt_1 : decode cX9_hasPumpAt 1 = .ok (.getfield 18, 3) := by decide +kernel
theorem dX9_hasPumpAt_4 : decode cX9_hasPumpAt 4 = .ok (.aload_n 0, 1) := by decide +kernel
theorem dX9_hasPumpAt_5 : decode cX9_hasPumpAt 5 = .ok (.getfield 27, 3) := by decide +kernel
theorem dX9_hasPumpAt_8 : decode cX9_hasPumpAt 8 = .ok (.iload_n 1, 1) := by decide +kernel
theorem dX9_hasPumpAt_9 : decode cX9_hasPumpAt 9 = .ok (.iaload, 1) := by decide +kernel
theorem dX9_hasPumpAt_10 : decode cX9_hasPumpAt 10 = .ok (.iaload, 1) := by decide +kernel
theorem dX9_hasPumpAt_11 : decode cX9_hasPumpAt 11 = .ok (.ifCond .le 7, 3) := by decide +kernel
theorem dX9_hasPumpAt_14 : decode cX9_hasPumpAt 14 = .ok (.iconst 1, 1) := by decide +kernel
theorem dX9_hasPumpAt_15 : decode cX9_hasPumpAt 15 = .ok (.goto 4, 3) := by decide +kernel
theorem dX9_hasPumpAt_18 : decode cX9_hasPumpAt 18 = .ok (.iconst 0, 1) := by decide +kernel
theorem dX9_hasPumpAt_19 : decode cX9_hasPumpAt 19 = .ok (.ireturn, 1) := by decide +kernel
theorem dX9_priceAt_0 : decode cX9_priceAt 0 = .ok (.iload_n 2, 1) := by decide +kernel
theorem dX9_priceAt_1 : decode cX9_priceAt 1 = .ok (.ifCond .eq 17, 3) := by decide +kernel
theorem dX9_priceAt_4 : decode cX9_priceAt 4 = .ok (.aload_n 0, 1) := by decide +kernel
theorem dX9_priceAt_5 : decode cX9_priceAt 5 = .ok (.getfield 21, 3) := by decide +kernel
theorem dX9_priceAt_8 : decode cX9_priceAt 8 = .ok (.aload_n 0, 1) := by decide +kernel
theorem dX9_priceAt_9 : decode cX9_priceAt 9 = .ok (.getfield 27, 3) := by decide +kernel
theorem dX9_priceAt_12 : decode cX9_priceAt 12 = .ok (.iload_n 1, 1) := by decide +kernel
theorem dX9_priceAt_13 : decode cX9_priceAt 13 = .ok (.iaload, 1) := by decide +kernel
theorem dX9_priceAt_14 : decode cX9_priceAt 14 = .ok (.iaload, 1) := by decide +kernel
theorem dX9_priceAt_15 : decode cX9_priceAt 15 = .ok (.goto 14, 3) := by decide +kernel
theorem dX9_priceAt_18 : decode cX9_priceAt 18 = .ok (.aload_n 0, 1) := by decide +kernel
theorem dX9_priceAt_19 : decode cX9_priceAt 19 = .ok (.getfield 18, 3) := by decide +kernel
theorem dX9_priceAt_22 : decode cX9_priceAt 22 = .ok (.aload_n 0, 1) := by decide +kernel
theorem dX9_priceAt_23 : decode cX9_priceAt 23 = .ok (.getfield 27, 3) := by decide +kernel
theorem dX9_priceAt_26 : decode cX9_priceAt 26 = .ok (.iload_n 1, 1) := by decide +kernel
theorem dX9_priceAt_27 : decode cX9_priceAt 27 = .ok (.iaload, 1) := by decide +kernel
theorem dX9_priceAt_28 : decode cX9_priceAt 28 = .ok (.iaload, 1) := by decide +kernel
theorem dX9_priceAt_29 : decode cX9_priceAt 29 = .ok (.ireturn, 1) := by decide +kernel
theorem dX9_sizeOf_0 : decode cX9_sizeOf 0 = .ok (.iload_n 1, 1) := by decide +kernel
theorem dX9_sizeOf_1 : decode cX9_sizeOf 1 = .ok (.tableswitch 105 0 9 #[55, 60, 65, 70, 75, 80, 85, 90, 95, 100], 55) := by decide +kernel
theorem dX9_sizeOf_56 : decode cX9_sizeOf 56 = .ok (.aload_n 0, 1) := by decide +kernel
theorem dX9_sizeOf_57 : decode cX9_sizeOf 57 = .ok (.getfield 39, 3) := by decide +kernel
theorem dX9_sizeOf_60 : decode cX9_sizeOf 60 = .ok (.ireturn, 1) := by decide +kernel
theorem dX9_sizeOf_61 : decode cX9_sizeOf 61 = .ok (.aload_n 0, 1) := by decide +kernel
theorem dX9_sizeOf_62 : decode cX9_sizeOf 62 = .ok (.getfield 43, 3) := by decide +kernel
theorem dX9_sizeOf_65 : decode cX9_sizeOf 65 = .ok (.ireturn, 1) := by decide +kernel
theorem dX9_sizeOf_66 : decode cX9_sizeOf 66 = .ok (.aload_n 0, 1) := by decide +kernel
theorem dX9_sizeOf_67 : decode cX9_sizeOf 67 = .ok (.getfield 46, 3) := by decide +kernel
theorem dX9_sizeOf_70 : decode cX9_sizeOf 70 = .ok (.ireturn, 1) := by decide +kernel
theorem dX9_sizeOf_71 : decode cX9_sizeOf 71 = .ok (.aload_n 0, 1) := by decide +kernel
theorem dX9_sizeOf_72 : decode cX9_sizeOf 72 = .ok (.getfield 49, 3) := by decide +kernel
theorem dX9_sizeOf_75 : decode cX9_sizeOf 75 = .ok (.ireturn, 1) := by decide +kernel
theorem dX9_sizeOf_76 : decode cX9_sizeOf 76 = .ok (.aload_n 0, 1) := by decide +kernel
theorem dX9_sizeOf_77 : decode cX9_sizeOf 77 = .ok (.getfield 52, 3) := by decide +kernel
theorem dX9_sizeOf_80 : decode cX9_sizeOf 80 = .ok (.ireturn, 1) := by decide +kernel
theorem dX9_sizeOf_81 : decode cX9_sizeOf 81 = .ok (.aload_n 0, 1) := by decide +kernel
theorem dX9_sizeOf_82 : decode cX9_sizeOf 82 = .ok (.getfield 55, 3) := by decide +kernel
theorem dX9_sizeOf_85 : decode cX9_sizeOf 85 = .ok (.ireturn, 1) := by decide +kernel
theorem dX9_sizeOf_86 : decode cX9_sizeOf 86 = .ok (.aload_n 0, 1) := by decide +kernel
theorem dX9_sizeOf_87 : decode cX9_sizeOf 87 = .ok (.getfield 58, 3) := by decide +kernel
theorem dX9_sizeOf_90 : decode cX9_sizeOf 90 = .ok (.ireturn, 1) := by decide +kernel
theorem dX9_sizeOf_91 : decode cX9_sizeOf 91 = .ok (.aload_n 0, 1) := by decide +kernel
theorem dX9_sizeOf_92 : decode cX9_sizeOf 92 = .ok (.getfield 61, 3) := by decide +kernel
theorem dX9_sizeOf_95 : decode cX9_sizeOf 95 = .ok (.ireturn, 1) := by decide +kernel
theorem dX9_sizeOf_96 : decode cX9_sizeOf 96 = .ok (.aload_n 0, 1) := by decide +kernel
theorem dX9_sizeOf_97 : decode cX9_sizeOf 97 = .ok (.getfield 64, 3) := by decide +kernel
theorem dX9_sizeOf_100 : decode cX9_sizeOf 100 = .ok (.ireturn, 1) := by decide +kernel
theorem dX9_sizeOf_101 : decode cX9_sizeOf 101 = .ok (.aload_n 0, 1) := by decide +kernel
theorem dX9_sizeOf_102 : decode cX9_sizeOf 102 = .ok (.getfield 67, 3) := by decide +kernel
theorem dX9_sizeOf_105 : decode cX9_sizeOf 105 = .ok (.ireturn, 1) := by decide +kernel
theorem dX9_sizeOf_106 : decode cX9_sizeOf 106 = .ok (.iconst (-1), 1) := by decide +kernel
theorem dX9_sizeOf_107 : decode cX9_sizeOf 107 = .ok (.ireturn, 1) := by decide +kernel
