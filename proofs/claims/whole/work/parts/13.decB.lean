theorem dX10_init_0 : decode cX10_init 0 = .ok (.aload_n 0, 1) := by decide +kernel
theorem dX10_init_1 : decode cX10_init 1 = .ok (.invokespecial 3, 3) := by decide +kernel
theorem dX10_init_4 : decode cX10_init 4 = .ok (.aload_n 0, 1) := by decide +kernel
theorem dX10_init_5 : decode cX10_init 5 = .ok (.sipush 800, 3) := by decide +kernel
theorem dX10_init_8 : decode cX10_init 8 = .ok (.newarray .byte, 2) := by decide +kernel
theorem dX10_init_10 : decode cX10_init 10 = .ok (.putfield 9, 3) := by decide +kernel
theorem dX10_init_13 : decode cX10_init 13 = .ok (.aload_n 0, 1) := by decide +kernel
theorem dX10_init_14 : decode cX10_init 14 = .ok (.new 13, 3) := by decide +kernel
theorem dX10_init_17 : decode cX10_init 17 = .ok (.dup, 1) := by decide +kernel
theorem dX10_init_18 : decode cX10_init 18 = .ok (.invokespecial 15, 3) := by decide +kernel
theorem dX10_init_21 : decode cX10_init 21 = .ok (.putfield 16, 3) := by decide +kernel
theorem dX10_init_24 : decode cX10_init 24 = .ok (.aload_n 0, 1) := by decide +kernel
theorem dX10_init_25 : decode cX10_init 25 = .ok (.new 13, 3) := by decide +kernel
theorem dX10_init_28 : decode cX10_init 28 = .ok (.dup, 1) := by decide +kernel
theorem dX10_init_29 : decode cX10_init 29 = .ok (.invokespecial 15, 3) := by decide +kernel
theorem dX10_init_32 : decode cX10_init 32 = .ok (.putfield 20, 3) := by decide +kernel
theorem dX10_init_35 : decode cX10_init 35 = .ok (.aload_n 0, 1) := by decide +kernel
theorem dX10_init_36 : decode cX10_init 36 = .ok (.new 23, 3) := by decide +kernel
theorem dX10_init_39 : decode cX10_init 39 = .ok (.dup, 1) := by decide +kernel
theorem dX10_init_40 : decode cX10_init 40 = .ok (.invokespecial 25, 3) := by decide +kernel
theorem dX10_init_43 : decode cX10_init 43 = .ok (.putfield 26, 3) := by decide +kernel
theorem dX10_init_46 : decode cX10_init 46 = .ok (.aload_n 0, 1) := by decide +kernel
theorem dX10_init_47 : decode cX10_init 47 = .ok (.new 30, 3) := by decide +kernel
theorem dX10_init_50 : decode cX10_init 50 = .ok (.dup, 1) := by decide +kernel
theorem dX10_init_51 : decode cX10_init 51 = .ok (.invokespecial 32, 3) := by decide +kernel
theorem dX10_init_54 : decode cX10_init 54 = .ok (.putfield 33, 3) := by decide +kernel
theorem dX10_init_57 : decode cX10_init 57 = .ok (.aload_n 0, 1) := by decide +kernel
theorem dX10_init_58 : decode cX10_init 58 = .ok (.new 37, 3) := by decide +kernel
theorem dX10_init_61 : decode cX10_init 61 = .ok (.dup, 1) := by decide +kernel
theorem dX10_init_62 : decode cX10_init 62 = .ok (.invokespecial 39, 3) := by decide +kernel
theorem dX10_init_65 : decode cX10_init 65 = .ok (.putfield 40, 3) := by decide +kernel
theorem dX10_init_68 : decode cX10_init 68 = .ok (.aload_n 0, 1) := by decide +kernel
theorem dX10_init_69 : decode cX10_init 69 = .ok (.new 44, 3) := by decide +kernel
theorem dX10_init_72 : decode cX10_init 72 = .ok (.dup, 1) := by decide +kernel
theorem dX10_init_73 : decode cX10_init 73 = .ok (.invokespecial 46, 3) := by decide +kernel
theorem dX10_init_76 : decode cX10_init 76 = .ok (.putfield 47, 3) := by decide +kernel
theorem dX10_init_79 : decode cX10_init 79 = .ok (.aload_n 0, 1) := by decide +kernel
theorem dX10_init_80 : decode cX10_init 80 = .ok (.new 51, 3) := by decide +kernel
theorem dX10_init_83 : decode cX10_init 83 = .ok (.dup, 1) := by decide +kernel
theorem dX10_init_84 : decode cX10_init 84 = .ok (.invokespecial 53, 3) := by decide +kernel
theorem dX10_init_87 : decode cX10_init 87 = .ok (.putfield 54, 3) := by decide +kernel
theorem dX10_init_90 : decode cX10_init 90 = .ok (.aload_n 0, 1) := by decide +kernel
theorem dX10_init_91 : decode cX10_init 91 = .ok (.new 58, 3) := by decide +kernel
theorem dX10_init_94 : decode cX10_init 94 = .ok (.dup, 1) := by decide +kernel
theorem dX10_init_95 : decode cX10_init 95 = .ok (.invokespecial 60, 3) := by decide +kernel
theorem dX10_init_98 : decode cX10_init 98 = .ok (.putfield 61, 3) := by decide +kernel
theorem dX10_init_101 : decode cX10_init 101 = .ok (.aload_n 0, 1) := by decide +kernel
theorem dX10_init_102 : decode cX10_init 102 = .ok (.new 65, 3) := by decide +kernel
theorem dX10_init_105 : decode cX10_init 105 = .ok (.dup, 1) := by decide +kernel
theorem dX10_init_106 : decode cX10_init 106 = .ok (.invokespecial 67, 3) := by decide +kernel
theorem dX10_init_109 : decode cX10_init 109 = .ok (.putfield 68, 3) := by decide +kernel
theorem dX10_init_112 : decode cX10_init 112 = .ok (.return_, 1) := by decide +kernel
theorem dX10_feed_0 : decode cX10_feed 0 = .ok (.aload_n 0, 1) := by decide +kernel
theorem dX10_feed_1 : decode cX10_feed 1 = .ok (.getfield 72, 3) := by decide +kernel
theorem dX10_feed_4 : decode cX10_feed 4 = .ok (.bipush 20, 2) := by decide +kernel
theorem dX10_feed_6 : decode cX10_feed 6 = .ok (.iadd, 1) := by decide +kernel
theorem dX10_feed_7 : decode cX10_feed 7 = .ok (.sipush 800, 3) := by decide +kernel
theorem dX10_feed_10 : decode cX10_feed 10 = .ok (.if_icmp .le 5, 3) := by decide +kernel
theorem dX10_feed_13 : decode cX10_feed 13 = .ok (.iconst (-1), 1) := by decide +kernel
theorem dX10_feed_14 : decode cX10_feed 14 = .ok (.ireturn, 1) := by decide +kernel
theorem dX10_feed_15 : decode cX10_feed 15 = .ok (.aload_n 0, 1) := by decide +kernel
theorem dX10_feed_16 : decode cX10_feed 16 = .ok (.iload_n 1, 1) := by decide +kernel
theorem dX10_feed_17 : decode cX10_feed 17 = .ok (.invokevirtual 76, 3) := by decide +kernel
theorem dX10_feed_20 : decode cX10_feed 20 = .ok (.aload_n 0, 1) := by decide +kernel
theorem dX10_feed_21 : decode cX10_feed 21 = .ok (.iload_n 2, 1) := by decide +kernel
theorem dX10_feed_22 : decode cX10_feed 22 = .ok (.invokevirtual 76, 3) := by decide +kernel
theorem dX10_feed_25 : decode cX10_feed 25 = .ok (.aload_n 0, 1) := by decide +kernel
theorem dX10_feed_26 : decode cX10_feed 26 = .ok (.iload_n 3, 1) := by decide +kernel
theorem dX10_feed_27 : decode cX10_feed 27 = .ok (.invokevirtual 76, 3) := by decide +kernel
theorem dX10_feed_30 : decode cX10_feed 30 = .ok (.aload_n 0, 1) := by decide +kernel
theorem dX10_feed_31 : decode cX10_feed 31 = .ok (.iload 4, 2) := by decide +kernel
theorem dX10_feed_33 : decode cX10_feed 33 = .ok (.invokevirtual 76, 3) := by decide +kernel
theorem dX10_feed_36 : decode cX10_feed 36 = .ok (.aload_n 0, 1) := by decide +kernel
theorem dX10_feed_37 : decode cX10_feed 37 = .ok (.iload 5, 2) := by decide +kernel
theorem dX10_feed_39 : decode cX10_feed 39 = .ok (.invokevirtual 76, 3) := by decide +kernel
theorem dX10_feed_42 : decode cX10_feed 42 = .ok (.aload_n 0, 1) := by decide +kernel
theorem dX10_feed_43 : decode cX10_feed 43 = .ok (.getfield 72, 3) := by decide +kernel
theorem dX10_feed_46 : decode cX10_feed 46 = .ok (.ireturn, 1) := by decide +kernel
theorem dX10_road_0 : decode cX10_road 0 = .ok (.iload_n 1, 1) := by decide +kernel
theorem dX10_road_1 : decode cX10_road 1 = .ok (.ifCond .lt 11, 3) := by decide +kernel
theorem dX10_road_4 : decode cX10_road 4 = .ok (.iload_n 1, 1) := by decide +kernel
theorem dX10_road_5 : decode cX10_road 5 = .ok (.aload_n 0, 1) := by decide +kernel
theorem dX10_road_6 : decode cX10_road 6 = .ok (.getfield 72, 3) := by decide +kernel
theorem dX10_road_9 : decode cX10_road 9 = .ok (.if_icmp .le 9, 3) := by decide +kernel
theorem dX10_road_12 : decode cX10_road 12 = .ok (.aload_n 0, 1) := by decide +kernel
theorem dX10_road_13 : decode cX10_road 13 = .ok (.iconst 2, 1) := by decide +kernel
theorem dX10_road_14 : decode cX10_road 14 = .ok (.invokevirtual 80, 3) := by decide +kernel
theorem dX10_road_17 : decode cX10_road 17 = .ok (.ireturn, 1) := by decide +kernel
theorem dX10_road_18 : decode cX10_road 18 = .ok (.aload_n 0, 1) := by decide +kernel
theorem dX10_road_19 : decode cX10_road 19 = .ok (.iconst 0, 1) := by decide +kernel
theorem dX10_road_20 : decode cX10_road 20 = .ok (.putfield 72, 3) := by decide +kernel
theorem dX10_road_23 : decode cX10_road 23 = .ok (.aload_n 0, 1) := by decide +kernel
theorem dX10_road_24 : decode cX10_road 24 = .ok (.getfield 26, 3) := by decide +kernel
theorem dX10_road_27 : decode cX10_road 27 = .ok (.aload_n 0, 1) := by decide +kernel
theorem dX10_road_28 : decode cX10_road 28 = .ok (.getfield 9, 3) := by decide +kernel
theorem dX10_road_31 : decode cX10_road 31 = .ok (.iload_n 1, 1) := by decide +kernel
theorem dX10_road_32 : decode cX10_road 32 = .ok (.aload_n 0, 1) := by decide +kernel
theorem dX10_road_33 : decode cX10_road 33 = .ok (.getfield 20, 3) := by decide +kernel
theorem dX10_road_36 : decode cX10_road 36 = .ok (.invokevirtual 84, 3) := by decide +kernel
theorem dX10_road_39 : decode cX10_road 39 = .ok (.istore_n 2, 1) := by decide +kernel
theorem dX10_road_40 : decode cX10_road 40 = .ok (.aload_n 0, 1) := by decide +kernel
theorem dX10_road_41 : decode cX10_road 41 = .ok (.aload_n 0, 1) := by decide +kernel
theorem dX10_road_42 : decode cX10_road 42 = .ok (.getfield 26, 3) := by decide +kernel
theorem dX10_road_45 : decode cX10_road 45 = .ok (.getfield 88, 3) := by decide +kernel
theorem dX10_road_48 : decode cX10_road 48 = .ok (.putfield 91, 3) := by decide +kernel
theorem dX10_road_51 : decode cX10_road 51 = .ok (.aload_n 0, 1) := by decide +kernel
theorem dX10_road_52 : decode cX10_road 52 = .ok (.aload_n 0, 1) := by decide +kernel
theorem dX10_road_53 : decode cX10_road 53 = .ok (.getfield 26, 3) := by decide +kernel
theorem dX10_road_56 : decode cX10_road 56 = .ok (.getfield 92, 3) := by decide +kernel
theorem dX10_road_59 : decode cX10_road 59 = .ok (.putfield 95, 3) := by decide +kernel
theorem dX10_road_62 : decode cX10_road 62 = .ok (.iload_n 2, 1) := by decide +kernel
theorem dX10_road_63 : decode cX10_road 63 = .ok (.ifCond .ne 9, 3) := by decide +kernel
theorem dX10_road_66 : decode cX10_road 66 = .ok (.aload_n 0, 1) := by decide +kernel
theorem dX10_road_67 : decode cX10_road 67 = .ok (.iconst 4, 1) := by decide +kernel
theorem dX10_road_68 : decode cX10_road 68 = .ok (.invokevirtual 80, 3) := by decide +kernel
theorem dX10_road_71 : decode cX10_road 71 = .ok (.ireturn, 1) := by decide +kernel
theorem dX10_road_72 : decode cX10_road 72 = .ok (.aload_n 0, 1) := by decide +kernel
theorem dX10_road_73 : decode cX10_road 73 = .ok (.getfield 16, 3) := by decide +kernel
theorem dX10_road_76 : decode cX10_road 76 = .ok (.astore_n 3, 1) := by decide +kernel
theorem dX10_road_77 : decode cX10_road 77 = .ok (.aload_n 0, 1) := by decide +kernel
theorem dX10_road_78 : decode cX10_road 78 = .ok (.aload_n 0, 1) := by decide +kernel
theorem dX10_road_79 : decode cX10_road 79 = .ok (.getfield 20, 3) := by decide +kernel
theorem dX10_road_82 : decode cX10_road 82 = .ok (.putfield 16, 3) := by decide +kernel
theorem dX10_road_85 : decode cX10_road 85 = .ok (.aload_n 0, 1) := by decide +kernel
theorem dX10_road_86 : decode cX10_road 86 = .ok (.aload_n 3, 1) := by decide +kernel
theorem dX10_road_87 : decode cX10_road 87 = .ok (.putfield 20, 3) := by decide +kernel
theorem dX10_road_90 : decode cX10_road 90 = .ok (.aload_n 0, 1) := by decide +kernel
theorem dX10_road_91 : decode cX10_road 91 = .ok (.getfield 33, 3) := by decide +kernel
theorem dX10_road_94 : decode cX10_road 94 = .ok (.invokevirtual 96, 3) := by decide +kernel
theorem dX10_road_97 : decode cX10_road 97 = .ok (.aload_n 0, 1) := by decide +kernel
theorem dX10_road_98 : decode cX10_road 98 = .ok (.getfield 61, 3) := by decide +kernel
theorem dX10_road_101 : decode cX10_road 101 = .ok (.aload_n 0, 1) := by decide +kernel
theorem dX10_road_102 : decode cX10_road 102 = .ok (.getfield 16, 3) := by decide +kernel
theorem dX10_road_105 : decode cX10_road 105 = .ok (.invokevirtual 99, 3) := by decide +kernel
theorem dX10_road_108 : decode cX10_road 108 = .ok (.aload_n 0, 1) := by decide +kernel
theorem dX10_road_109 : decode cX10_road 109 = .ok (.aload_n 0, 1) := by decide +kernel
theorem dX10_road_110 : decode cX10_road 110 = .ok (.getfield 16, 3) := by decide +kernel
theorem dX10_road_113 : decode cX10_road 113 = .ok (.getfield 103, 3) := by decide +kernel
theorem dX10_road_116 : decode cX10_road 116 = .ok (.invokevirtual 106, 3) := by decide +kernel
theorem dX10_road_119 : decode cX10_road 119 = .ok (.ireturn, 1) := by decide +kernel
theorem dX10_fault_0 : decode cX10_fault 0 = .ok (.aload_n 0, 1) := by decide +kernel
theorem dX10_fault_1 : decode cX10_fault 1 = .ok (.getfield 91, 3) := by decide +kernel
theorem dX10_fault_4 : decode cX10_fault 4 = .ok (.ireturn, 1) := by decide +kernel
theorem dX10_where_0 : decode cX10_where 0 = .ok (.aload_n 0, 1) := by decide +kernel
theorem dX10_where_1 : decode cX10_where 1 = .ok (.getfield 109, 3) := by decide +kernel
theorem dX10_where_4 : decode cX10_where 4 = .ok (.iconst 4, 1) := by decide +kernel
theorem dX10_where_5 : decode cX10_where 5 = .ok (.if_icmp .ne 10, 3) := by decide +kernel
theorem dX10_where_8 : decode cX10_where 8 = .ok (.aload_n 0, 1) := by decide +kernel
theorem dX10_where_9 : decode cX10_where 9 = .ok (.getfield 95, 3) := by decide +kernel
theorem dX10_where_12 : decode cX10_where 12 = .ok (.goto 4, 3) := by decide +kernel
theorem dX10_where_15 : decode cX10_where 15 = .ok (.iconst (-1), 1) := by decide +kernel
theorem dX10_where_16 : decode cX10_where 16 = .ok (.ireturn, 1) := by decide +kernel
theorem dX10_takes_0 : decode cX10_takes 0 = .ok (.aload_n 0, 1) := by decide +kernel
theorem dX10_takes_1 : decode cX10_takes 1 = .ok (.iload_n 1, 1) := by decide +kernel
theorem dX10_takes_2 : decode cX10_takes 2 = .ok (.iload_n 2, 1) := by decide +kernel
theorem dX10_takes_3 : decode cX10_takes 3 = .ok (.invokevirtual 112, 3) := by decide +kernel
theorem dX10_takes_6 : decode cX10_takes 6 = .ok (.ifCond .ne 9, 3) := by decide +kernel
theorem dX10_takes_9 : decode cX10_takes 9 = .ok (.aload_n 0, 1) := by decide +kernel
theorem dX10_takes_10 : decode cX10_takes 10 = .ok (.iconst 1, 1) := by decide +kernel
theorem dX10_takes_11 : decode cX10_takes 11 = .ok (.invokevirtual 80, 3) := by decide +kernel
theorem dX10_takes_14 : decode cX10_takes 14 = .ok (.ireturn, 1) := by decide +kernel
theorem dX10_takes_15 : decode cX10_takes 15 = .ok (.aload_n 0, 1) := by decide +kernel
theorem dX10_takes_16 : decode cX10_takes 16 = .ok (.getfield 16, 3) := by decide +kernel
theorem dX10_takes_19 : decode cX10_takes 19 = .ok (.iload_n 1, 1) := by decide +kernel
theorem dX10_takes_20 : decode cX10_takes 20 = .ok (.iload_n 2, 1) := by decide +kernel
theorem dX10_takes_21 : decode cX10_takes 21 = .ok (.invokevirtual 116, 3) := by decide +kernel
theorem dX10_takes_24 : decode cX10_takes 24 = .ok (.ifCond .ne 10, 3) := by decide +kernel
theorem dX10_takes_27 : decode cX10_takes 27 = .ok (.aload_n 0, 1) := by decide +kernel
theorem dX10_takes_28 : decode cX10_takes 28 = .ok (.bipush (-2), 2) := by decide +kernel
theorem dX10_takes_30 : decode cX10_takes 30 = .ok (.invokevirtual 106, 3) := by decide +kernel
theorem dX10_takes_33 : decode cX10_takes 33 = .ok (.ireturn, 1) := by decide +kernel
theorem dX10_takes_34 : decode cX10_takes 34 = .ok (.aload_n 0, 1) := by decide +kernel
theorem dX10_takes_35 : decode cX10_takes 35 = .ok (.iload_n 3, 1) := by decide +kernel
theorem dX10_takes_36 : decode cX10_takes 36 = .ok (.ifCond .eq 15, 3) := by decide +kernel
theorem dX10_takes_39 : decode cX10_takes 39 = .ok (.aload_n 0, 1) := by decide +kernel
theorem dX10_takes_40 : decode cX10_takes 40 = .ok (.getfield 16, 3) := by decide +kernel
theorem dX10_takes_43 : decode cX10_takes 43 = .ok (.iload_n 1, 1) := by decide +kernel
theorem dX10_takes_44 : decode cX10_takes 44 = .ok (.iload_n 2, 1) := by decide +kernel
theorem dX10_takes_45 : decode cX10_takes 45 = .ok (.invokevirtual 119, 3) := by decide +kernel
theorem dX10_takes_48 : decode cX10_takes 48 = .ok (.goto 12, 3) := by decide +kernel
theorem dX10_takes_51 : decode cX10_takes 51 = .ok (.aload_n 0, 1) := by decide +kernel
theorem dX10_takes_52 : decode cX10_takes 52 = .ok (.getfield 16, 3) := by decide +kernel
theorem dX10_takes_55 : decode cX10_takes 55 = .ok (.iload_n 1, 1) := by decide +kernel
theorem dX10_takes_56 : decode cX10_takes 56 = .ok (.iload_n 2, 1) := by decide +kernel
theorem dX10_takes_57 : decode cX10_takes 57 = .ok (.invokevirtual 123, 3) := by decide +kernel
theorem dX10_takes_60 : decode cX10_takes 60 = .ok (.invokevirtual 106, 3) := by decide +kernel
theorem dX10_takes_63 : decode cX10_takes 63 = .ok (.ireturn, 1) := by decide +kernel
theorem dX10_pump_0 : decode cX10_pump 0 = .ok (.aload_n 0, 1) := by decide +kernel
theorem dX10_pump_1 : decode cX10_pump 1 = .ok (.getfield 16, 3) := by decide +kernel
theorem dX10_pump_4 : decode cX10_pump 4 = .ok (.iload_n 1, 1) := by decide +kernel
theorem dX10_pump_5 : decode cX10_pump 5 = .ok (.invokevirtual 126, 3) := by decide +kernel
theorem dX10_pump_8 : decode cX10_pump 8 = .ok (.ifCond .eq 12, 3) := by decide +kernel
theorem dX10_pump_11 : decode cX10_pump 11 = .ok (.iload_n 2, 1) := by decide +kernel
theorem dX10_pump_12 : decode cX10_pump 12 = .ok (.ifCond .lt 8, 3) := by decide +kernel
theorem dX10_pump_15 : decode cX10_pump 15 = .ok (.iload_n 2, 1) := by decide +kernel
theorem dX10_pump_16 : decode cX10_pump 16 = .ok (.iconst 2, 1) := by decide +kernel
theorem dX10_pump_17 : decode cX10_pump 17 = .ok (.if_icmp .le 9, 3) := by decide +kernel
theorem dX10_pump_20 : decode cX10_pump 20 = .ok (.aload_n 0, 1) := by decide +kernel
theorem dX10_pump_21 : decode cX10_pump 21 = .ok (.iconst 1, 1) := by decide +kernel
theorem dX10_pump_22 : decode cX10_pump 22 = .ok (.invokevirtual 80, 3) := by decide +kernel
theorem dX10_pump_25 : decode cX10_pump 25 = .ok (.ireturn, 1) := by decide +kernel
theorem dX10_pump_26 : decode cX10_pump 26 = .ok (.aload_n 0, 1) := by decide +kernel
theorem dX10_pump_27 : decode cX10_pump 27 = .ok (.getfield 16, 3) := by decide +kernel
theorem dX10_pump_30 : decode cX10_pump 30 = .ok (.getfield 130, 3) := by decide +kernel
theorem dX10_pump_33 : decode cX10_pump 33 = .ok (.iload_n 1, 1) := by decide +kernel
theorem dX10_pump_34 : decode cX10_pump 34 = .ok (.iaload, 1) := by decide +kernel
theorem dX10_pump_35 : decode cX10_pump 35 = .ok (.istore_n 3, 1) := by decide +kernel
theorem dX10_pump_36 : decode cX10_pump 36 = .ok (.iload_n 3, 1) := by decide +kernel
theorem dX10_pump_37 : decode cX10_pump 37 = .ok (.ifCond .ne 10, 3) := by decide +kernel
theorem dX10_pump_40 : decode cX10_pump 40 = .ok (.aload_n 0, 1) := by decide +kernel
theorem dX10_pump_41 : decode cX10_pump 41 = .ok (.bipush 6, 2) := by decide +kernel
theorem dX10_pump_43 : decode cX10_pump 43 = .ok (.invokevirtual 80, 3) := by decide +kernel
theorem dX10_pump_46 : decode cX10_pump 46 = .ok (.ireturn, 1) := by decide +kernel
theorem dX10_pump_47 : decode cX10_pump 47 = .ok (.iload_n 2, 1) := by decide +kernel
theorem dX10_pump_48 : decode cX10_pump 48 = .ok (.ifCond .ne 9, 3) := by decide +kernel
theorem dX10_pump_51 : decode cX10_pump 51 = .ok (.aload_n 0, 1) := by decide +kernel
theorem dX10_pump_52 : decode cX10_pump 52 = .ok (.iload_n 3, 1) := by decide +kernel
theorem dX10_pump_53 : decode cX10_pump 53 = .ok (.invokevirtual 106, 3) := by decide +kernel
theorem dX10_pump_56 : decode cX10_pump 56 = .ok (.ireturn, 1) := by decide +kernel
theorem dX10_pump_57 : decode cX10_pump 57 = .ok (.iload_n 2, 1) := by decide +kernel
theorem dX10_pump_58 : decode cX10_pump 58 = .ok (.iconst 2, 1) := by decide +kernel
theorem dX10_pump_59 : decode cX10_pump 59 = .ok (.if_icmp .ne 17, 3) := by decide +kernel
theorem dX10_pump_62 : decode cX10_pump 62 = .ok (.aload_n 0, 1) := by decide +kernel
theorem dX10_pump_63 : decode cX10_pump 63 = .ok (.aload_n 0, 1) := by decide +kernel
theorem dX10_pump_64 : decode cX10_pump 64 = .ok (.getfield 16, 3) := by decide +kernel
theorem dX10_pump_67 : decode cX10_pump 67 = .ok (.getfield 134, 3) := by decide +kernel
theorem dX10_pump_70 : decode cX10_pump 70 = .ok (.iload_n 1, 1) := by decide +kernel
theorem dX10_pump_71 : decode cX10_pump 71 = .ok (.iaload, 1) := by decide +kernel
theorem dX10_pump_72 : decode cX10_pump 72 = .ok (.invokevirtual 106, 3) := by decide +kernel
theorem dX10_pump_75 : decode cX10_pump 75 = .ok (.ireturn, 1) := by decide +kernel
theorem dX10_pump_76 : decode cX10_pump 76 = .ok (.aload_n 0, 1) := by decide +kernel
theorem dX10_pump_77 : decode cX10_pump 77 = .ok (.getfield 16, 3) := by decide +kernel
theorem dX10_pump_80 : decode cX10_pump 80 = .ok (.getfield 137, 3) := by decide +kernel
theorem dX10_pump_83 : decode cX10_pump 83 = .ok (.iload_n 1, 1) := by decide +kernel
theorem dX10_pump_84 : decode cX10_pump 84 = .ok (.iaload, 1) := by decide +kernel
theorem dX10_pump_85 : decode cX10_pump 85 = .ok (.istore 4, 2) := by decide +kernel
theorem dX10_pump_87 : decode cX10_pump 87 = .ok (.aload_n 0, 1) := by decide +kernel
theorem dX10_pump_88 : decode cX10_pump 88 = .ok (.iload 4, 2) := by decide +kernel
theorem dX10_pump_90 : decode cX10_pump 90 = .ok (.ifCond .ne 8, 3) := by decide +kernel
theorem dX10_pump_93 : decode cX10_pump 93 = .ok (.bipush (-2), 2) := by decide +kernel
theorem dX10_pump_95 : decode cX10_pump 95 = .ok (.goto 5, 3) := by decide +kernel
theorem dX10_pump_98 : decode cX10_pump 98 = .ok (.iload 4, 2) := by decide +kernel
theorem dX10_pump_100 : decode cX10_pump 100 = .ok (.invokevirtual 106, 3) := by decide +kernel
theorem dX10_pump_103 : decode cX10_pump 103 = .ok (.ireturn, 1) := by decide +kernel
theorem dX10_station_0 : decode cX10_station 0 = .ok (.aload_n 0, 1) := by decide +kernel
theorem dX10_station_1 : decode cX10_station 1 = .ok (.getfield 16, 3) := by decide +kernel
theorem dX10_station_4 : decode cX10_station 4 = .ok (.iload_n 1, 1) := by decide +kernel
theorem dX10_station_5 : decode cX10_station 5 = .ok (.invokevirtual 140, 3) := by decide +kernel
theorem dX10_station_8 : decode cX10_station 8 = .ok (.ifCond .ne 9, 3) := by decide +kernel
theorem dX10_station_11 : decode cX10_station 11 = .ok (.aload_n 0, 1) := by decide +kernel
theorem dX10_station_12 : decode cX10_station 12 = .ok (.iconst 1, 1) := by decide +kernel
theorem dX10_station_13 : decode cX10_station 13 = .ok (.invokevirtual 80, 3) := by decide +kernel
theorem dX10_station_16 : decode cX10_station 16 = .ok (.ireturn, 1) := by decide +kernel
theorem dX10_station_17 : decode cX10_station 17 = .ok (.aload_n 0, 1) := by decide +kernel
theorem dX10_station_18 : decode cX10_station 18 = .ok (.aload_n 0, 1) := by decide +kernel
theorem dX10_station_19 : decode cX10_station 19 = .ok (.getfield 16, 3) := by decide +kernel
theorem dX10_station_22 : decode cX10_station 22 = .ok (.getfield 143, 3) := by decide +kernel
theorem dX10_station_25 : decode cX10_station 25 = .ok (.iload_n 1, 1) := by decide +kernel
theorem dX10_station_26 : decode cX10_station 26 = .ok (.iaload, 1) := by decide +kernel
theorem dX10_station_27 : decode cX10_station 27 = .ok (.invokevirtual 106, 3) := by decide +kernel
theorem dX10_station_30 : decode cX10_station 30 = .ok (.ireturn, 1) := by decide +kernel
theorem dX10_legs_0 : decode cX10_legs 0 = .ok (.aload_n 0, 1) := by decide +kernel
theorem dX10_legs_1 : decode cX10_legs 1 = .ok (.getfield 16, 3) := by decide +kernel
theorem dX10_legs_4 : decode cX10_legs 4 = .ok (.iload_n 1, 1) := by decide +kernel
theorem dX10_legs_5 : decode cX10_legs 5 = .ok (.invokevirtual 140, 3) := by decide +kernel
theorem dX10_legs_8 : decode cX10_legs 8 = .ok (.ifCond .eq 19, 3) := by decide +kernel
theorem dX10_legs_11 : decode cX10_legs 11 = .ok (.aload_n 0, 1) := by decide +kernel
theorem dX10_legs_12 : decode cX10_legs 12 = .ok (.getfield 16, 3) := by decide +kernel
theorem dX10_legs_15 : decode cX10_legs 15 = .ok (.iload_n 2, 1) := by decide +kernel
theorem dX10_legs_16 : decode cX10_legs 16 = .ok (.invokevirtual 140, 3) := by decide +kernel
theorem dX10_legs_19 : decode cX10_legs 19 = .ok (.ifCond .eq 8, 3) := by decide +kernel
theorem dX10_legs_22 : decode cX10_legs 22 = .ok (.iload_n 2, 1) := by decide +kernel
theorem dX10_legs_23 : decode cX10_legs 23 = .ok (.iload_n 1, 1) := by decide +kernel
theorem dX10_legs_24 : decode cX10_legs 24 = .ok (.if_icmp .gt 9, 3) := by decide +kernel
theorem dX10_legs_27 : decode cX10_legs 27 = .ok (.aload_n 0, 1) := by decide +kernel
theorem dX10_legs_28 : decode cX10_legs 28 = .ok (.iconst 1, 1) := by decide +kernel
theorem dX10_legs_29 : decode cX10_legs 29 = .ok (.invokevirtual 80, 3) := by decide +kernel
theorem dX10_legs_32 : decode cX10_legs 32 = .ok (.ireturn, 1) := by decide +kernel
theorem dX10_legs_33 : decode cX10_legs 33 = .ok (.aload_n 0, 1) := by decide +kernel
theorem dX10_legs_34 : decode cX10_legs 34 = .ok (.aload_n 0, 1) := by decide +kernel
theorem dX10_legs_35 : decode cX10_legs 35 = .ok (.getfield 16, 3) := by decide +kernel
theorem dX10_legs_38 : decode cX10_legs 38 = .ok (.iload_n 1, 1) := by decide +kernel
theorem dX10_legs_39 : decode cX10_legs 39 = .ok (.iload_n 2, 1) := by decide +kernel
theorem dX10_legs_40 : decode cX10_legs 40 = .ok (.invokevirtual 146, 3) := by decide +kernel
theorem dX10_legs_43 : decode cX10_legs 43 = .ok (.invokevirtual 106, 3) := by decide +kernel
theorem dX10_legs_46 : decode cX10_legs 46 = .ok (.ireturn, 1) := by decide +kernel
theorem dX10_lasts_0 : decode cX10_lasts 0 = .ok (.aload_n 0, 1) := by decide +kernel
theorem dX10_lasts_1 : decode cX10_lasts 1 = .ok (.getfield 16, 3) := by decide +kernel
theorem dX10_lasts_4 : decode cX10_lasts 4 = .ok (.iload_n 1, 1) := by decide +kernel
theorem dX10_lasts_5 : decode cX10_lasts 5 = .ok (.invokevirtual 140, 3) := by decide +kernel
theorem dX10_lasts_8 : decode cX10_lasts 8 = .ok (.ifCond .ne 9, 3) := by decide +kernel
theorem dX10_lasts_11 : decode cX10_lasts 11 = .ok (.aload_n 0, 1) := by decide +kernel
theorem dX10_lasts_12 : decode cX10_lasts 12 = .ok (.iconst 1, 1) := by decide +kernel
theorem dX10_lasts_13 : decode cX10_lasts 13 = .ok (.invokevirtual 80, 3) := by decide +kernel
theorem dX10_lasts_16 : decode cX10_lasts 16 = .ok (.ireturn, 1) := by decide +kernel
theorem dX10_lasts_17 : decode cX10_lasts 17 = .ok (.aload_n 0, 1) := by decide +kernel
theorem dX10_lasts_18 : decode cX10_lasts 18 = .ok (.getfield 16, 3) := by decide +kernel
theorem dX10_lasts_21 : decode cX10_lasts 21 = .ok (.iload_n 2, 1) := by decide +kernel
theorem dX10_lasts_22 : decode cX10_lasts 22 = .ok (.invokevirtual 149, 3) := by decide +kernel
theorem dX10_lasts_25 : decode cX10_lasts 25 = .ok (.ifCond .ne 9, 3) := by decide +kernel
theorem dX10_lasts_28 : decode cX10_lasts 28 = .ok (.aload_n 0, 1) := by decide +kernel
theorem dX10_lasts_29 : decode cX10_lasts 29 = .ok (.iconst 2, 1) := by decide +kernel
theorem dX10_lasts_30 : decode cX10_lasts 30 = .ok (.invokevirtual 80, 3) := by decide +kernel
theorem dX10_lasts_33 : decode cX10_lasts 33 = .ok (.ireturn, 1) := by decide +kernel
theorem dX10_lasts_34 : decode cX10_lasts 34 = .ok (.aload_n 0, 1) := by decide +kernel
theorem dX10_lasts_35 : decode cX10_lasts 35 = .ok (.aload_n 0, 1) := by decide +kernel
theorem dX10_lasts_36 : decode cX10_lasts 36 = .ok (.getfield 16, 3) := by decide +kernel
theorem dX10_lasts_39 : decode cX10_lasts 39 = .ok (.iload_n 1, 1) := by decide +kernel
theorem dX10_lasts_40 : decode cX10_lasts 40 = .ok (.iload_n 2, 1) := by decide +kernel
theorem dX10_lasts_41 : decode cX10_lasts 41 = .ok (.invokevirtual 152, 3) := by decide +kernel
theorem dX10_lasts_44 : decode cX10_lasts 44 = .ok (.invokevirtual 106, 3) := by decide +kernel
theorem dX10_lasts_47 : decode cX10_lasts 47 = .ok (.ireturn, 1) := by decide +kernel
theorem dX10_plan_0 : decode cX10_plan 0 = .ok (.aload_n 0, 1) := by decide +kernel
theorem dX10_plan_1 : decode cX10_plan 1 = .ok (.getfield 16, 3) := by decide +kernel
theorem dX10_plan_4 : decode cX10_plan 4 = .ok (.iload_n 1, 1) := by decide +kernel
theorem dX10_plan_5 : decode cX10_plan 5 = .ok (.invokevirtual 155, 3) := by decide +kernel
theorem dX10_plan_8 : decode cX10_plan 8 = .ok (.ifCond .ne 9, 3) := by decide +kernel
theorem dX10_plan_11 : decode cX10_plan 11 = .ok (.aload_n 0, 1) := by decide +kernel
theorem dX10_plan_12 : decode cX10_plan 12 = .ok (.iconst 1, 1) := by decide +kernel
theorem dX10_plan_13 : decode cX10_plan 13 = .ok (.invokevirtual 158, 3) := by decide +kernel
theorem dX10_plan_16 : decode cX10_plan 16 = .ok (.ireturn, 1) := by decide +kernel
theorem dX10_plan_17 : decode cX10_plan 17 = .ok (.aload_n 0, 1) := by decide +kernel
theorem dX10_plan_18 : decode cX10_plan 18 = .ok (.getfield 16, 3) := by decide +kernel
theorem dX10_plan_21 : decode cX10_plan 21 = .ok (.iload_n 2, 1) := by decide +kernel
theorem dX10_plan_22 : decode cX10_plan 22 = .ok (.invokevirtual 149, 3) := by decide +kernel
theorem dX10_plan_25 : decode cX10_plan 25 = .ok (.ifCond .ne 9, 3) := by decide +kernel
theorem dX10_plan_28 : decode cX10_plan 28 = .ok (.aload_n 0, 1) := by decide +kernel
theorem dX10_plan_29 : decode cX10_plan 29 = .ok (.iconst 2, 1) := by decide +kernel
theorem dX10_plan_30 : decode cX10_plan 30 = .ok (.invokevirtual 158, 3) := by decide +kernel
theorem dX10_plan_33 : decode cX10_plan 33 = .ok (.ireturn, 1) := by decide +kernel
theorem dX10_plan_34 : decode cX10_plan 34 = .ok (.aload_n 0, 1) := by decide +kernel
theorem dX10_plan_35 : decode cX10_plan 35 = .ok (.getfield 33, 3) := by decide +kernel
theorem dX10_plan_38 : decode cX10_plan 38 = .ok (.getfield 161, 3) := by decide +kernel
theorem dX10_plan_41 : decode cX10_plan 41 = .ok (.iload_n 1, 1) := by decide +kernel
theorem dX10_plan_42 : decode cX10_plan 42 = .ok (.iload_n 2, 1) := by decide +kernel
theorem dX10_plan_43 : decode cX10_plan 43 = .ok (.iastore, 1) := by decide +kernel
theorem dX10_plan_44 : decode cX10_plan 44 = .ok (.aload_n 0, 1) := by decide +kernel
theorem dX10_plan_45 : decode cX10_plan 45 = .ok (.invokevirtual 164, 3) := by decide +kernel
theorem dX10_plan_48 : decode cX10_plan 48 = .ok (.ireturn, 1) := by decide +kernel
theorem dX10_judge_0 : decode cX10_judge 0 = .ok (.aload_n 0, 1) := by decide +kernel
theorem dX10_judge_1 : decode cX10_judge 1 = .ok (.getfield 16, 3) := by decide +kernel
theorem dX10_judge_4 : decode cX10_judge 4 = .ok (.invokevirtual 168, 3) := by decide +kernel
theorem dX10_judge_7 : decode cX10_judge 7 = .ok (.ifCond .ne 9, 3) := by decide +kernel
theorem dX10_judge_10 : decode cX10_judge 10 = .ok (.aload_n 0, 1) := by decide +kernel
theorem dX10_judge_11 : decode cX10_judge 11 = .ok (.iconst 1, 1) := by decide +kernel
theorem dX10_judge_12 : decode cX10_judge 12 = .ok (.invokevirtual 80, 3) := by decide +kernel
theorem dX10_judge_15 : decode cX10_judge 15 = .ok (.ireturn, 1) := by decide +kernel
theorem dX10_judge_16 : decode cX10_judge 16 = .ok (.aload_n 0, 1) := by decide +kernel
theorem dX10_judge_17 : decode cX10_judge 17 = .ok (.aload_n 0, 1) := by decide +kernel
theorem dX10_judge_18 : decode cX10_judge 18 = .ok (.getfield 33, 3) := by decide +kernel
theorem dX10_judge_21 : decode cX10_judge 21 = .ok (.aload_n 0, 1) := by decide +kernel
theorem dX10_judge_22 : decode cX10_judge 22 = .ok (.getfield 16, 3) := by decide +kernel
theorem dX10_judge_25 : decode cX10_judge 25 = .ok (.invokevirtual 171, 3) := by decide +kernel
theorem dX10_judge_28 : decode cX10_judge 28 = .ok (.invokevirtual 106, 3) := by decide +kernel
theorem dX10_judge_31 : decode cX10_judge 31 = .ok (.ireturn, 1) := by decide +kernel
theorem dX10_cost_0 : decode cX10_cost 0 = .ok (.aload_n 0, 1) := by decide +kernel
theorem dX10_cost_1 : decode cX10_cost 1 = .ok (.getfield 16, 3) := by decide +kernel
theorem dX10_cost_4 : decode cX10_cost 4 = .ok (.invokevirtual 168, 3) := by decide +kernel
theorem dX10_cost_7 : decode cX10_cost 7 = .ok (.ifCond .ne 9, 3) := by decide +kernel
theorem dX10_cost_10 : decode cX10_cost 10 = .ok (.aload_n 0, 1) := by decide +kernel
theorem dX10_cost_11 : decode cX10_cost 11 = .ok (.iconst 1, 1) := by decide +kernel
theorem dX10_cost_12 : decode cX10_cost 12 = .ok (.invokevirtual 80, 3) := by decide +kernel
theorem dX10_cost_15 : decode cX10_cost 15 = .ok (.ireturn, 1) := by decide +kernel
theorem dX10_cost_16 : decode cX10_cost 16 = .ok (.aload_n 0, 1) := by decide +kernel
theorem dX10_cost_17 : decode cX10_cost 17 = .ok (.getfield 33, 3) := by decide +kernel
theorem dX10_cost_20 : decode cX10_cost 20 = .ok (.aload_n 0, 1) := by decide +kernel
theorem dX10_cost_21 : decode cX10_cost 21 = .ok (.getfield 16, 3) := by decide +kernel
theorem dX10_cost_24 : decode cX10_cost 24 = .ok (.invokevirtual 171, 3) := by decide +kernel
theorem dX10_cost_27 : decode cX10_cost 27 = .ok (.bipush (-2), 2) := by decide +kernel
theorem dX10_cost_29 : decode cX10_cost 29 = .ok (.if_icmp .eq 9, 3) := by decide +kernel
theorem dX10_cost_32 : decode cX10_cost 32 = .ok (.aload_n 0, 1) := by decide +kernel
theorem dX10_cost_33 : decode cX10_cost 33 = .ok (.iconst 5, 1) := by decide +kernel
theorem dX10_cost_34 : decode cX10_cost 34 = .ok (.invokevirtual 80, 3) := by decide +kernel
theorem dX10_cost_37 : decode cX10_cost 37 = .ok (.ireturn, 1) := by decide +kernel
theorem dX10_cost_38 : decode cX10_cost 38 = .ok (.aload_n 0, 1) := by decide +kernel
theorem dX10_cost_39 : decode cX10_cost 39 = .ok (.aload_n 0, 1) := by decide +kernel
theorem dX10_cost_40 : decode cX10_cost 40 = .ok (.getfield 33, 3) := by decide +kernel
theorem dX10_cost_43 : decode cX10_cost 43 = .ok (.aload_n 0, 1) := by decide +kernel
theorem dX10_cost_44 : decode cX10_cost 44 = .ok (.getfield 16, 3) := by decide +kernel
theorem dX10_cost_47 : decode cX10_cost 47 = .ok (.invokevirtual 175, 3) := by decide +kernel
theorem dX10_cost_50 : decode cX10_cost 50 = .ok (.invokevirtual 106, 3) := by decide +kernel
theorem dX10_cost_53 : decode cX10_cost 53 = .ok (.ireturn, 1) := by decide +kernel
theorem dX10_cheapest_0 : decode cX10_cheapest 0 = .ok (.aload_n 0, 1) := by decide +kernel
theorem dX10_cheapest_1 : decode cX10_cheapest 1 = .ok (.getfield 16, 3) := by decide +kernel
theorem dX10_cheapest_4 : decode cX10_cheapest 4 = .ok (.invokevirtual 168, 3) := by decide +kernel
theorem dX10_cheapest_7 : decode cX10_cheapest 7 = .ok (.ifCond .ne 9, 3) := by decide +kernel
theorem dX10_cheapest_10 : decode cX10_cheapest 10 = .ok (.aload_n 0, 1) := by decide +kernel
theorem dX10_cheapest_11 : decode cX10_cheapest 11 = .ok (.iconst 1, 1) := by decide +kernel
theorem dX10_cheapest_12 : decode cX10_cheapest 12 = .ok (.invokevirtual 80, 3) := by decide +kernel
theorem dX10_cheapest_15 : decode cX10_cheapest 15 = .ok (.ireturn, 1) := by decide +kernel
theorem dX10_cheapest_16 : decode cX10_cheapest 16 = .ok (.aload_n 0, 1) := by decide +kernel
theorem dX10_cheapest_17 : decode cX10_cheapest 17 = .ok (.aload_n 0, 1) := by decide +kernel
theorem dX10_cheapest_18 : decode cX10_cheapest 18 = .ok (.getfield 33, 3) := by decide +kernel
theorem dX10_cheapest_21 : decode cX10_cheapest 21 = .ok (.aload_n 0, 1) := by decide +kernel
theorem dX10_cheapest_22 : decode cX10_cheapest 22 = .ok (.getfield 16, 3) := by decide +kernel
theorem dX10_cheapest_25 : decode cX10_cheapest 25 = .ok (.iconst (-1), 1) := by decide +kernel
theorem dX10_cheapest_26 : decode cX10_cheapest 26 = .ok (.invokevirtual 178, 3) := by decide +kernel
theorem dX10_cheapest_29 : decode cX10_cheapest 29 = .ok (.invokevirtual 106, 3) := by decide +kernel
theorem dX10_cheapest_32 : decode cX10_cheapest 32 = .ok (.ireturn, 1) := by decide +kernel
theorem dX10_how_0 : decode cX10_how 0 = .ok (.aload_n 0, 1) := by decide +kernel
theorem dX10_how_1 : decode cX10_how 1 = .ok (.getfield 16, 3) := by decide +kernel
theorem dX10_how_4 : decode cX10_how 4 = .ok (.iload_n 1, 1) := by decide +kernel
theorem dX10_how_5 : decode cX10_how 5 = .ok (.invokevirtual 155, 3) := by decide +kernel
theorem dX10_how_8 : decode cX10_how 8 = .ok (.ifCond .ne 9, 3) := by decide +kernel
theorem dX10_how_11 : decode cX10_how 11 = .ok (.aload_n 0, 1) := by decide +kernel
theorem dX10_how_12 : decode cX10_how 12 = .ok (.iconst 1, 1) := by decide +kernel
theorem dX10_how_13 : decode cX10_how 13 = .ok (.invokevirtual 80, 3) := by decide +kernel
theorem dX10_how_16 : decode cX10_how 16 = .ok (.ireturn, 1) := by decide +kernel
theorem dX10_how_17 : decode cX10_how 17 = .ok (.aload_n 0, 1) := by decide +kernel
theorem dX10_how_18 : decode cX10_how 18 = .ok (.aload_n 0, 1) := by decide +kernel
theorem dX10_how_19 : decode cX10_how 19 = .ok (.getfield 33, 3) := by decide +kernel
theorem dX10_how_22 : decode cX10_how 22 = .ok (.aload_n 0, 1) := by decide +kernel
theorem dX10_how_23 : decode cX10_how 23 = .ok (.getfield 16, 3) := by decide +kernel
theorem dX10_how_26 : decode cX10_how 26 = .ok (.iload_n 1, 1) := by decide +kernel
theorem dX10_how_27 : decode cX10_how 27 = .ok (.invokevirtual 182, 3) := by decide +kernel
theorem dX10_how_30 : decode cX10_how 30 = .ok (.invokevirtual 106, 3) := by decide +kernel
theorem dX10_how_33 : decode cX10_how 33 = .ok (.ireturn, 1) := by decide +kernel
theorem dX10_fewest_0 : decode cX10_fewest 0 = .ok (.aload_n 0, 1) := by decide +kernel
theorem dX10_fewest_1 : decode cX10_fewest 1 = .ok (.getfield 16, 3) := by decide +kernel
theorem dX10_fewest_4 : decode cX10_fewest 4 = .ok (.invokevirtual 168, 3) := by decide +kernel
theorem dX10_fewest_7 : decode cX10_fewest 7 = .ok (.ifCond .ne 9, 3) := by decide +kernel
theorem dX10_fewest_10 : decode cX10_fewest 10 = .ok (.aload_n 0, 1) := by decide +kernel
theorem dX10_fewest_11 : decode cX10_fewest 11 = .ok (.iconst 1, 1) := by decide +kernel
theorem dX10_fewest_12 : decode cX10_fewest 12 = .ok (.invokevirtual 80, 3) := by decide +kernel
theorem dX10_fewest_15 : decode cX10_fewest 15 = .ok (.ireturn, 1) := by decide +kernel
theorem dX10_fewest_16 : decode cX10_fewest 16 = .ok (.aload_n 0, 1) := by decide +kernel
theorem dX10_fewest_17 : decode cX10_fewest 17 = .ok (.aload_n 0, 1) := by decide +kernel
theorem dX10_fewest_18 : decode cX10_fewest 18 = .ok (.getfield 33, 3) := by decide +kernel
theorem dX10_fewest_21 : decode cX10_fewest 21 = .ok (.aload_n 0, 1) := by decide +kernel
theorem dX10_fewest_22 : decode cX10_fewest 22 = .ok (.getfield 16, 3) := by decide +kernel
theorem dX10_fewest_25 : decode cX10_fewest 25 = .ok (.invokevirtual 185, 3) := by decide +kernel
theorem dX10_fewest_28 : decode cX10_fewest 28 = .ok (.invokevirtual 106, 3) := by decide +kernel
theorem dX10_fewest_31 : decode cX10_fewest 31 = .ok (.ireturn, 1) := by decide +kernel
theorem dX10_time_0 : decode cX10_time 0 = .ok (.aload_n 0, 1) := by decide +kernel
theorem dX10_time_1 : decode cX10_time 1 = .ok (.getfield 16, 3) := by decide +kernel
theorem dX10_time_4 : decode cX10_time 4 = .ok (.invokevirtual 168, 3) := by decide +kernel
theorem dX10_time_7 : decode cX10_time 7 = .ok (.ifCond .ne 9, 3) := by decide +kernel
theorem dX10_time_10 : decode cX10_time 10 = .ok (.aload_n 0, 1) := by decide +kernel
theorem dX10_time_11 : decode cX10_time 11 = .ok (.iconst 1, 1) := by decide +kernel
theorem dX10_time_12 : decode cX10_time 12 = .ok (.invokevirtual 80, 3) := by decide +kernel
theorem dX10_time_15 : decode cX10_time 15 = .ok (.ireturn, 1) := by decide +kernel
theorem dX10_time_16 : decode cX10_time 16 = .ok (.aload_n 0, 1) := by decide +kernel
theorem dX10_time_17 : decode cX10_time 17 = .ok (.getfield 33, 3) := by decide +kernel
theorem dX10_time_20 : decode cX10_time 20 = .ok (.aload_n 0, 1) := by decide +kernel
theorem dX10_time_21 : decode cX10_time 21 = .ok (.getfield 16, 3) := by decide +kernel
theorem dX10_time_24 : decode cX10_time 24 = .ok (.invokevirtual 171, 3) := by decide +kernel
theorem dX10_time_27 : decode cX10_time 27 = .ok (.bipush (-2), 2) := by decide +kernel
theorem dX10_time_29 : decode cX10_time 29 = .ok (.if_icmp .eq 9, 3) := by decide +kernel
theorem dX10_time_32 : decode cX10_time 32 = .ok (.aload_n 0, 1) := by decide +kernel
theorem dX10_time_33 : decode cX10_time 33 = .ok (.iconst 5, 1) := by decide +kernel
theorem dX10_time_34 : decode cX10_time 34 = .ok (.invokevirtual 80, 3) := by decide +kernel
theorem dX10_time_37 : decode cX10_time 37 = .ok (.ireturn, 1) := by decide +kernel
theorem dX10_time_38 : decode cX10_time 38 = .ok (.aload_n 0, 1) := by decide +kernel
theorem dX10_time_39 : decode cX10_time 39 = .ok (.aload_n 0, 1) := by decide +kernel
theorem dX10_time_40 : decode cX10_time 40 = .ok (.getfield 33, 3) := by decide +kernel
theorem dX10_time_43 : decode cX10_time 43 = .ok (.aload_n 0, 1) := by decide +kernel
theorem dX10_time_44 : decode cX10_time 44 = .ok (.getfield 16, 3) := by decide +kernel
theorem dX10_time_47 : decode cX10_time 47 = .ok (.invokevirtual 188, 3) := by decide +kernel
theorem dX10_time_50 : decode cX10_time 50 = .ok (.invokevirtual 106, 3) := by decide +kernel
theorem dX10_time_53 : decode cX10_time 53 = .ok (.ireturn, 1) := by decide +kernel
theorem dX10_without_0 : decode cX10_without 0 = .ok (.aload_n 0, 1) := by decide +kernel
theorem dX10_without_1 : decode cX10_without 1 = .ok (.getfield 16, 3) := by decide +kernel
theorem dX10_without_4 : decode cX10_without 4 = .ok (.iload_n 1, 1) := by decide +kernel
theorem dX10_without_5 : decode cX10_without 5 = .ok (.invokevirtual 155, 3) := by decide +kernel
theorem dX10_without_8 : decode cX10_without 8 = .ok (.ifCond .ne 9, 3) := by decide +kernel
theorem dX10_without_11 : decode cX10_without 11 = .ok (.aload_n 0, 1) := by decide +kernel
theorem dX10_without_12 : decode cX10_without 12 = .ok (.iconst 1, 1) := by decide +kernel
theorem dX10_without_13 : decode cX10_without 13 = .ok (.invokevirtual 80, 3) := by decide +kernel
theorem dX10_without_16 : decode cX10_without 16 = .ok (.ireturn, 1) := by decide +kernel
theorem dX10_without_17 : decode cX10_without 17 = .ok (.aload_n 0, 1) := by decide +kernel
theorem dX10_without_18 : decode cX10_without 18 = .ok (.getfield 16, 3) := by decide +kernel
theorem dX10_without_21 : decode cX10_without 21 = .ok (.iload_n 1, 1) := by decide +kernel
theorem dX10_without_22 : decode cX10_without 22 = .ok (.invokevirtual 191, 3) := by decide +kernel
theorem dX10_without_25 : decode cX10_without 25 = .ok (.ifCond .ne 10, 3) := by decide +kernel
theorem dX10_without_28 : decode cX10_without 28 = .ok (.aload_n 0, 1) := by decide +kernel
theorem dX10_without_29 : decode cX10_without 29 = .ok (.bipush 6, 2) := by decide +kernel
theorem dX10_without_31 : decode cX10_without 31 = .ok (.invokevirtual 80, 3) := by decide +kernel
theorem dX10_without_34 : decode cX10_without 34 = .ok (.ireturn, 1) := by decide +kernel
theorem dX10_without_35 : decode cX10_without 35 = .ok (.aload_n 0, 1) := by decide +kernel
theorem dX10_without_36 : decode cX10_without 36 = .ok (.aload_n 0, 1) := by decide +kernel
theorem dX10_without_37 : decode cX10_without 37 = .ok (.getfield 33, 3) := by decide +kernel
theorem dX10_without_40 : decode cX10_without 40 = .ok (.aload_n 0, 1) := by decide +kernel
theorem dX10_without_41 : decode cX10_without 41 = .ok (.getfield 16, 3) := by decide +kernel
theorem dX10_without_44 : decode cX10_without 44 = .ok (.iload_n 1, 1) := by decide +kernel
theorem dX10_without_45 : decode cX10_without 45 = .ok (.invokevirtual 178, 3) := by decide +kernel
theorem dX10_without_48 : decode cX10_without 48 = .ok (.invokevirtual 106, 3) := by decide +kernel
theorem dX10_without_51 : decode cX10_without 51 = .ok (.ireturn, 1) := by decide +kernel
theorem dX10_gap_0 : decode cX10_gap 0 = .ok (.aload_n 0, 1) := by decide +kernel
theorem dX10_gap_1 : decode cX10_gap 1 = .ok (.getfield 16, 3) := by decide +kernel
theorem dX10_gap_4 : decode cX10_gap 4 = .ok (.invokevirtual 168, 3) := by decide +kernel
theorem dX10_gap_7 : decode cX10_gap 7 = .ok (.ifCond .ne 9, 3) := by decide +kernel
theorem dX10_gap_10 : decode cX10_gap 10 = .ok (.aload_n 0, 1) := by decide +kernel
theorem dX10_gap_11 : decode cX10_gap 11 = .ok (.iconst 1, 1) := by decide +kernel
theorem dX10_gap_12 : decode cX10_gap 12 = .ok (.invokevirtual 80, 3) := by decide +kernel
theorem dX10_gap_15 : decode cX10_gap 15 = .ok (.ireturn, 1) := by decide +kernel
theorem dX10_gap_16 : decode cX10_gap 16 = .ok (.aload_n 0, 1) := by decide +kernel
theorem dX10_gap_17 : decode cX10_gap 17 = .ok (.getfield 33, 3) := by decide +kernel
theorem dX10_gap_20 : decode cX10_gap 20 = .ok (.aload_n 0, 1) := by decide +kernel
theorem dX10_gap_21 : decode cX10_gap 21 = .ok (.getfield 16, 3) := by decide +kernel
theorem dX10_gap_24 : decode cX10_gap 24 = .ok (.invokevirtual 194, 3) := by decide +kernel
theorem dX10_gap_27 : decode cX10_gap 27 = .ok (.istore_n 1, 1) := by decide +kernel
theorem dX10_gap_28 : decode cX10_gap 28 = .ok (.iload_n 1, 1) := by decide +kernel
theorem dX10_gap_29 : decode cX10_gap 29 = .ok (.iconst (-1), 1) := by decide +kernel
theorem dX10_gap_30 : decode cX10_gap 30 = .ok (.if_icmp .ne 12, 3) := by decide +kernel
theorem dX10_gap_33 : decode cX10_gap 33 = .ok (.aload_n 0, 1) := by decide +kernel
theorem dX10_gap_34 : decode cX10_gap 34 = .ok (.bipush 6, 2) := by decide +kernel
theorem dX10_gap_36 : decode cX10_gap 36 = .ok (.invokevirtual 80, 3) := by decide +kernel
theorem dX10_gap_39 : decode cX10_gap 39 = .ok (.goto 8, 3) := by decide +kernel
theorem dX10_gap_42 : decode cX10_gap 42 = .ok (.aload_n 0, 1) := by decide +kernel
theorem dX10_gap_43 : decode cX10_gap 43 = .ok (.iload_n 1, 1) := by decide +kernel
theorem dX10_gap_44 : decode cX10_gap 44 = .ok (.invokevirtual 106, 3) := by decide +kernel
theorem dX10_gap_47 : decode cX10_gap 47 = .ok (.ireturn, 1) := by decide +kernel
theorem dX10_within_0 : decode cX10_within 0 = .ok (.aload_n 0, 1) := by decide +kernel
theorem dX10_within_1 : decode cX10_within 1 = .ok (.getfield 16, 3) := by decide +kernel
theorem dX10_within_4 : decode cX10_within 4 = .ok (.invokevirtual 168, 3) := by decide +kernel
theorem dX10_within_7 : decode cX10_within 7 = .ok (.ifCond .ne 9, 3) := by decide +kernel
theorem dX10_within_10 : decode cX10_within 10 = .ok (.aload_n 0, 1) := by decide +kernel
theorem dX10_within_11 : decode cX10_within 11 = .ok (.iconst 1, 1) := by decide +kernel
theorem dX10_within_12 : decode cX10_within 12 = .ok (.invokevirtual 80, 3) := by decide +kernel
theorem dX10_within_15 : decode cX10_within 15 = .ok (.ireturn, 1) := by decide +kernel
theorem dX10_within_16 : decode cX10_within 16 = .ok (.iload_n 1, 1) := by decide +kernel
theorem dX10_within_17 : decode cX10_within 17 = .ok (.ifCond .lt 9, 3) := by decide +kernel
theorem dX10_within_20 : decode cX10_within 20 = .ok (.iload_n 1, 1) := by decide +kernel
theorem dX10_within_21 : decode cX10_within 21 = .ok (.bipush 9, 2) := by decide +kernel
theorem dX10_within_23 : decode cX10_within 23 = .ok (.if_icmp .le 9, 3) := by decide +kernel
theorem dX10_within_26 : decode cX10_within 26 = .ok (.aload_n 0, 1) := by decide +kernel
theorem dX10_within_27 : decode cX10_within 27 = .ok (.iconst 2, 1) := by decide +kernel
theorem dX10_within_28 : decode cX10_within 28 = .ok (.invokevirtual 80, 3) := by decide +kernel
theorem dX10_within_31 : decode cX10_within 31 = .ok (.ireturn, 1) := by decide +kernel
theorem dX10_within_32 : decode cX10_within 32 = .ok (.aload_n 0, 1) := by decide +kernel
theorem dX10_within_33 : decode cX10_within 33 = .ok (.aload_n 0, 1) := by decide +kernel
theorem dX10_within_34 : decode cX10_within 34 = .ok (.getfield 33, 3) := by decide +kernel
theorem dX10_within_37 : decode cX10_within 37 = .ok (.aload_n 0, 1) := by decide +kernel
theorem dX10_within_38 : decode cX10_within 38 = .ok (.getfield 16, 3) := by decide +kernel
theorem dX10_within_41 : decode cX10_within 41 = .ok (.iload_n 1, 1) := by decide +kernel
theorem dX10_within_42 : decode cX10_within 42 = .ok (.invokevirtual 197, 3) := by decide +kernel
theorem dX10_within_45 : decode cX10_within 45 = .ok (.invokevirtual 106, 3) := by decide +kernel
theorem dX10_within_48 : decode cX10_within 48 = .ok (.ireturn, 1) := by decide +kernel
theorem dX10_rest_0 : decode cX10_rest 0 = .ok (.aload_n 0, 1) := by decide +kernel
theorem dX10_rest_1 : decode cX10_rest 1 = .ok (.getfield 16, 3) := by decide +kernel
theorem dX10_rest_4 : decode cX10_rest 4 = .ok (.invokevirtual 168, 3) := by decide +kernel
theorem dX10_rest_7 : decode cX10_rest 7 = .ok (.ifCond .ne 9, 3) := by decide +kernel
theorem dX10_rest_10 : decode cX10_rest 10 = .ok (.aload_n 0, 1) := by decide +kernel
theorem dX10_rest_11 : decode cX10_rest 11 = .ok (.iconst 1, 1) := by decide +kernel
theorem dX10_rest_12 : decode cX10_rest 12 = .ok (.invokevirtual 80, 3) := by decide +kernel
theorem dX10_rest_15 : decode cX10_rest 15 = .ok (.ireturn, 1) := by decide +kernel
theorem dX10_rest_16 : decode cX10_rest 16 = .ok (.aload_n 0, 1) := by decide +kernel
theorem dX10_rest_17 : decode cX10_rest 17 = .ok (.aload_n 0, 1) := by decide +kernel
theorem dX10_rest_18 : decode cX10_rest 18 = .ok (.getfield 33, 3) := by decide +kernel
theorem dX10_rest_21 : decode cX10_rest 21 = .ok (.aload_n 0, 1) := by decide +kernel
theorem dX10_rest_22 : decode cX10_rest 22 = .ok (.getfield 16, 3) := by decide +kernel
theorem dX10_rest_25 : decode cX10_rest 25 = .ok (.invokevirtual 200, 3) := by decide +kernel
theorem dX10_rest_28 : decode cX10_rest 28 = .ok (.invokevirtual 106, 3) := by decide +kernel
theorem dX10_rest_31 : decode cX10_rest 31 = .ok (.ireturn, 1) := by decide +kernel
theorem dX10_need_0 : decode cX10_need 0 = .ok (.aload_n 0, 1) := by decide +kernel
theorem dX10_need_1 : decode cX10_need 1 = .ok (.getfield 16, 3) := by decide +kernel
theorem dX10_need_4 : decode cX10_need 4 = .ok (.invokevirtual 168, 3) := by decide +kernel
theorem dX10_need_7 : decode cX10_need 7 = .ok (.ifCond .ne 9, 3) := by decide +kernel
theorem dX10_need_10 : decode cX10_need 10 = .ok (.aload_n 0, 1) := by decide +kernel
theorem dX10_need_11 : decode cX10_need 11 = .ok (.iconst 1, 1) := by decide +kernel
theorem dX10_need_12 : decode cX10_need 12 = .ok (.invokevirtual 80, 3) := by decide +kernel
theorem dX10_need_15 : decode cX10_need 15 = .ok (.ireturn, 1) := by decide +kernel
theorem dX10_need_16 : decode cX10_need 16 = .ok (.aload_n 0, 1) := by decide +kernel
theorem dX10_need_17 : decode cX10_need 17 = .ok (.aload_n 0, 1) := by decide +kernel
theorem dX10_need_18 : decode cX10_need 18 = .ok (.getfield 33, 3) := by decide +kernel
theorem dX10_need_21 : decode cX10_need 21 = .ok (.aload_n 0, 1) := by decide +kernel
theorem dX10_need_22 : decode cX10_need 22 = .ok (.getfield 16, 3) := by decide +kernel
theorem dX10_need_25 : decode cX10_need 25 = .ok (.invokevirtual 203, 3) := by decide +kernel
theorem dX10_need_28 : decode cX10_need 28 = .ok (.invokevirtual 106, 3) := by decide +kernel
theorem dX10_need_31 : decode cX10_need 31 = .ok (.ireturn, 1) := by decide +kernel
theorem dX10_buys_0 : decode cX10_buys 0 = .ok (.iload_n 1, 1) := by decide +kernel
theorem dX10_buys_1 : decode cX10_buys 1 = .ok (.invokestatic 206, 3) := by decide +kernel
theorem dX10_buys_4 : decode cX10_buys 4 = .ok (.ifCond .eq 14, 3) := by decide +kernel
theorem dX10_buys_7 : decode cX10_buys 7 = .ok (.aload_n 0, 1) := by decide +kernel
theorem dX10_buys_8 : decode cX10_buys 8 = .ok (.iload_n 2, 1) := by decide +kernel
theorem dX10_buys_9 : decode cX10_buys 9 = .ok (.iload_n 3, 1) := by decide +kernel
theorem dX10_buys_10 : decode cX10_buys 10 = .ok (.iload 4, 2) := by decide +kernel
theorem dX10_buys_12 : decode cX10_buys 12 = .ok (.invokevirtual 209, 3) := by decide +kernel
theorem dX10_buys_15 : decode cX10_buys 15 = .ok (.goto 4, 3) := by decide +kernel
theorem dX10_buys_18 : decode cX10_buys 18 = .ok (.iconst 1, 1) := by decide +kernel
theorem dX10_buys_19 : decode cX10_buys 19 = .ok (.istore 5, 2) := by decide +kernel
theorem dX10_buys_21 : decode cX10_buys 21 = .ok (.iload 5, 2) := by decide +kernel
theorem dX10_buys_23 : decode cX10_buys 23 = .ok (.ifCond .eq 10, 3) := by decide +kernel
theorem dX10_buys_26 : decode cX10_buys 26 = .ok (.aload_n 0, 1) := by decide +kernel
theorem dX10_buys_27 : decode cX10_buys 27 = .ok (.iload 5, 2) := by decide +kernel
theorem dX10_buys_29 : decode cX10_buys 29 = .ok (.invokevirtual 80, 3) := by decide +kernel
theorem dX10_buys_32 : decode cX10_buys 32 = .ok (.ireturn, 1) := by decide +kernel
theorem dX10_buys_33 : decode cX10_buys 33 = .ok (.aload_n 0, 1) := by decide +kernel
theorem dX10_buys_34 : decode cX10_buys 34 = .ok (.aload_n 0, 1) := by decide +kernel
theorem dX10_buys_35 : decode cX10_buys 35 = .ok (.getfield 40, 3) := by decide +kernel
theorem dX10_buys_38 : decode cX10_buys 38 = .ok (.aload_n 0, 1) := by decide +kernel
theorem dX10_buys_39 : decode cX10_buys 39 = .ok (.getfield 16, 3) := by decide +kernel
theorem dX10_buys_42 : decode cX10_buys 42 = .ok (.iload_n 1, 1) := by decide +kernel
theorem dX10_buys_43 : decode cX10_buys 43 = .ok (.iload_n 2, 1) := by decide +kernel
theorem dX10_buys_44 : decode cX10_buys 44 = .ok (.iload_n 3, 1) := by decide +kernel
theorem dX10_buys_45 : decode cX10_buys 45 = .ok (.aload_n 0, 1) := by decide +kernel
theorem dX10_buys_46 : decode cX10_buys 46 = .ok (.getfield 16, 3) := by decide +kernel
theorem dX10_buys_49 : decode cX10_buys 49 = .ok (.iload_n 2, 1) := by decide +kernel
theorem dX10_buys_50 : decode cX10_buys 50 = .ok (.iload 4, 2) := by decide +kernel
theorem dX10_buys_52 : decode cX10_buys 52 = .ok (.invokevirtual 213, 3) := by decide +kernel
theorem dX10_buys_55 : decode cX10_buys 55 = .ok (.invokevirtual 217, 3) := by decide +kernel
theorem dX10_buys_58 : decode cX10_buys 58 = .ok (.invokevirtual 106, 3) := by decide +kernel
theorem dX10_buys_61 : decode cX10_buys 61 = .ok (.ireturn, 1) := by decide +kernel
theorem dX10_byRule_0 : decode cX10_byRule 0 = .ok (.aload_n 0, 1) := by decide +kernel
theorem dX10_byRule_1 : decode cX10_byRule 1 = .ok (.iload_n 1, 1) := by decide +kernel
theorem dX10_byRule_2 : decode cX10_byRule 2 = .ok (.invokevirtual 221, 3) := by decide +kernel
theorem dX10_byRule_5 : decode cX10_byRule 5 = .ok (.ifCond .ne 9, 3) := by decide +kernel
theorem dX10_byRule_8 : decode cX10_byRule 8 = .ok (.aload_n 0, 1) := by decide +kernel
theorem dX10_byRule_9 : decode cX10_byRule 9 = .ok (.iconst 1, 1) := by decide +kernel
theorem dX10_byRule_10 : decode cX10_byRule 10 = .ok (.invokevirtual 80, 3) := by decide +kernel
theorem dX10_byRule_13 : decode cX10_byRule 13 = .ok (.ireturn, 1) := by decide +kernel
theorem dX10_byRule_14 : decode cX10_byRule 14 = .ok (.aload_n 0, 1) := by decide +kernel
theorem dX10_byRule_15 : decode cX10_byRule 15 = .ok (.aload_n 0, 1) := by decide +kernel
theorem dX10_byRule_16 : decode cX10_byRule 16 = .ok (.getfield 40, 3) := by decide +kernel
theorem dX10_byRule_19 : decode cX10_byRule 19 = .ok (.aload_n 0, 1) := by decide +kernel
theorem dX10_byRule_20 : decode cX10_byRule 20 = .ok (.getfield 16, 3) := by decide +kernel
theorem dX10_byRule_23 : decode cX10_byRule 23 = .ok (.iload_n 1, 1) := by decide +kernel
theorem dX10_byRule_24 : decode cX10_byRule 24 = .ok (.invokevirtual 224, 3) := by decide +kernel
theorem dX10_byRule_27 : decode cX10_byRule 27 = .ok (.invokevirtual 106, 3) := by decide +kernel
theorem dX10_byRule_30 : decode cX10_byRule 30 = .ok (.ireturn, 1) := by decide +kernel
theorem dX10_stuckAt_0 : decode cX10_stuckAt 0 = .ok (.aload_n 0, 1) := by decide +kernel
theorem dX10_stuckAt_1 : decode cX10_stuckAt 1 = .ok (.iload_n 1, 1) := by decide +kernel
theorem dX10_stuckAt_2 : decode cX10_stuckAt 2 = .ok (.invokevirtual 221, 3) := by decide +kernel
theorem dX10_stuckAt_5 : decode cX10_stuckAt 5 = .ok (.ifCond .ne 9, 3) := by decide +kernel
theorem dX10_stuckAt_8 : decode cX10_stuckAt 8 = .ok (.aload_n 0, 1) := by decide +kernel
theorem dX10_stuckAt_9 : decode cX10_stuckAt 9 = .ok (.iconst 1, 1) := by decide +kernel
theorem dX10_stuckAt_10 : decode cX10_stuckAt 10 = .ok (.invokevirtual 80, 3) := by decide +kernel
theorem dX10_stuckAt_13 : decode cX10_stuckAt 13 = .ok (.ireturn, 1) := by decide +kernel
theorem dX10_stuckAt_14 : decode cX10_stuckAt 14 = .ok (.aload_n 0, 1) := by decide +kernel
theorem dX10_stuckAt_15 : decode cX10_stuckAt 15 = .ok (.getfield 40, 3) := by decide +kernel
theorem dX10_stuckAt_18 : decode cX10_stuckAt 18 = .ok (.aload_n 0, 1) := by decide +kernel
theorem dX10_stuckAt_19 : decode cX10_stuckAt 19 = .ok (.getfield 16, 3) := by decide +kernel
theorem dX10_stuckAt_22 : decode cX10_stuckAt 22 = .ok (.iload_n 1, 1) := by decide +kernel
theorem dX10_stuckAt_23 : decode cX10_stuckAt 23 = .ok (.invokevirtual 224, 3) := by decide +kernel
theorem dX10_stuckAt_26 : decode cX10_stuckAt 26 = .ok (.pop, 1) := by decide +kernel
theorem dX10_stuckAt_27 : decode cX10_stuckAt 27 = .ok (.aload_n 0, 1) := by decide +kernel
theorem dX10_stuckAt_28 : decode cX10_stuckAt 28 = .ok (.aload_n 0, 1) := by decide +kernel
theorem dX10_stuckAt_29 : decode cX10_stuckAt 29 = .ok (.getfield 40, 3) := by decide +kernel
theorem dX10_stuckAt_32 : decode cX10_stuckAt 32 = .ok (.getfield 227, 3) := by decide +kernel
theorem dX10_stuckAt_35 : decode cX10_stuckAt 35 = .ok (.invokevirtual 106, 3) := by decide +kernel
theorem dX10_stuckAt_38 : decode cX10_stuckAt 38 = .ok (.ireturn, 1) := by decide +kernel
theorem dX10_odds_0 : decode cX10_odds 0 = .ok (.aload_n 0, 1) := by decide +kernel
theorem dX10_odds_1 : decode cX10_odds 1 = .ok (.iload_n 1, 1) := by decide +kernel
theorem dX10_odds_2 : decode cX10_odds 2 = .ok (.invokevirtual 221, 3) := by decide +kernel
theorem dX10_odds_5 : decode cX10_odds 5 = .ok (.ifCond .ne 10, 3) := by decide +kernel
theorem dX10_odds_8 : decode cX10_odds 8 = .ok (.aload_n 0, 1) := by decide +kernel
theorem dX10_odds_9 : decode cX10_odds 9 = .ok (.iconst 1, 1) := by decide +kernel
theorem dX10_odds_10 : decode cX10_odds 10 = .ok (.invokevirtual 80, 3) := by decide +kernel
theorem dX10_odds_13 : decode cX10_odds 13 = .ok (.i2l, 1) := by decide +kernel
theorem dX10_odds_14 : decode cX10_odds 14 = .ok (.lreturn, 1) := by decide +kernel
theorem dX10_odds_15 : decode cX10_odds 15 = .ok (.aload_n 0, 1) := by decide +kernel
theorem dX10_odds_16 : decode cX10_odds 16 = .ok (.getfield 40, 3) := by decide +kernel
theorem dX10_odds_19 : decode cX10_odds 19 = .ok (.aload_n 0, 1) := by decide +kernel
theorem dX10_odds_20 : decode cX10_odds 20 = .ok (.getfield 16, 3) := by decide +kernel
theorem dX10_odds_23 : decode cX10_odds 23 = .ok (.iload_n 1, 1) := by decide +kernel
theorem dX10_odds_24 : decode cX10_odds 24 = .ok (.aload_n 0, 1) := by decide +kernel
theorem dX10_odds_25 : decode cX10_odds 25 = .ok (.getfield 68, 3) := by decide +kernel
theorem dX10_odds_28 : decode cX10_odds 28 = .ok (.invokevirtual 230, 3) := by decide +kernel
theorem dX10_odds_31 : decode cX10_odds 31 = .ok (.aload_n 0, 1) := by decide +kernel
theorem dX10_odds_32 : decode cX10_odds 32 = .ok (.iload_n 2, 1) := by decide +kernel
theorem dX10_odds_33 : decode cX10_odds 33 = .ok (.invokevirtual 234, 3) := by decide +kernel
theorem dX10_odds_36 : decode cX10_odds 36 = .ok (.lreturn, 1) := by decide +kernel
theorem dX10_mean_0 : decode cX10_mean 0 = .ok (.aload_n 0, 1) := by decide +kernel
theorem dX10_mean_1 : decode cX10_mean 1 = .ok (.iload_n 1, 1) := by decide +kernel
theorem dX10_mean_2 : decode cX10_mean 2 = .ok (.invokevirtual 221, 3) := by decide +kernel
theorem dX10_mean_5 : decode cX10_mean 5 = .ok (.ifCond .ne 10, 3) := by decide +kernel
theorem dX10_mean_8 : decode cX10_mean 8 = .ok (.aload_n 0, 1) := by decide +kernel
theorem dX10_mean_9 : decode cX10_mean 9 = .ok (.iconst 1, 1) := by decide +kernel
theorem dX10_mean_10 : decode cX10_mean 10 = .ok (.invokevirtual 80, 3) := by decide +kernel
theorem dX10_mean_13 : decode cX10_mean 13 = .ok (.i2l, 1) := by decide +kernel
theorem dX10_mean_14 : decode cX10_mean 14 = .ok (.lreturn, 1) := by decide +kernel
theorem dX10_mean_15 : decode cX10_mean 15 = .ok (.aload_n 0, 1) := by decide +kernel
theorem dX10_mean_16 : decode cX10_mean 16 = .ok (.getfield 40, 3) := by decide +kernel
theorem dX10_mean_19 : decode cX10_mean 19 = .ok (.aload_n 0, 1) := by decide +kernel
theorem dX10_mean_20 : decode cX10_mean 20 = .ok (.getfield 16, 3) := by decide +kernel
theorem dX10_mean_23 : decode cX10_mean 23 = .ok (.iload_n 1, 1) := by decide +kernel
theorem dX10_mean_24 : decode cX10_mean 24 = .ok (.aload_n 0, 1) := by decide +kernel
theorem dX10_mean_25 : decode cX10_mean 25 = .ok (.getfield 68, 3) := by decide +kernel
theorem dX10_mean_28 : decode cX10_mean 28 = .ok (.invokevirtual 238, 3) := by decide +kernel
theorem dX10_mean_31 : decode cX10_mean 31 = .ok (.aload_n 0, 1) := by decide +kernel
theorem dX10_mean_32 : decode cX10_mean 32 = .ok (.iload_n 2, 1) := by decide +kernel
theorem dX10_mean_33 : decode cX10_mean 33 = .ok (.invokevirtual 234, 3) := by decide +kernel
theorem dX10_mean_36 : decode cX10_mean 36 = .ok (.lreturn, 1) := by decide +kernel
theorem dX10_bestRule_0 : decode cX10_bestRule 0 = .ok (.aload_n 0, 1) := by decide +kernel
theorem dX10_bestRule_1 : decode cX10_bestRule 1 = .ok (.getfield 16, 3) := by decide +kernel
theorem dX10_bestRule_4 : decode cX10_bestRule 4 = .ok (.invokevirtual 168, 3) := by decide +kernel
theorem dX10_bestRule_7 : decode cX10_bestRule 7 = .ok (.ifCond .ne 9, 3) := by decide +kernel
theorem dX10_bestRule_10 : decode cX10_bestRule 10 = .ok (.aload_n 0, 1) := by decide +kernel
theorem dX10_bestRule_11 : decode cX10_bestRule 11 = .ok (.iconst 1, 1) := by decide +kernel
theorem dX10_bestRule_12 : decode cX10_bestRule 12 = .ok (.invokevirtual 80, 3) := by decide +kernel
theorem dX10_bestRule_15 : decode cX10_bestRule 15 = .ok (.ireturn, 1) := by decide +kernel
theorem dX10_bestRule_16 : decode cX10_bestRule 16 = .ok (.aload_n 0, 1) := by decide +kernel
theorem dX10_bestRule_17 : decode cX10_bestRule 17 = .ok (.aload_n 0, 1) := by decide +kernel
theorem dX10_bestRule_18 : decode cX10_bestRule 18 = .ok (.getfield 40, 3) := by decide +kernel
theorem dX10_bestRule_21 : decode cX10_bestRule 21 = .ok (.aload_n 0, 1) := by decide +kernel
theorem dX10_bestRule_22 : decode cX10_bestRule 22 = .ok (.getfield 16, 3) := by decide +kernel
theorem dX10_bestRule_25 : decode cX10_bestRule 25 = .ok (.invokevirtual 241, 3) := by decide +kernel
theorem dX10_bestRule_28 : decode cX10_bestRule 28 = .ok (.invokevirtual 106, 3) := by decide +kernel
theorem dX10_bestRule_31 : decode cX10_bestRule 31 = .ok (.ireturn, 1) := by decide +kernel
theorem dX10_bestMean_0 : decode cX10_bestMean 0 = .ok (.aload_n 0, 1) := by decide +kernel
theorem dX10_bestMean_1 : decode cX10_bestMean 1 = .ok (.getfield 16, 3) := by decide +kernel
theorem dX10_bestMean_4 : decode cX10_bestMean 4 = .ok (.invokevirtual 168, 3) := by decide +kernel
theorem dX10_bestMean_7 : decode cX10_bestMean 7 = .ok (.ifCond .ne 10, 3) := by decide +kernel
theorem dX10_bestMean_10 : decode cX10_bestMean 10 = .ok (.aload_n 0, 1) := by decide +kernel
theorem dX10_bestMean_11 : decode cX10_bestMean 11 = .ok (.iconst 1, 1) := by decide +kernel
theorem dX10_bestMean_12 : decode cX10_bestMean 12 = .ok (.invokevirtual 80, 3) := by decide +kernel
theorem dX10_bestMean_15 : decode cX10_bestMean 15 = .ok (.i2l, 1) := by decide +kernel
theorem dX10_bestMean_16 : decode cX10_bestMean 16 = .ok (.lreturn, 1) := by decide +kernel
theorem dX10_bestMean_17 : decode cX10_bestMean 17 = .ok (.aload_n 0, 1) := by decide +kernel
theorem dX10_bestMean_18 : decode cX10_bestMean 18 = .ok (.getfield 40, 3) := by decide +kernel
theorem dX10_bestMean_21 : decode cX10_bestMean 21 = .ok (.aload_n 0, 1) := by decide +kernel
theorem dX10_bestMean_22 : decode cX10_bestMean 22 = .ok (.getfield 16, 3) := by decide +kernel
theorem dX10_bestMean_25 : decode cX10_bestMean 25 = .ok (.iconst 4, 1) := by decide +kernel
theorem dX10_bestMean_26 : decode cX10_bestMean 26 = .ok (.aload_n 0, 1) := by decide +kernel
theorem dX10_bestMean_27 : decode cX10_bestMean 27 = .ok (.getfield 68, 3) := by decide +kernel
theorem dX10_bestMean_30 : decode cX10_bestMean 30 = .ok (.invokevirtual 238, 3) := by decide +kernel
theorem dX10_bestMean_33 : decode cX10_bestMean 33 = .ok (.aload_n 0, 1) := by decide +kernel
theorem dX10_bestMean_34 : decode cX10_bestMean 34 = .ok (.iload_n 1, 1) := by decide +kernel
theorem dX10_bestMean_35 : decode cX10_bestMean 35 = .ok (.invokevirtual 234, 3) := by decide +kernel
theorem dX10_bestMean_38 : decode cX10_bestMean 38 = .ok (.lreturn, 1) := by decide +kernel
theorem dX10_buy_0 : decode cX10_buy 0 = .ok (.aload_n 0, 1) := by decide +kernel
theorem dX10_buy_1 : decode cX10_buy 1 = .ok (.iload_n 1, 1) := by decide +kernel
theorem dX10_buy_2 : decode cX10_buy 2 = .ok (.iload_n 2, 1) := by decide +kernel
theorem dX10_buy_3 : decode cX10_buy 3 = .ok (.iload_n 3, 1) := by decide +kernel
theorem dX10_buy_4 : decode cX10_buy 4 = .ok (.invokevirtual 209, 3) := by decide +kernel
theorem dX10_buy_7 : decode cX10_buy 7 = .ok (.istore 4, 2) := by decide +kernel
theorem dX10_buy_9 : decode cX10_buy 9 = .ok (.iload 4, 2) := by decide +kernel
theorem dX10_buy_11 : decode cX10_buy 11 = .ok (.ifCond .eq 10, 3) := by decide +kernel
theorem dX10_buy_14 : decode cX10_buy 14 = .ok (.aload_n 0, 1) := by decide +kernel
theorem dX10_buy_15 : decode cX10_buy 15 = .ok (.iload 4, 2) := by decide +kernel
theorem dX10_buy_17 : decode cX10_buy 17 = .ok (.invokevirtual 80, 3) := by decide +kernel
theorem dX10_buy_20 : decode cX10_buy 20 = .ok (.ireturn, 1) := by decide +kernel
theorem dX10_buy_21 : decode cX10_buy 21 = .ok (.aload_n 0, 1) := by decide +kernel
theorem dX10_buy_22 : decode cX10_buy 22 = .ok (.aload_n 0, 1) := by decide +kernel
theorem dX10_buy_23 : decode cX10_buy 23 = .ok (.getfield 40, 3) := by decide +kernel
theorem dX10_buy_26 : decode cX10_buy 26 = .ok (.aload_n 0, 1) := by decide +kernel
theorem dX10_buy_27 : decode cX10_buy 27 = .ok (.getfield 16, 3) := by decide +kernel
theorem dX10_buy_30 : decode cX10_buy 30 = .ok (.iload_n 1, 1) := by decide +kernel
theorem dX10_buy_31 : decode cX10_buy 31 = .ok (.iload_n 2, 1) := by decide +kernel
theorem dX10_buy_32 : decode cX10_buy 32 = .ok (.aload_n 0, 1) := by decide +kernel
theorem dX10_buy_33 : decode cX10_buy 33 = .ok (.getfield 16, 3) := by decide +kernel
theorem dX10_buy_36 : decode cX10_buy 36 = .ok (.iload_n 1, 1) := by decide +kernel
theorem dX10_buy_37 : decode cX10_buy 37 = .ok (.iload_n 3, 1) := by decide +kernel
theorem dX10_buy_38 : decode cX10_buy 38 = .ok (.invokevirtual 213, 3) := by decide +kernel
theorem dX10_buy_41 : decode cX10_buy 41 = .ok (.invokevirtual 244, 3) := by decide +kernel
theorem dX10_buy_44 : decode cX10_buy 44 = .ok (.invokevirtual 106, 3) := by decide +kernel
theorem dX10_buy_47 : decode cX10_buy 47 = .ok (.ireturn, 1) := by decide +kernel
theorem dX10_sure_0 : decode cX10_sure 0 = .ok (.aload_n 0, 1) := by decide +kernel
theorem dX10_sure_1 : decode cX10_sure 1 = .ok (.getfield 16, 3) := by decide +kernel
theorem dX10_sure_4 : decode cX10_sure 4 = .ok (.invokevirtual 168, 3) := by decide +kernel
theorem dX10_sure_7 : decode cX10_sure 7 = .ok (.ifCond .ne 10, 3) := by decide +kernel
theorem dX10_sure_10 : decode cX10_sure 10 = .ok (.aload_n 0, 1) := by decide +kernel
theorem dX10_sure_11 : decode cX10_sure 11 = .ok (.iconst 1, 1) := by decide +kernel
theorem dX10_sure_12 : decode cX10_sure 12 = .ok (.invokevirtual 80, 3) := by decide +kernel
theorem dX10_sure_15 : decode cX10_sure 15 = .ok (.i2l, 1) := by decide +kernel
theorem dX10_sure_16 : decode cX10_sure 16 = .ok (.lreturn, 1) := by decide +kernel
theorem dX10_sure_17 : decode cX10_sure 17 = .ok (.aload_n 0, 1) := by decide +kernel
theorem dX10_sure_18 : decode cX10_sure 18 = .ok (.getfield 40, 3) := by decide +kernel
theorem dX10_sure_21 : decode cX10_sure 21 = .ok (.aload_n 0, 1) := by decide +kernel
theorem dX10_sure_22 : decode cX10_sure 22 = .ok (.getfield 16, 3) := by decide +kernel
theorem dX10_sure_25 : decode cX10_sure 25 = .ok (.iconst 0, 1) := by decide +kernel
theorem dX10_sure_26 : decode cX10_sure 26 = .ok (.aload_n 0, 1) := by decide +kernel
theorem dX10_sure_27 : decode cX10_sure 27 = .ok (.getfield 68, 3) := by decide +kernel
theorem dX10_sure_30 : decode cX10_sure 30 = .ok (.invokevirtual 230, 3) := by decide +kernel
theorem dX10_sure_33 : decode cX10_sure 33 = .ok (.aload_n 0, 1) := by decide +kernel
theorem dX10_sure_34 : decode cX10_sure 34 = .ok (.iload_n 1, 1) := by decide +kernel
theorem dX10_sure_35 : decode cX10_sure 35 = .ok (.invokevirtual 234, 3) := by decide +kernel
theorem dX10_sure_38 : decode cX10_sure 38 = .ok (.lreturn, 1) := by decide +kernel
theorem dX10_net_0 : decode cX10_net 0 = .ok (.aload_n 0, 1) := by decide +kernel
theorem dX10_net_1 : decode cX10_net 1 = .ok (.getfield 16, 3) := by decide +kernel
theorem dX10_net_4 : decode cX10_net 4 = .ok (.invokevirtual 168, 3) := by decide +kernel
theorem dX10_net_7 : decode cX10_net 7 = .ok (.ifCond .ne 9, 3) := by decide +kernel
theorem dX10_net_10 : decode cX10_net 10 = .ok (.aload_n 0, 1) := by decide +kernel
theorem dX10_net_11 : decode cX10_net 11 = .ok (.iconst 1, 1) := by decide +kernel
theorem dX10_net_12 : decode cX10_net 12 = .ok (.invokevirtual 80, 3) := by decide +kernel
theorem dX10_net_15 : decode cX10_net 15 = .ok (.ireturn, 1) := by decide +kernel
theorem dX10_net_16 : decode cX10_net 16 = .ok (.aload_n 0, 1) := by decide +kernel
theorem dX10_net_17 : decode cX10_net 17 = .ok (.aload_n 0, 1) := by decide +kernel
theorem dX10_net_18 : decode cX10_net 18 = .ok (.getfield 47, 3) := by decide +kernel
theorem dX10_net_21 : decode cX10_net 21 = .ok (.aload_n 0, 1) := by decide +kernel
theorem dX10_net_22 : decode cX10_net 22 = .ok (.getfield 16, 3) := by decide +kernel
theorem dX10_net_25 : decode cX10_net 25 = .ok (.iload_n 1, 1) := by decide +kernel
theorem dX10_net_26 : decode cX10_net 26 = .ok (.invokevirtual 248, 3) := by decide +kernel
theorem dX10_net_29 : decode cX10_net 29 = .ok (.invokevirtual 106, 3) := by decide +kernel
theorem dX10_net_32 : decode cX10_net 32 = .ok (.ireturn, 1) := by decide +kernel
theorem dX10_most_0 : decode cX10_most 0 = .ok (.aload_n 0, 1) := by decide +kernel
theorem dX10_most_1 : decode cX10_most 1 = .ok (.getfield 16, 3) := by decide +kernel
theorem dX10_most_4 : decode cX10_most 4 = .ok (.iload_n 1, 1) := by decide +kernel
theorem dX10_most_5 : decode cX10_most 5 = .ok (.invokevirtual 126, 3) := by decide +kernel
theorem dX10_most_8 : decode cX10_most 8 = .ok (.ifCond .ne 9, 3) := by decide +kernel
theorem dX10_most_11 : decode cX10_most 11 = .ok (.aload_n 0, 1) := by decide +kernel
theorem dX10_most_12 : decode cX10_most 12 = .ok (.iconst 1, 1) := by decide +kernel
theorem dX10_most_13 : decode cX10_most 13 = .ok (.invokevirtual 80, 3) := by decide +kernel
theorem dX10_most_16 : decode cX10_most 16 = .ok (.ireturn, 1) := by decide +kernel
theorem dX10_most_17 : decode cX10_most 17 = .ok (.aload_n 0, 1) := by decide +kernel
theorem dX10_most_18 : decode cX10_most 18 = .ok (.aload_n 0, 1) := by decide +kernel
theorem dX10_most_19 : decode cX10_most 19 = .ok (.getfield 47, 3) := by decide +kernel
theorem dX10_most_22 : decode cX10_most 22 = .ok (.aload_n 0, 1) := by decide +kernel
theorem dX10_most_23 : decode cX10_most 23 = .ok (.getfield 16, 3) := by decide +kernel
theorem dX10_most_26 : decode cX10_most 26 = .ok (.iload_n 1, 1) := by decide +kernel
theorem dX10_most_27 : decode cX10_most 27 = .ok (.invokevirtual 252, 3) := by decide +kernel
theorem dX10_most_30 : decode cX10_most 30 = .ok (.invokevirtual 106, 3) := by decide +kernel
theorem dX10_most_33 : decode cX10_most 33 = .ok (.ireturn, 1) := by decide +kernel
theorem dX10_near_0 : decode cX10_near 0 = .ok (.aload_n 0, 1) := by decide +kernel
theorem dX10_near_1 : decode cX10_near 1 = .ok (.iload_n 1, 1) := by decide +kernel
theorem dX10_near_2 : decode cX10_near 2 = .ok (.iload_n 2, 1) := by decide +kernel
theorem dX10_near_3 : decode cX10_near 3 = .ok (.invokevirtual 112, 3) := by decide +kernel
theorem dX10_near_6 : decode cX10_near 6 = .ok (.ifCond .ne 9, 3) := by decide +kernel
theorem dX10_near_9 : decode cX10_near 9 = .ok (.aload_n 0, 1) := by decide +kernel
theorem dX10_near_10 : decode cX10_near 10 = .ok (.iconst 1, 1) := by decide +kernel
theorem dX10_near_11 : decode cX10_near 11 = .ok (.invokevirtual 80, 3) := by decide +kernel
theorem dX10_near_14 : decode cX10_near 14 = .ok (.ireturn, 1) := by decide +kernel
theorem dX10_near_15 : decode cX10_near 15 = .ok (.aload_n 0, 1) := by decide +kernel
theorem dX10_near_16 : decode cX10_near 16 = .ok (.aload_n 0, 1) := by decide +kernel
theorem dX10_near_17 : decode cX10_near 17 = .ok (.getfield 47, 3) := by decide +kernel
theorem dX10_near_20 : decode cX10_near 20 = .ok (.aload_n 0, 1) := by decide +kernel
theorem dX10_near_21 : decode cX10_near 21 = .ok (.getfield 16, 3) := by decide +kernel
theorem dX10_near_24 : decode cX10_near 24 = .ok (.iload_n 1, 1) := by decide +kernel
theorem dX10_near_25 : decode cX10_near 25 = .ok (.iload_n 2, 1) := by decide +kernel
theorem dX10_near_26 : decode cX10_near 26 = .ok (.invokevirtual 255, 3) := by decide +kernel
theorem dX10_near_29 : decode cX10_near 29 = .ok (.invokevirtual 106, 3) := by decide +kernel
theorem dX10_near_32 : decode cX10_near 32 = .ok (.ireturn, 1) := by decide +kernel
theorem dX10_worth_0 : decode cX10_worth 0 = .ok (.aload_n 0, 1) := by decide +kernel
theorem dX10_worth_1 : decode cX10_worth 1 = .ok (.getfield 16, 3) := by decide +kernel
theorem dX10_worth_4 : decode cX10_worth 4 = .ok (.invokevirtual 168, 3) := by decide +kernel
theorem dX10_worth_7 : decode cX10_worth 7 = .ok (.ifCond .ne 9, 3) := by decide +kernel
theorem dX10_worth_10 : decode cX10_worth 10 = .ok (.aload_n 0, 1) := by decide +kernel
theorem dX10_worth_11 : decode cX10_worth 11 = .ok (.iconst 1, 1) := by decide +kernel
theorem dX10_worth_12 : decode cX10_worth 12 = .ok (.invokevirtual 80, 3) := by decide +kernel
theorem dX10_worth_15 : decode cX10_worth 15 = .ok (.ireturn, 1) := by decide +kernel
theorem dX10_worth_16 : decode cX10_worth 16 = .ok (.aload_n 0, 1) := by decide +kernel
theorem dX10_worth_17 : decode cX10_worth 17 = .ok (.getfield 33, 3) := by decide +kernel
theorem dX10_worth_20 : decode cX10_worth 20 = .ok (.aload_n 0, 1) := by decide +kernel
theorem dX10_worth_21 : decode cX10_worth 21 = .ok (.getfield 16, 3) := by decide +kernel
theorem dX10_worth_24 : decode cX10_worth 24 = .ok (.iconst (-1), 1) := by decide +kernel
theorem dX10_worth_25 : decode cX10_worth 25 = .ok (.invokevirtual 178, 3) := by decide +kernel
theorem dX10_worth_28 : decode cX10_worth 28 = .ok (.istore_n 1, 1) := by decide +kernel
theorem dX10_worth_29 : decode cX10_worth 29 = .ok (.aload_n 0, 1) := by decide +kernel
theorem dX10_worth_30 : decode cX10_worth 30 = .ok (.getfield 47, 3) := by decide +kernel
theorem dX10_worth_33 : decode cX10_worth 33 = .ok (.aload_n 0, 1) := by decide +kernel
theorem dX10_worth_34 : decode cX10_worth 34 = .ok (.getfield 16, 3) := by decide +kernel
theorem dX10_worth_37 : decode cX10_worth 37 = .ok (.iconst 0, 1) := by decide +kernel
theorem dX10_worth_38 : decode cX10_worth 38 = .ok (.invokevirtual 248, 3) := by decide +kernel
theorem dX10_worth_41 : decode cX10_worth 41 = .ok (.istore_n 2, 1) := by decide +kernel
theorem dX10_worth_42 : decode cX10_worth 42 = .ok (.aload_n 0, 1) := by decide +kernel
theorem dX10_worth_43 : decode cX10_worth 43 = .ok (.iload_n 1, 1) := by decide +kernel
theorem dX10_worth_44 : decode cX10_worth 44 = .ok (.bipush (-2), 2) := by decide +kernel
theorem dX10_worth_46 : decode cX10_worth 46 = .ok (.if_icmp .eq 9, 3) := by decide +kernel
theorem dX10_worth_49 : decode cX10_worth 49 = .ok (.iload_n 2, 1) := by decide +kernel
theorem dX10_worth_50 : decode cX10_worth 50 = .ok (.bipush (-2), 2) := by decide +kernel
theorem dX10_worth_52 : decode cX10_worth 52 = .ok (.if_icmp .ne 8, 3) := by decide +kernel
theorem dX10_worth_55 : decode cX10_worth 55 = .ok (.bipush (-2), 2) := by decide +kernel
theorem dX10_worth_57 : decode cX10_worth 57 = .ok (.goto 6, 3) := by decide +kernel
theorem dX10_worth_60 : decode cX10_worth 60 = .ok (.iload_n 1, 1) := by decide +kernel
theorem dX10_worth_61 : decode cX10_worth 61 = .ok (.iload_n 2, 1) := by decide +kernel
theorem dX10_worth_62 : decode cX10_worth 62 = .ok (.isub, 1) := by decide +kernel
theorem dX10_worth_63 : decode cX10_worth 63 = .ok (.invokevirtual 106, 3) := by decide +kernel
theorem dX10_worth_66 : decode cX10_worth 66 = .ok (.ireturn, 1) := by decide +kernel
theorem dX10_far_0 : decode cX10_far 0 = .ok (.aload_n 0, 1) := by decide +kernel
theorem dX10_far_1 : decode cX10_far 1 = .ok (.getfield 16, 3) := by decide +kernel
theorem dX10_far_4 : decode cX10_far 4 = .ok (.invokevirtual 168, 3) := by decide +kernel
theorem dX10_far_7 : decode cX10_far 7 = .ok (.ifCond .ne 10, 3) := by decide +kernel
theorem dX10_far_10 : decode cX10_far 10 = .ok (.aload_n 0, 1) := by decide +kernel
theorem dX10_far_11 : decode cX10_far 11 = .ok (.iconst 1, 1) := by decide +kernel
theorem dX10_far_12 : decode cX10_far 12 = .ok (.invokevirtual 80, 3) := by decide +kernel
theorem dX10_far_15 : decode cX10_far 15 = .ok (.i2l, 1) := by decide +kernel
theorem dX10_far_16 : decode cX10_far 16 = .ok (.lreturn, 1) := by decide +kernel
theorem dX10_far_17 : decode cX10_far 17 = .ok (.iload_n 1, 1) := by decide +kernel
theorem dX10_far_18 : decode cX10_far 18 = .ok (.iconst 1, 1) := by decide +kernel
theorem dX10_far_19 : decode cX10_far 19 = .ok (.if_icmp .lt 9, 3) := by decide +kernel
theorem dX10_far_22 : decode cX10_far 22 = .ok (.iload_n 1, 1) := by decide +kernel
theorem dX10_far_23 : decode cX10_far 23 = .ok (.bipush 12, 2) := by decide +kernel
theorem dX10_far_25 : decode cX10_far 25 = .ok (.if_icmp .le 10, 3) := by decide +kernel
theorem dX10_far_28 : decode cX10_far 28 = .ok (.aload_n 0, 1) := by decide +kernel
theorem dX10_far_29 : decode cX10_far 29 = .ok (.iconst 2, 1) := by decide +kernel
theorem dX10_far_30 : decode cX10_far 30 = .ok (.invokevirtual 80, 3) := by decide +kernel
theorem dX10_far_33 : decode cX10_far 33 = .ok (.i2l, 1) := by decide +kernel
theorem dX10_far_34 : decode cX10_far 34 = .ok (.lreturn, 1) := by decide +kernel
theorem dX10_far_35 : decode cX10_far 35 = .ok (.aload_n 0, 1) := by decide +kernel
theorem dX10_far_36 : decode cX10_far 36 = .ok (.iload_n 2, 1) := by decide +kernel
theorem dX10_far_37 : decode cX10_far 37 = .ok (.iconst 1, 1) := by decide +kernel
theorem dX10_far_38 : decode cX10_far 38 = .ok (.iload_n 1, 1) := by decide +kernel
theorem dX10_far_39 : decode cX10_far 39 = .ok (.invokevirtual 259, 3) := by decide +kernel
theorem dX10_far_42 : decode cX10_far 42 = .ok (.aload_n 0, 1) := by decide +kernel
theorem dX10_far_43 : decode cX10_far 43 = .ok (.iload_n 3, 1) := by decide +kernel
theorem dX10_far_44 : decode cX10_far 44 = .ok (.invokevirtual 234, 3) := by decide +kernel
theorem dX10_far_47 : decode cX10_far 47 = .ok (.lreturn, 1) := by decide +kernel
theorem dX10_loads_0 : decode cX10_loads 0 = .ok (.aload_n 0, 1) := by decide +kernel
theorem dX10_loads_1 : decode cX10_loads 1 = .ok (.getfield 16, 3) := by decide +kernel
theorem dX10_loads_4 : decode cX10_loads 4 = .ok (.invokevirtual 168, 3) := by decide +kernel
theorem dX10_loads_7 : decode cX10_loads 7 = .ok (.ifCond .ne 9, 3) := by decide +kernel
theorem dX10_loads_10 : decode cX10_loads 10 = .ok (.aload_n 0, 1) := by decide +kernel
theorem dX10_loads_11 : decode cX10_loads 11 = .ok (.iconst 1, 1) := by decide +kernel
theorem dX10_loads_12 : decode cX10_loads 12 = .ok (.invokevirtual 80, 3) := by decide +kernel
theorem dX10_loads_15 : decode cX10_loads 15 = .ok (.ireturn, 1) := by decide +kernel
theorem dX10_loads_16 : decode cX10_loads 16 = .ok (.iload_n 1, 1) := by decide +kernel
theorem dX10_loads_17 : decode cX10_loads 17 = .ok (.ifCond .lt 10, 3) := by decide +kernel
theorem dX10_loads_20 : decode cX10_loads 20 = .ok (.iload_n 1, 1) := by decide +kernel
theorem dX10_loads_21 : decode cX10_loads 21 = .ok (.sipush 999, 3) := by decide +kernel
theorem dX10_loads_24 : decode cX10_loads 24 = .ok (.if_icmp .le 9, 3) := by decide +kernel
theorem dX10_loads_27 : decode cX10_loads 27 = .ok (.aload_n 0, 1) := by decide +kernel
theorem dX10_loads_28 : decode cX10_loads 28 = .ok (.iconst 2, 1) := by decide +kernel
theorem dX10_loads_29 : decode cX10_loads 29 = .ok (.invokevirtual 80, 3) := by decide +kernel
theorem dX10_loads_32 : decode cX10_loads 32 = .ok (.ireturn, 1) := by decide +kernel
theorem dX10_loads_33 : decode cX10_loads 33 = .ok (.aload_n 0, 1) := by decide +kernel
theorem dX10_loads_34 : decode cX10_loads 34 = .ok (.aload_n 0, 1) := by decide +kernel
theorem dX10_loads_35 : decode cX10_loads 35 = .ok (.iload_n 1, 1) := by decide +kernel
theorem dX10_loads_36 : decode cX10_loads 36 = .ok (.iload_n 2, 1) := by decide +kernel
theorem dX10_loads_37 : decode cX10_loads 37 = .ok (.invokevirtual 263, 3) := by decide +kernel
theorem dX10_loads_40 : decode cX10_loads 40 = .ok (.invokevirtual 106, 3) := by decide +kernel
theorem dX10_loads_43 : decode cX10_loads 43 = .ok (.ireturn, 1) := by decide +kernel
theorem dX10_depot_0 : decode cX10_depot 0 = .ok (.aload_n 0, 1) := by decide +kernel
theorem dX10_depot_1 : decode cX10_depot 1 = .ok (.getfield 16, 3) := by decide +kernel
theorem dX10_depot_4 : decode cX10_depot 4 = .ok (.invokevirtual 168, 3) := by decide +kernel
theorem dX10_depot_7 : decode cX10_depot 7 = .ok (.ifCond .ne 10, 3) := by decide +kernel
theorem dX10_depot_10 : decode cX10_depot 10 = .ok (.aload_n 0, 1) := by decide +kernel
theorem dX10_depot_11 : decode cX10_depot 11 = .ok (.iconst 1, 1) := by decide +kernel
theorem dX10_depot_12 : decode cX10_depot 12 = .ok (.invokevirtual 80, 3) := by decide +kernel
theorem dX10_depot_15 : decode cX10_depot 15 = .ok (.i2l, 1) := by decide +kernel
theorem dX10_depot_16 : decode cX10_depot 16 = .ok (.lreturn, 1) := by decide +kernel
theorem dX10_depot_17 : decode cX10_depot 17 = .ok (.iload_n 1, 1) := by decide +kernel
theorem dX10_depot_18 : decode cX10_depot 18 = .ok (.iconst 2, 1) := by decide +kernel
theorem dX10_depot_19 : decode cX10_depot 19 = .ok (.if_icmp .lt 9, 3) := by decide +kernel
theorem dX10_depot_22 : decode cX10_depot 22 = .ok (.iload_n 1, 1) := by decide +kernel
theorem dX10_depot_23 : decode cX10_depot 23 = .ok (.bipush 12, 2) := by decide +kernel
theorem dX10_depot_25 : decode cX10_depot 25 = .ok (.if_icmp .le 10, 3) := by decide +kernel
theorem dX10_depot_28 : decode cX10_depot 28 = .ok (.aload_n 0, 1) := by decide +kernel
theorem dX10_depot_29 : decode cX10_depot 29 = .ok (.iconst 2, 1) := by decide +kernel
theorem dX10_depot_30 : decode cX10_depot 30 = .ok (.invokevirtual 80, 3) := by decide +kernel
theorem dX10_depot_33 : decode cX10_depot 33 = .ok (.i2l, 1) := by decide +kernel
theorem dX10_depot_34 : decode cX10_depot 34 = .ok (.lreturn, 1) := by decide +kernel
theorem dX10_depot_35 : decode cX10_depot 35 = .ok (.iload_n 3, 1) := by decide +kernel
theorem dX10_depot_36 : decode cX10_depot 36 = .ok (.iconst 1, 1) := by decide +kernel
theorem dX10_depot_37 : decode cX10_depot 37 = .ok (.if_icmp .lt 8, 3) := by decide +kernel
theorem dX10_depot_40 : decode cX10_depot 40 = .ok (.iload_n 3, 1) := by decide +kernel
theorem dX10_depot_41 : decode cX10_depot 41 = .ok (.iload_n 1, 1) := by decide +kernel
theorem dX10_depot_42 : decode cX10_depot 42 = .ok (.if_icmp .lt 10, 3) := by decide +kernel
theorem dX10_depot_45 : decode cX10_depot 45 = .ok (.aload_n 0, 1) := by decide +kernel
theorem dX10_depot_46 : decode cX10_depot 46 = .ok (.iconst 1, 1) := by decide +kernel
theorem dX10_depot_47 : decode cX10_depot 47 = .ok (.invokevirtual 80, 3) := by decide +kernel
theorem dX10_depot_50 : decode cX10_depot 50 = .ok (.i2l, 1) := by decide +kernel
theorem dX10_depot_51 : decode cX10_depot 51 = .ok (.lreturn, 1) := by decide +kernel
theorem dX10_depot_52 : decode cX10_depot 52 = .ok (.aload_n 0, 1) := by decide +kernel
theorem dX10_depot_53 : decode cX10_depot 53 = .ok (.iload_n 2, 1) := by decide +kernel
theorem dX10_depot_54 : decode cX10_depot 54 = .ok (.iload_n 1, 1) := by decide +kernel
theorem dX10_depot_55 : decode cX10_depot 55 = .ok (.iload_n 3, 1) := by decide +kernel
theorem dX10_depot_56 : decode cX10_depot 56 = .ok (.isub, 1) := by decide +kernel
theorem dX10_depot_57 : decode cX10_depot 57 = .ok (.iconst 1, 1) := by decide +kernel
theorem dX10_depot_58 : decode cX10_depot 58 = .ok (.iadd, 1) := by decide +kernel
theorem dX10_depot_59 : decode cX10_depot 59 = .ok (.iload_n 1, 1) := by decide +kernel
theorem dX10_depot_60 : decode cX10_depot 60 = .ok (.invokevirtual 259, 3) := by decide +kernel
theorem dX10_depot_63 : decode cX10_depot 63 = .ok (.aload_n 0, 1) := by decide +kernel
theorem dX10_depot_64 : decode cX10_depot 64 = .ok (.iload 4, 2) := by decide +kernel
theorem dX10_depot_66 : decode cX10_depot 66 = .ok (.invokevirtual 234, 3) := by decide +kernel
theorem dX10_depot_69 : decode cX10_depot 69 = .ok (.lreturn, 1) := by decide +kernel
theorem dX10_convoy_0 : decode cX10_convoy 0 = .ok (.aload_n 0, 1) := by decide +kernel
theorem dX10_convoy_1 : decode cX10_convoy 1 = .ok (.getfield 16, 3) := by decide +kernel
theorem dX10_convoy_4 : decode cX10_convoy 4 = .ok (.invokevirtual 168, 3) := by decide +kernel
theorem dX10_convoy_7 : decode cX10_convoy 7 = .ok (.ifCond .ne 10, 3) := by decide +kernel
theorem dX10_convoy_10 : decode cX10_convoy 10 = .ok (.aload_n 0, 1) := by decide +kernel
theorem dX10_convoy_11 : decode cX10_convoy 11 = .ok (.iconst 1, 1) := by decide +kernel
theorem dX10_convoy_12 : decode cX10_convoy 12 = .ok (.invokevirtual 80, 3) := by decide +kernel
theorem dX10_convoy_15 : decode cX10_convoy 15 = .ok (.i2l, 1) := by decide +kernel
theorem dX10_convoy_16 : decode cX10_convoy 16 = .ok (.lreturn, 1) := by decide +kernel
theorem dX10_convoy_17 : decode cX10_convoy 17 = .ok (.iload_n 1, 1) := by decide +kernel
theorem dX10_convoy_18 : decode cX10_convoy 18 = .ok (.iconst 1, 1) := by decide +kernel
theorem dX10_convoy_19 : decode cX10_convoy 19 = .ok (.if_icmp .lt 9, 3) := by decide +kernel
theorem dX10_convoy_22 : decode cX10_convoy 22 = .ok (.iload_n 1, 1) := by decide +kernel
theorem dX10_convoy_23 : decode cX10_convoy 23 = .ok (.bipush 12, 2) := by decide +kernel
theorem dX10_convoy_25 : decode cX10_convoy 25 = .ok (.if_icmp .le 10, 3) := by decide +kernel
theorem dX10_convoy_28 : decode cX10_convoy 28 = .ok (.aload_n 0, 1) := by decide +kernel
theorem dX10_convoy_29 : decode cX10_convoy 29 = .ok (.iconst 2, 1) := by decide +kernel
theorem dX10_convoy_30 : decode cX10_convoy 30 = .ok (.invokevirtual 80, 3) := by decide +kernel
theorem dX10_convoy_33 : decode cX10_convoy 33 = .ok (.i2l, 1) := by decide +kernel
theorem dX10_convoy_34 : decode cX10_convoy 34 = .ok (.lreturn, 1) := by decide +kernel
theorem dX10_convoy_35 : decode cX10_convoy 35 = .ok (.aload_n 0, 1) := by decide +kernel
theorem dX10_convoy_36 : decode cX10_convoy 36 = .ok (.getfield 68, 3) := by decide +kernel
theorem dX10_convoy_39 : decode cX10_convoy 39 = .ok (.lconst 0, 1) := by decide +kernel
theorem dX10_convoy_40 : decode cX10_convoy 40 = .ok (.lconst 1, 1) := by decide +kernel
theorem dX10_convoy_41 : decode cX10_convoy 41 = .ok (.invokevirtual 266, 3) := by decide +kernel
theorem dX10_convoy_44 : decode cX10_convoy 44 = .ok (.iconst 1, 1) := by decide +kernel
theorem dX10_convoy_45 : decode cX10_convoy 45 = .ok (.istore_n 3, 1) := by decide +kernel
theorem dX10_convoy_46 : decode cX10_convoy 46 = .ok (.iload_n 3, 1) := by decide +kernel
theorem dX10_convoy_47 : decode cX10_convoy 47 = .ok (.iload_n 1, 1) := by decide +kernel
theorem dX10_convoy_48 : decode cX10_convoy 48 = .ok (.if_icmp .gt 26, 3) := by decide +kernel
theorem dX10_convoy_51 : decode cX10_convoy 51 = .ok (.aload_n 0, 1) := by decide +kernel
theorem dX10_convoy_52 : decode cX10_convoy 52 = .ok (.getfield 68, 3) := by decide +kernel
theorem dX10_convoy_55 : decode cX10_convoy 55 = .ok (.aload_n 0, 1) := by decide +kernel
theorem dX10_convoy_56 : decode cX10_convoy 56 = .ok (.getfield 16, 3) := by decide +kernel
theorem dX10_convoy_59 : decode cX10_convoy 59 = .ok (.getfield 270, 3) := by decide +kernel
theorem dX10_convoy_62 : decode cX10_convoy 62 = .ok (.i2l, 1) := by decide +kernel
theorem dX10_convoy_63 : decode cX10_convoy 63 = .ok (.iload_n 3, 1) := by decide +kernel
theorem dX10_convoy_64 : decode cX10_convoy 64 = .ok (.i2l, 1) := by decide +kernel
theorem dX10_convoy_65 : decode cX10_convoy 65 = .ok (.invokevirtual 273, 3) := by decide +kernel
theorem dX10_convoy_68 : decode cX10_convoy 68 = .ok (.iinc 3 1, 3) := by decide +kernel
theorem dX10_convoy_71 : decode cX10_convoy 71 = .ok (.goto (-25), 3) := by decide +kernel
theorem dX10_convoy_74 : decode cX10_convoy 74 = .ok (.aload_n 0, 1) := by decide +kernel
theorem dX10_convoy_75 : decode cX10_convoy 75 = .ok (.iload_n 2, 1) := by decide +kernel
theorem dX10_convoy_76 : decode cX10_convoy 76 = .ok (.invokevirtual 234, 3) := by decide +kernel
theorem dX10_convoy_79 : decode cX10_convoy 79 = .ok (.lreturn, 1) := by decide +kernel
theorem dX10_fits_0 : decode cX10_fits 0 = .ok (.aload_n 0, 1) := by decide +kernel
theorem dX10_fits_1 : decode cX10_fits 1 = .ok (.getfield 16, 3) := by decide +kernel
theorem dX10_fits_4 : decode cX10_fits 4 = .ok (.invokevirtual 168, 3) := by decide +kernel
theorem dX10_fits_7 : decode cX10_fits 7 = .ok (.ifCond .ne 9, 3) := by decide +kernel
theorem dX10_fits_10 : decode cX10_fits 10 = .ok (.aload_n 0, 1) := by decide +kernel
theorem dX10_fits_11 : decode cX10_fits 11 = .ok (.iconst 1, 1) := by decide +kernel
theorem dX10_fits_12 : decode cX10_fits 12 = .ok (.invokevirtual 80, 3) := by decide +kernel
theorem dX10_fits_15 : decode cX10_fits 15 = .ok (.ireturn, 1) := by decide +kernel
theorem dX10_fits_16 : decode cX10_fits 16 = .ok (.aload_n 0, 1) := by decide +kernel
theorem dX10_fits_17 : decode cX10_fits 17 = .ok (.getfield 54, 3) := by decide +kernel
theorem dX10_fits_20 : decode cX10_fits 20 = .ok (.aload_n 0, 1) := by decide +kernel
theorem dX10_fits_21 : decode cX10_fits 21 = .ok (.getfield 16, 3) := by decide +kernel
theorem dX10_fits_24 : decode cX10_fits 24 = .ok (.iconst (-1), 1) := by decide +kernel
theorem dX10_fits_25 : decode cX10_fits 25 = .ok (.invokevirtual 276, 3) := by decide +kernel
theorem dX10_fits_28 : decode cX10_fits 28 = .ok (.aload_n 0, 1) := by decide +kernel
theorem dX10_fits_29 : decode cX10_fits 29 = .ok (.aload_n 0, 1) := by decide +kernel
theorem dX10_fits_30 : decode cX10_fits 30 = .ok (.getfield 54, 3) := by decide +kernel
theorem dX10_fits_33 : decode cX10_fits 33 = .ok (.getfield 280, 3) := by decide +kernel
theorem dX10_fits_36 : decode cX10_fits 36 = .ok (.invokevirtual 106, 3) := by decide +kernel
theorem dX10_fits_39 : decode cX10_fits 39 = .ok (.ireturn, 1) := by decide +kernel
theorem dX10_fit_0 : decode cX10_fit 0 = .ok (.aload_n 0, 1) := by decide +kernel
theorem dX10_fit_1 : decode cX10_fit 1 = .ok (.getfield 16, 3) := by decide +kernel
theorem dX10_fit_4 : decode cX10_fit 4 = .ok (.invokevirtual 168, 3) := by decide +kernel
theorem dX10_fit_7 : decode cX10_fit 7 = .ok (.ifCond .eq 7, 3) := by decide +kernel
theorem dX10_fit_10 : decode cX10_fit 10 = .ok (.iload_n 1, 1) := by decide +kernel
theorem dX10_fit_11 : decode cX10_fit 11 = .ok (.ifCond .ge 9, 3) := by decide +kernel
theorem dX10_fit_14 : decode cX10_fit 14 = .ok (.aload_n 0, 1) := by decide +kernel
theorem dX10_fit_15 : decode cX10_fit 15 = .ok (.iconst 1, 1) := by decide +kernel
theorem dX10_fit_16 : decode cX10_fit 16 = .ok (.invokevirtual 80, 3) := by decide +kernel
theorem dX10_fit_19 : decode cX10_fit 19 = .ok (.ireturn, 1) := by decide +kernel
theorem dX10_fit_20 : decode cX10_fit 20 = .ok (.aload_n 0, 1) := by decide +kernel
theorem dX10_fit_21 : decode cX10_fit 21 = .ok (.getfield 54, 3) := by decide +kernel
theorem dX10_fit_24 : decode cX10_fit 24 = .ok (.aload_n 0, 1) := by decide +kernel
theorem dX10_fit_25 : decode cX10_fit 25 = .ok (.getfield 16, 3) := by decide +kernel
theorem dX10_fit_28 : decode cX10_fit 28 = .ok (.iload_n 1, 1) := by decide +kernel
theorem dX10_fit_29 : decode cX10_fit 29 = .ok (.invokevirtual 276, 3) := by decide +kernel
theorem dX10_fit_32 : decode cX10_fit 32 = .ok (.iload_n 1, 1) := by decide +kernel
theorem dX10_fit_33 : decode cX10_fit 33 = .ok (.aload_n 0, 1) := by decide +kernel
theorem dX10_fit_34 : decode cX10_fit 34 = .ok (.getfield 54, 3) := by decide +kernel
theorem dX10_fit_37 : decode cX10_fit 37 = .ok (.getfield 280, 3) := by decide +kernel
theorem dX10_fit_40 : decode cX10_fit 40 = .ok (.if_icmp .ge 18, 3) := by decide +kernel
theorem dX10_fit_43 : decode cX10_fit 43 = .ok (.iload_n 2, 1) := by decide +kernel
theorem dX10_fit_44 : decode cX10_fit 44 = .ok (.ifCond .lt 14, 3) := by decide +kernel
theorem dX10_fit_47 : decode cX10_fit 47 = .ok (.iload_n 2, 1) := by decide +kernel
theorem dX10_fit_48 : decode cX10_fit 48 = .ok (.aload_n 0, 1) := by decide +kernel
theorem dX10_fit_49 : decode cX10_fit 49 = .ok (.getfield 54, 3) := by decide +kernel
theorem dX10_fit_52 : decode cX10_fit 52 = .ok (.getfield 283, 3) := by decide +kernel
theorem dX10_fit_55 : decode cX10_fit 55 = .ok (.if_icmp .lt 9, 3) := by decide +kernel
theorem dX10_fit_58 : decode cX10_fit 58 = .ok (.aload_n 0, 1) := by decide +kernel
theorem dX10_fit_59 : decode cX10_fit 59 = .ok (.iconst 1, 1) := by decide +kernel
theorem dX10_fit_60 : decode cX10_fit 60 = .ok (.invokevirtual 80, 3) := by decide +kernel
theorem dX10_fit_63 : decode cX10_fit 63 = .ok (.ireturn, 1) := by decide +kernel
theorem dX10_fit_64 : decode cX10_fit 64 = .ok (.aload_n 0, 1) := by decide +kernel
theorem dX10_fit_65 : decode cX10_fit 65 = .ok (.aload_n 0, 1) := by decide +kernel
theorem dX10_fit_66 : decode cX10_fit 66 = .ok (.getfield 54, 3) := by decide +kernel
theorem dX10_fit_69 : decode cX10_fit 69 = .ok (.getfield 286, 3) := by decide +kernel
theorem dX10_fit_72 : decode cX10_fit 72 = .ok (.iload_n 2, 1) := by decide +kernel
theorem dX10_fit_73 : decode cX10_fit 73 = .ok (.iaload, 1) := by decide +kernel
theorem dX10_fit_74 : decode cX10_fit 74 = .ok (.invokevirtual 106, 3) := by decide +kernel
theorem dX10_fit_77 : decode cX10_fit 77 = .ok (.ireturn, 1) := by decide +kernel
theorem dX10_went_0 : decode cX10_went 0 = .ok (.aload_n 0, 1) := by decide +kernel
theorem dX10_went_1 : decode cX10_went 1 = .ok (.getfield 16, 3) := by decide +kernel
theorem dX10_went_4 : decode cX10_went 4 = .ok (.invokevirtual 168, 3) := by decide +kernel
theorem dX10_went_7 : decode cX10_went 7 = .ok (.ifCond .ne 9, 3) := by decide +kernel
theorem dX10_went_10 : decode cX10_went 10 = .ok (.aload_n 0, 1) := by decide +kernel
theorem dX10_went_11 : decode cX10_went 11 = .ok (.iconst 1, 1) := by decide +kernel
theorem dX10_went_12 : decode cX10_went 12 = .ok (.invokevirtual 80, 3) := by decide +kernel
theorem dX10_went_15 : decode cX10_went 15 = .ok (.ireturn, 1) := by decide +kernel
theorem dX10_went_16 : decode cX10_went 16 = .ok (.aload_n 0, 1) := by decide +kernel
theorem dX10_went_17 : decode cX10_went 17 = .ok (.getfield 54, 3) := by decide +kernel
theorem dX10_went_20 : decode cX10_went 20 = .ok (.aload_n 0, 1) := by decide +kernel
theorem dX10_went_21 : decode cX10_went 21 = .ok (.getfield 16, 3) := by decide +kernel
theorem dX10_went_24 : decode cX10_went 24 = .ok (.iconst (-1), 1) := by decide +kernel
theorem dX10_went_25 : decode cX10_went 25 = .ok (.invokevirtual 276, 3) := by decide +kernel
theorem dX10_went_28 : decode cX10_went 28 = .ok (.aload_n 0, 1) := by decide +kernel
theorem dX10_went_29 : decode cX10_went 29 = .ok (.iload_n 1, 1) := by decide +kernel
theorem dX10_went_30 : decode cX10_went 30 = .ok (.ifCond .eq 13, 3) := by decide +kernel
theorem dX10_went_33 : decode cX10_went 33 = .ok (.aload_n 0, 1) := by decide +kernel
theorem dX10_went_34 : decode cX10_went 34 = .ok (.getfield 54, 3) := by decide +kernel
theorem dX10_went_37 : decode cX10_went 37 = .ok (.getfield 289, 3) := by decide +kernel
theorem dX10_went_40 : decode cX10_went 40 = .ok (.goto 10, 3) := by decide +kernel
theorem dX10_went_43 : decode cX10_went 43 = .ok (.aload_n 0, 1) := by decide +kernel
theorem dX10_went_44 : decode cX10_went 44 = .ok (.getfield 54, 3) := by decide +kernel
theorem dX10_went_47 : decode cX10_went 47 = .ok (.getfield 292, 3) := by decide +kernel
theorem dX10_went_50 : decode cX10_went 50 = .ok (.invokevirtual 106, 3) := by decide +kernel
theorem dX10_went_53 : decode cX10_went 53 = .ok (.ireturn, 1) := by decide +kernel
theorem dX10_needle_0 : decode cX10_needle 0 = .ok (.aload_n 0, 1) := by decide +kernel
theorem dX10_needle_1 : decode cX10_needle 1 = .ok (.getfield 16, 3) := by decide +kernel
theorem dX10_needle_4 : decode cX10_needle 4 = .ok (.invokevirtual 168, 3) := by decide +kernel
theorem dX10_needle_7 : decode cX10_needle 7 = .ok (.ifCond .ne 9, 3) := by decide +kernel
theorem dX10_needle_10 : decode cX10_needle 10 = .ok (.aload_n 0, 1) := by decide +kernel
theorem dX10_needle_11 : decode cX10_needle 11 = .ok (.iconst 1, 1) := by decide +kernel
theorem dX10_needle_12 : decode cX10_needle 12 = .ok (.invokevirtual 80, 3) := by decide +kernel
theorem dX10_needle_15 : decode cX10_needle 15 = .ok (.ireturn, 1) := by decide +kernel
theorem dX10_needle_16 : decode cX10_needle 16 = .ok (.aload_n 0, 1) := by decide +kernel
theorem dX10_needle_17 : decode cX10_needle 17 = .ok (.getfield 54, 3) := by decide +kernel
theorem dX10_needle_20 : decode cX10_needle 20 = .ok (.aload_n 0, 1) := by decide +kernel
theorem dX10_needle_21 : decode cX10_needle 21 = .ok (.getfield 16, 3) := by decide +kernel
theorem dX10_needle_24 : decode cX10_needle 24 = .ok (.iconst (-1), 1) := by decide +kernel
theorem dX10_needle_25 : decode cX10_needle 25 = .ok (.invokevirtual 276, 3) := by decide +kernel
theorem dX10_needle_28 : decode cX10_needle 28 = .ok (.aload_n 0, 1) := by decide +kernel
theorem dX10_needle_29 : decode cX10_needle 29 = .ok (.getfield 54, 3) := by decide +kernel
theorem dX10_needle_32 : decode cX10_needle 32 = .ok (.getfield 295, 3) := by decide +kernel
theorem dX10_needle_35 : decode cX10_needle 35 = .ok (.lstore_n 2, 1) := by decide +kernel
theorem dX10_needle_36 : decode cX10_needle 36 = .ok (.lload_n 2, 1) := by decide +kernel
theorem dX10_needle_37 : decode cX10_needle 37 = .ok (.lconst 0, 1) := by decide +kernel
theorem dX10_needle_38 : decode cX10_needle 38 = .ok (.lcmp, 1) := by decide +kernel
theorem dX10_needle_39 : decode cX10_needle 39 = .ok (.ifCond .ne 10, 3) := by decide +kernel
theorem dX10_needle_42 : decode cX10_needle 42 = .ok (.aload_n 0, 1) := by decide +kernel
theorem dX10_needle_43 : decode cX10_needle 43 = .ok (.bipush (-2), 2) := by decide +kernel
theorem dX10_needle_45 : decode cX10_needle 45 = .ok (.invokevirtual 106, 3) := by decide +kernel
theorem dX10_needle_48 : decode cX10_needle 48 = .ok (.ireturn, 1) := by decide +kernel
theorem dX10_needle_49 : decode cX10_needle 49 = .ok (.aload_n 0, 1) := by decide +kernel
theorem dX10_needle_50 : decode cX10_needle 50 = .ok (.iload_n 1, 1) := by decide +kernel
theorem dX10_needle_51 : decode cX10_needle 51 = .ok (.ifCond .eq 13, 3) := by decide +kernel
theorem dX10_needle_54 : decode cX10_needle 54 = .ok (.bipush 63, 2) := by decide +kernel
theorem dX10_needle_56 : decode cX10_needle 56 = .ok (.lload_n 2, 1) := by decide +kernel
theorem dX10_needle_57 : decode cX10_needle 57 = .ok (.invokestatic 299, 3) := by decide +kernel
theorem dX10_needle_60 : decode cX10_needle 60 = .ok (.isub, 1) := by decide +kernel
theorem dX10_needle_61 : decode cX10_needle 61 = .ok (.goto 7, 3) := by decide +kernel
theorem dX10_needle_64 : decode cX10_needle 64 = .ok (.lload_n 2, 1) := by decide +kernel
theorem dX10_needle_65 : decode cX10_needle 65 = .ok (.invokestatic 305, 3) := by decide +kernel
theorem dX10_needle_68 : decode cX10_needle 68 = .ok (.invokevirtual 106, 3) := by decide +kernel
theorem dX10_needle_71 : decode cX10_needle 71 = .ok (.ireturn, 1) := by decide +kernel
theorem dX10_run_0 : decode cX10_run 0 = .ok (.aload_n 0, 1) := by decide +kernel
theorem dX10_run_1 : decode cX10_run 1 = .ok (.iload_n 1, 1) := by decide +kernel
theorem dX10_run_2 : decode cX10_run 2 = .ok (.iload_n 2, 1) := by decide +kernel
theorem dX10_run_3 : decode cX10_run 3 = .ok (.iconst 1, 1) := by decide +kernel
theorem dX10_run_4 : decode cX10_run 4 = .ok (.invokevirtual 308, 3) := by decide +kernel
theorem dX10_run_7 : decode cX10_run 7 = .ok (.istore_n 3, 1) := by decide +kernel
theorem dX10_run_8 : decode cX10_run 8 = .ok (.iload_n 3, 1) := by decide +kernel
theorem dX10_run_9 : decode cX10_run 9 = .ok (.ifCond .eq 9, 3) := by decide +kernel
theorem dX10_run_12 : decode cX10_run 12 = .ok (.aload_n 0, 1) := by decide +kernel
theorem dX10_run_13 : decode cX10_run 13 = .ok (.iload_n 3, 1) := by decide +kernel
theorem dX10_run_14 : decode cX10_run 14 = .ok (.invokevirtual 80, 3) := by decide +kernel
theorem dX10_run_17 : decode cX10_run 17 = .ok (.ireturn, 1) := by decide +kernel
theorem dX10_run_18 : decode cX10_run 18 = .ok (.aload_n 0, 1) := by decide +kernel
theorem dX10_run_19 : decode cX10_run 19 = .ok (.aload_n 0, 1) := by decide +kernel
theorem dX10_run_20 : decode cX10_run 20 = .ok (.getfield 40, 3) := by decide +kernel
theorem dX10_run_23 : decode cX10_run 23 = .ok (.aload_n 0, 1) := by decide +kernel
theorem dX10_run_24 : decode cX10_run 24 = .ok (.getfield 16, 3) := by decide +kernel
theorem dX10_run_27 : decode cX10_run 27 = .ok (.iload_n 1, 1) := by decide +kernel
theorem dX10_run_28 : decode cX10_run 28 = .ok (.iload_n 2, 1) := by decide +kernel
theorem dX10_run_29 : decode cX10_run 29 = .ok (.invokevirtual 312, 3) := by decide +kernel
theorem dX10_run_32 : decode cX10_run 32 = .ok (.invokevirtual 106, 3) := by decide +kernel
theorem dX10_run_35 : decode cX10_run 35 = .ok (.ireturn, 1) := by decide +kernel
theorem dX10_through_0 : decode cX10_through 0 = .ok (.aload_n 0, 1) := by decide +kernel
theorem dX10_through_1 : decode cX10_through 1 = .ok (.iload_n 1, 1) := by decide +kernel
theorem dX10_through_2 : decode cX10_through 2 = .ok (.iload_n 2, 1) := by decide +kernel
theorem dX10_through_3 : decode cX10_through 3 = .ok (.iload_n 3, 1) := by decide +kernel
theorem dX10_through_4 : decode cX10_through 4 = .ok (.invokevirtual 308, 3) := by decide +kernel
theorem dX10_through_7 : decode cX10_through 7 = .ok (.istore 4, 2) := by decide +kernel
theorem dX10_through_9 : decode cX10_through 9 = .ok (.iload 4, 2) := by decide +kernel
theorem dX10_through_11 : decode cX10_through 11 = .ok (.ifCond .eq 10, 3) := by decide +kernel
theorem dX10_through_14 : decode cX10_through 14 = .ok (.aload_n 0, 1) := by decide +kernel
theorem dX10_through_15 : decode cX10_through 15 = .ok (.iload 4, 2) := by decide +kernel
theorem dX10_through_17 : decode cX10_through 17 = .ok (.invokevirtual 80, 3) := by decide +kernel
theorem dX10_through_20 : decode cX10_through 20 = .ok (.ireturn, 1) := by decide +kernel
theorem dX10_through_21 : decode cX10_through 21 = .ok (.iconst 0, 1) := by decide +kernel
theorem dX10_through_22 : decode cX10_through 22 = .ok (.istore 5, 2) := by decide +kernel
theorem dX10_through_24 : decode cX10_through 24 = .ok (.iconst 0, 1) := by decide +kernel
theorem dX10_through_25 : decode cX10_through 25 = .ok (.istore 6, 2) := by decide +kernel
theorem dX10_through_27 : decode cX10_through 27 = .ok (.iload 6, 2) := by decide +kernel
theorem dX10_through_29 : decode cX10_through 29 = .ok (.iload_n 3, 1) := by decide +kernel
theorem dX10_through_30 : decode cX10_through 30 = .ok (.if_icmp .ge 37, 3) := by decide +kernel
theorem dX10_through_33 : decode cX10_through 33 = .ok (.aload_n 0, 1) := by decide +kernel
theorem dX10_through_34 : decode cX10_through 34 = .ok (.getfield 40, 3) := by decide +kernel
theorem dX10_through_37 : decode cX10_through 37 = .ok (.aload_n 0, 1) := by decide +kernel
theorem dX10_through_38 : decode cX10_through 38 = .ok (.getfield 16, 3) := by decide +kernel
theorem dX10_through_41 : decode cX10_through 41 = .ok (.iload_n 1, 1) := by decide +kernel
theorem dX10_through_42 : decode cX10_through 42 = .ok (.iload_n 2, 1) := by decide +kernel
theorem dX10_through_43 : decode cX10_through 43 = .ok (.iload 6, 2) := by decide +kernel
theorem dX10_through_45 : decode cX10_through 45 = .ok (.iadd, 1) := by decide +kernel
theorem dX10_through_46 : decode cX10_through 46 = .ok (.ldc_w 315, 3) := by decide +kernel
theorem dX10_through_49 : decode cX10_through 49 = .ok (.irem, 1) := by decide +kernel
theorem dX10_through_50 : decode cX10_through 50 = .ok (.invokevirtual 312, 3) := by decide +kernel
theorem dX10_through_53 : decode cX10_through 53 = .ok (.bipush (-2), 2) := by decide +kernel
theorem dX10_through_55 : decode cX10_through 55 = .ok (.if_icmp .eq 6, 3) := by decide +kernel
theorem dX10_through_58 : decode cX10_through 58 = .ok (.iinc 5 1, 3) := by decide +kernel
theorem dX10_through_61 : decode cX10_through 61 = .ok (.iinc 6 1, 3) := by decide +kernel
theorem dX10_through_64 : decode cX10_through 64 = .ok (.goto (-37), 3) := by decide +kernel
theorem dX10_through_67 : decode cX10_through 67 = .ok (.aload_n 0, 1) := by decide +kernel
theorem dX10_through_68 : decode cX10_through 68 = .ok (.iload 5, 2) := by decide +kernel
theorem dX10_through_70 : decode cX10_through 70 = .ok (.invokevirtual 106, 3) := by decide +kernel
theorem dX10_through_73 : decode cX10_through 73 = .ok (.ireturn, 1) := by decide +kernel
theorem dX10_beats_0 : decode cX10_beats 0 = .ok (.iload_n 2, 1) := by decide +kernel
theorem dX10_beats_1 : decode cX10_beats 1 = .ok (.invokestatic 206, 3) := by decide +kernel
theorem dX10_beats_4 : decode cX10_beats 4 = .ok (.ifCond .eq 14, 3) := by decide +kernel
theorem dX10_beats_7 : decode cX10_beats 7 = .ok (.aload_n 0, 1) := by decide +kernel
theorem dX10_beats_8 : decode cX10_beats 8 = .ok (.iload_n 1, 1) := by decide +kernel
theorem dX10_beats_9 : decode cX10_beats 9 = .ok (.iload_n 3, 1) := by decide +kernel
theorem dX10_beats_10 : decode cX10_beats 10 = .ok (.iload 4, 2) := by decide +kernel
theorem dX10_beats_12 : decode cX10_beats 12 = .ok (.invokevirtual 308, 3) := by decide +kernel
theorem dX10_beats_15 : decode cX10_beats 15 = .ok (.goto 4, 3) := by decide +kernel
theorem dX10_beats_18 : decode cX10_beats 18 = .ok (.iconst 1, 1) := by decide +kernel
theorem dX10_beats_19 : decode cX10_beats 19 = .ok (.istore 5, 2) := by decide +kernel
theorem dX10_beats_21 : decode cX10_beats 21 = .ok (.iload 5, 2) := by decide +kernel
theorem dX10_beats_23 : decode cX10_beats 23 = .ok (.ifCond .eq 10, 3) := by decide +kernel
theorem dX10_beats_26 : decode cX10_beats 26 = .ok (.aload_n 0, 1) := by decide +kernel
theorem dX10_beats_27 : decode cX10_beats 27 = .ok (.iload 5, 2) := by decide +kernel
theorem dX10_beats_29 : decode cX10_beats 29 = .ok (.invokevirtual 80, 3) := by decide +kernel
theorem dX10_beats_32 : decode cX10_beats 32 = .ok (.ireturn, 1) := by decide +kernel
theorem dX10_beats_33 : decode cX10_beats 33 = .ok (.iconst 0, 1) := by decide +kernel
theorem dX10_beats_34 : decode cX10_beats 34 = .ok (.istore 6, 2) := by decide +kernel
theorem dX10_beats_36 : decode cX10_beats 36 = .ok (.iconst 0, 1) := by decide +kernel
theorem dX10_beats_37 : decode cX10_beats 37 = .ok (.istore 7, 2) := by decide +kernel
theorem dX10_beats_39 : decode cX10_beats 39 = .ok (.iload 7, 2) := by decide +kernel
theorem dX10_beats_41 : decode cX10_beats 41 = .ok (.iload 4, 2) := by decide +kernel
theorem dX10_beats_43 : decode cX10_beats 43 = .ok (.if_icmp .ge 77, 3) := by decide +kernel
theorem dX10_beats_46 : decode cX10_beats 46 = .ok (.aload_n 0, 1) := by decide +kernel
theorem dX10_beats_47 : decode cX10_beats 47 = .ok (.getfield 40, 3) := by decide +kernel
theorem dX10_beats_50 : decode cX10_beats 50 = .ok (.aload_n 0, 1) := by decide +kernel
theorem dX10_beats_51 : decode cX10_beats 51 = .ok (.getfield 16, 3) := by decide +kernel
theorem dX10_beats_54 : decode cX10_beats 54 = .ok (.iload_n 1, 1) := by decide +kernel
theorem dX10_beats_55 : decode cX10_beats 55 = .ok (.iload_n 3, 1) := by decide +kernel
theorem dX10_beats_56 : decode cX10_beats 56 = .ok (.iload 7, 2) := by decide +kernel
theorem dX10_beats_58 : decode cX10_beats 58 = .ok (.iadd, 1) := by decide +kernel
theorem dX10_beats_59 : decode cX10_beats 59 = .ok (.ldc_w 315, 3) := by decide +kernel
theorem dX10_beats_62 : decode cX10_beats 62 = .ok (.irem, 1) := by decide +kernel
theorem dX10_beats_63 : decode cX10_beats 63 = .ok (.invokevirtual 312, 3) := by decide +kernel
theorem dX10_beats_66 : decode cX10_beats 66 = .ok (.istore 8, 2) := by decide +kernel
theorem dX10_beats_68 : decode cX10_beats 68 = .ok (.aload_n 0, 1) := by decide +kernel
theorem dX10_beats_69 : decode cX10_beats 69 = .ok (.getfield 40, 3) := by decide +kernel
theorem dX10_beats_72 : decode cX10_beats 72 = .ok (.aload_n 0, 1) := by decide +kernel
theorem dX10_beats_73 : decode cX10_beats 73 = .ok (.getfield 16, 3) := by decide +kernel
theorem dX10_beats_76 : decode cX10_beats 76 = .ok (.iload_n 2, 1) := by decide +kernel
theorem dX10_beats_77 : decode cX10_beats 77 = .ok (.iload_n 3, 1) := by decide +kernel
theorem dX10_beats_78 : decode cX10_beats 78 = .ok (.iload 7, 2) := by decide +kernel
theorem dX10_beats_80 : decode cX10_beats 80 = .ok (.iadd, 1) := by decide +kernel
theorem dX10_beats_81 : decode cX10_beats 81 = .ok (.ldc_w 315, 3) := by decide +kernel
theorem dX10_beats_84 : decode cX10_beats 84 = .ok (.irem, 1) := by decide +kernel
theorem dX10_beats_85 : decode cX10_beats 85 = .ok (.invokevirtual 312, 3) := by decide +kernel
theorem dX10_beats_88 : decode cX10_beats 88 = .ok (.istore 9, 2) := by decide +kernel
theorem dX10_beats_90 : decode cX10_beats 90 = .ok (.iload 8, 2) := by decide +kernel
theorem dX10_beats_92 : decode cX10_beats 92 = .ok (.bipush (-2), 2) := by decide +kernel
theorem dX10_beats_94 : decode cX10_beats 94 = .ok (.if_icmp .eq 20, 3) := by decide +kernel
theorem dX10_beats_97 : decode cX10_beats 97 = .ok (.iload 9, 2) := by decide +kernel
theorem dX10_beats_99 : decode cX10_beats 99 = .ok (.bipush (-2), 2) := by decide +kernel
theorem dX10_beats_101 : decode cX10_beats 101 = .ok (.if_icmp .eq 10, 3) := by decide +kernel
theorem dX10_beats_104 : decode cX10_beats 104 = .ok (.iload 8, 2) := by decide +kernel
theorem dX10_beats_106 : decode cX10_beats 106 = .ok (.iload 9, 2) := by decide +kernel
theorem dX10_beats_108 : decode cX10_beats 108 = .ok (.if_icmp .ge 6, 3) := by decide +kernel
theorem dX10_beats_111 : decode cX10_beats 111 = .ok (.iinc 6 1, 3) := by decide +kernel
theorem dX10_beats_114 : decode cX10_beats 114 = .ok (.iinc 7 1, 3) := by decide +kernel
theorem dX10_beats_117 : decode cX10_beats 117 = .ok (.goto (-78), 3) := by decide +kernel
theorem dX10_beats_120 : decode cX10_beats 120 = .ok (.aload_n 0, 1) := by decide +kernel
theorem dX10_beats_121 : decode cX10_beats 121 = .ok (.iload 6, 2) := by decide +kernel
theorem dX10_beats_123 : decode cX10_beats 123 = .ok (.invokevirtual 106, 3) := by decide +kernel
theorem dX10_beats_126 : decode cX10_beats 126 = .ok (.ireturn, 1) := by decide +kernel
theorem dX10_car_0 : decode cX10_car 0 = .ok (.aload_n 0, 1) := by decide +kernel
theorem dX10_car_1 : decode cX10_car 1 = .ok (.getfield 16, 3) := by decide +kernel
theorem dX10_car_4 : decode cX10_car 4 = .ok (.invokevirtual 168, 3) := by decide +kernel
theorem dX10_car_7 : decode cX10_car 7 = .ok (.ifCond .eq 12, 3) := by decide +kernel
theorem dX10_car_10 : decode cX10_car 10 = .ok (.iload_n 1, 1) := by decide +kernel
theorem dX10_car_11 : decode cX10_car 11 = .ok (.ifCond .lt 8, 3) := by decide +kernel
theorem dX10_car_14 : decode cX10_car 14 = .ok (.iload_n 1, 1) := by decide +kernel
theorem dX10_car_15 : decode cX10_car 15 = .ok (.iconst 4, 1) := by decide +kernel
theorem dX10_car_16 : decode cX10_car 16 = .ok (.if_icmp .le 9, 3) := by decide +kernel
theorem dX10_car_19 : decode cX10_car 19 = .ok (.aload_n 0, 1) := by decide +kernel
theorem dX10_car_20 : decode cX10_car 20 = .ok (.iconst 1, 1) := by decide +kernel
theorem dX10_car_21 : decode cX10_car 21 = .ok (.invokevirtual 80, 3) := by decide +kernel
theorem dX10_car_24 : decode cX10_car 24 = .ok (.ireturn, 1) := by decide +kernel
theorem dX10_car_25 : decode cX10_car 25 = .ok (.aload_n 0, 1) := by decide +kernel
theorem dX10_car_26 : decode cX10_car 26 = .ok (.aload_n 0, 1) := by decide +kernel
theorem dX10_car_27 : decode cX10_car 27 = .ok (.getfield 61, 3) := by decide +kernel
theorem dX10_car_30 : decode cX10_car 30 = .ok (.getfield 316, 3) := by decide +kernel
theorem dX10_car_33 : decode cX10_car 33 = .ok (.iload_n 1, 1) := by decide +kernel
theorem dX10_car_34 : decode cX10_car 34 = .ok (.iaload, 1) := by decide +kernel
theorem dX10_car_35 : decode cX10_car 35 = .ok (.invokevirtual 106, 3) := by decide +kernel
theorem dX10_car_38 : decode cX10_car 38 = .ok (.ireturn, 1) := by decide +kernel
theorem dX10_fill_0 : decode cX10_fill 0 = .ok (.aload_n 0, 1) := by decide +kernel
theorem dX10_fill_1 : decode cX10_fill 1 = .ok (.getfield 16, 3) := by decide +kernel
theorem dX10_fill_4 : decode cX10_fill 4 = .ok (.invokevirtual 168, 3) := by decide +kernel
theorem dX10_fill_7 : decode cX10_fill 7 = .ok (.ifCond .ne 9, 3) := by decide +kernel
theorem dX10_fill_10 : decode cX10_fill 10 = .ok (.aload_n 0, 1) := by decide +kernel
theorem dX10_fill_11 : decode cX10_fill 11 = .ok (.iconst 1, 1) := by decide +kernel
theorem dX10_fill_12 : decode cX10_fill 12 = .ok (.invokevirtual 80, 3) := by decide +kernel
theorem dX10_fill_15 : decode cX10_fill 15 = .ok (.ireturn, 1) := by decide +kernel
theorem dX10_fill_16 : decode cX10_fill 16 = .ok (.aload_n 0, 1) := by decide +kernel
theorem dX10_fill_17 : decode cX10_fill 17 = .ok (.getfield 61, 3) := by decide +kernel
theorem dX10_fill_20 : decode cX10_fill 20 = .ok (.getfield 316, 3) := by decide +kernel
theorem dX10_fill_23 : decode cX10_fill 23 = .ok (.iconst 4, 1) := by decide +kernel
theorem dX10_fill_24 : decode cX10_fill 24 = .ok (.iaload, 1) := by decide +kernel
theorem dX10_fill_25 : decode cX10_fill 25 = .ok (.bipush (-2), 2) := by decide +kernel
theorem dX10_fill_27 : decode cX10_fill 27 = .ok (.if_icmp .ne 10, 3) := by decide +kernel
theorem dX10_fill_30 : decode cX10_fill 30 = .ok (.aload_n 0, 1) := by decide +kernel
theorem dX10_fill_31 : decode cX10_fill 31 = .ok (.bipush 6, 2) := by decide +kernel
theorem dX10_fill_33 : decode cX10_fill 33 = .ok (.invokevirtual 80, 3) := by decide +kernel
theorem dX10_fill_36 : decode cX10_fill 36 = .ok (.ireturn, 1) := by decide +kernel
theorem dX10_fill_37 : decode cX10_fill 37 = .ok (.iload_n 1, 1) := by decide +kernel
theorem dX10_fill_38 : decode cX10_fill 38 = .ok (.iconst 1, 1) := by decide +kernel
theorem dX10_fill_39 : decode cX10_fill 39 = .ok (.if_icmp .lt 24, 3) := by decide +kernel
theorem dX10_fill_42 : decode cX10_fill 42 = .ok (.iload_n 1, 1) := by decide +kernel
theorem dX10_fill_43 : decode cX10_fill 43 = .ok (.aload_n 0, 1) := by decide +kernel
theorem dX10_fill_44 : decode cX10_fill 44 = .ok (.getfield 16, 3) := by decide +kernel
theorem dX10_fill_47 : decode cX10_fill 47 = .ok (.getfield 270, 3) := by decide +kernel
theorem dX10_fill_50 : decode cX10_fill 50 = .ok (.aload_n 0, 1) := by decide +kernel
theorem dX10_fill_51 : decode cX10_fill 51 = .ok (.getfield 61, 3) := by decide +kernel
theorem dX10_fill_54 : decode cX10_fill 54 = .ok (.getfield 316, 3) := by decide +kernel
theorem dX10_fill_57 : decode cX10_fill 57 = .ok (.iconst 1, 1) := by decide +kernel
theorem dX10_fill_58 : decode cX10_fill 58 = .ok (.iaload, 1) := by decide +kernel
theorem dX10_fill_59 : decode cX10_fill 59 = .ok (.isub, 1) := by decide +kernel
theorem dX10_fill_60 : decode cX10_fill 60 = .ok (.if_icmp .le 9, 3) := by decide +kernel
theorem dX10_fill_63 : decode cX10_fill 63 = .ok (.aload_n 0, 1) := by decide +kernel
theorem dX10_fill_64 : decode cX10_fill 64 = .ok (.iconst 2, 1) := by decide +kernel
theorem dX10_fill_65 : decode cX10_fill 65 = .ok (.invokevirtual 80, 3) := by decide +kernel
theorem dX10_fill_68 : decode cX10_fill 68 = .ok (.ireturn, 1) := by decide +kernel
theorem dX10_fill_69 : decode cX10_fill 69 = .ok (.aload_n 0, 1) := by decide +kernel
theorem dX10_fill_70 : decode cX10_fill 70 = .ok (.getfield 61, 3) := by decide +kernel
theorem dX10_fill_73 : decode cX10_fill 73 = .ok (.aload_n 0, 1) := by decide +kernel
theorem dX10_fill_74 : decode cX10_fill 74 = .ok (.getfield 16, 3) := by decide +kernel
theorem dX10_fill_77 : decode cX10_fill 77 = .ok (.iload_n 1, 1) := by decide +kernel
theorem dX10_fill_78 : decode cX10_fill 78 = .ok (.invokevirtual 319, 3) := by decide +kernel
theorem dX10_fill_81 : decode cX10_fill 81 = .ok (.aload_n 0, 1) := by decide +kernel
theorem dX10_fill_82 : decode cX10_fill 82 = .ok (.aload_n 0, 1) := by decide +kernel
theorem dX10_fill_83 : decode cX10_fill 83 = .ok (.getfield 61, 3) := by decide +kernel
theorem dX10_fill_86 : decode cX10_fill 86 = .ok (.getfield 316, 3) := by decide +kernel
theorem dX10_fill_89 : decode cX10_fill 89 = .ok (.iconst 2, 1) := by decide +kernel
theorem dX10_fill_90 : decode cX10_fill 90 = .ok (.iaload, 1) := by decide +kernel
theorem dX10_fill_91 : decode cX10_fill 91 = .ok (.invokevirtual 106, 3) := by decide +kernel
theorem dX10_fill_94 : decode cX10_fill 94 = .ok (.ireturn, 1) := by decide +kernel
theorem dX10_drive_0 : decode cX10_drive 0 = .ok (.aload_n 0, 1) := by decide +kernel
theorem dX10_drive_1 : decode cX10_drive 1 = .ok (.getfield 61, 3) := by decide +kernel
theorem dX10_drive_4 : decode cX10_drive 4 = .ok (.getfield 316, 3) := by decide +kernel
theorem dX10_drive_7 : decode cX10_drive 7 = .ok (.iconst 0, 1) := by decide +kernel
theorem dX10_drive_8 : decode cX10_drive 8 = .ok (.iaload, 1) := by decide +kernel
theorem dX10_drive_9 : decode cX10_drive 9 = .ok (.istore_n 2, 1) := by decide +kernel
theorem dX10_drive_10 : decode cX10_drive 10 = .ok (.aload_n 0, 1) := by decide +kernel
theorem dX10_drive_11 : decode cX10_drive 11 = .ok (.iload_n 2, 1) := by decide +kernel
theorem dX10_drive_12 : decode cX10_drive 12 = .ok (.iload_n 1, 1) := by decide +kernel
theorem dX10_drive_13 : decode cX10_drive 13 = .ok (.invokevirtual 112, 3) := by decide +kernel
theorem dX10_drive_16 : decode cX10_drive 16 = .ok (.ifCond .ne 9, 3) := by decide +kernel
theorem dX10_drive_19 : decode cX10_drive 19 = .ok (.aload_n 0, 1) := by decide +kernel
theorem dX10_drive_20 : decode cX10_drive 20 = .ok (.iconst 1, 1) := by decide +kernel
theorem dX10_drive_21 : decode cX10_drive 21 = .ok (.invokevirtual 80, 3) := by decide +kernel
theorem dX10_drive_24 : decode cX10_drive 24 = .ok (.ireturn, 1) := by decide +kernel
theorem dX10_drive_25 : decode cX10_drive 25 = .ok (.aload_n 0, 1) := by decide +kernel
theorem dX10_drive_26 : decode cX10_drive 26 = .ok (.getfield 16, 3) := by decide +kernel
theorem dX10_drive_29 : decode cX10_drive 29 = .ok (.iload_n 2, 1) := by decide +kernel
theorem dX10_drive_30 : decode cX10_drive 30 = .ok (.iload_n 1, 1) := by decide +kernel
theorem dX10_drive_31 : decode cX10_drive 31 = .ok (.invokevirtual 116, 3) := by decide +kernel
theorem dX10_drive_34 : decode cX10_drive 34 = .ok (.ifCond .ne 10, 3) := by decide +kernel
theorem dX10_drive_37 : decode cX10_drive 37 = .ok (.aload_n 0, 1) := by decide +kernel
theorem dX10_drive_38 : decode cX10_drive 38 = .ok (.bipush 6, 2) := by decide +kernel
theorem dX10_drive_40 : decode cX10_drive 40 = .ok (.invokevirtual 80, 3) := by decide +kernel
theorem dX10_drive_43 : decode cX10_drive 43 = .ok (.ireturn, 1) := by decide +kernel
theorem dX10_drive_44 : decode cX10_drive 44 = .ok (.aload_n 0, 1) := by decide +kernel
theorem dX10_drive_45 : decode cX10_drive 45 = .ok (.getfield 61, 3) := by decide +kernel
theorem dX10_drive_48 : decode cX10_drive 48 = .ok (.aload_n 0, 1) := by decide +kernel
theorem dX10_drive_49 : decode cX10_drive 49 = .ok (.getfield 16, 3) := by decide +kernel
theorem dX10_drive_52 : decode cX10_drive 52 = .ok (.iload_n 1, 1) := by decide +kernel
theorem dX10_drive_53 : decode cX10_drive 53 = .ok (.invokevirtual 322, 3) := by decide +kernel
theorem dX10_drive_56 : decode cX10_drive 56 = .ok (.ifCond .ne 9, 3) := by decide +kernel
theorem dX10_drive_59 : decode cX10_drive 59 = .ok (.aload_n 0, 1) := by decide +kernel
theorem dX10_drive_60 : decode cX10_drive 60 = .ok (.iconst 5, 1) := by decide +kernel
theorem dX10_drive_61 : decode cX10_drive 61 = .ok (.invokevirtual 80, 3) := by decide +kernel
theorem dX10_drive_64 : decode cX10_drive 64 = .ok (.ireturn, 1) := by decide +kernel
theorem dX10_drive_65 : decode cX10_drive 65 = .ok (.aload_n 0, 1) := by decide +kernel
theorem dX10_drive_66 : decode cX10_drive 66 = .ok (.getfield 61, 3) := by decide +kernel
theorem dX10_drive_69 : decode cX10_drive 69 = .ok (.aload_n 0, 1) := by decide +kernel
theorem dX10_drive_70 : decode cX10_drive 70 = .ok (.getfield 16, 3) := by decide +kernel
theorem dX10_drive_73 : decode cX10_drive 73 = .ok (.iload_n 1, 1) := by decide +kernel
theorem dX10_drive_74 : decode cX10_drive 74 = .ok (.invokevirtual 326, 3) := by decide +kernel
theorem dX10_drive_77 : decode cX10_drive 77 = .ok (.aload_n 0, 1) := by decide +kernel
theorem dX10_drive_78 : decode cX10_drive 78 = .ok (.aload_n 0, 1) := by decide +kernel
theorem dX10_drive_79 : decode cX10_drive 79 = .ok (.getfield 61, 3) := by decide +kernel
theorem dX10_drive_82 : decode cX10_drive 82 = .ok (.getfield 316, 3) := by decide +kernel
theorem dX10_drive_85 : decode cX10_drive 85 = .ok (.iconst 1, 1) := by decide +kernel
theorem dX10_drive_86 : decode cX10_drive 86 = .ok (.iaload, 1) := by decide +kernel
theorem dX10_drive_87 : decode cX10_drive 87 = .ok (.invokevirtual 106, 3) := by decide +kernel
theorem dX10_drive_90 : decode cX10_drive 90 = .ok (.ireturn, 1) := by decide +kernel
theorem dX10_waits_0 : decode cX10_waits 0 = .ok (.aload_n 0, 1) := by decide +kernel
theorem dX10_waits_1 : decode cX10_waits 1 = .ok (.getfield 16, 3) := by decide +kernel
theorem dX10_waits_4 : decode cX10_waits 4 = .ok (.invokevirtual 168, 3) := by decide +kernel
theorem dX10_waits_7 : decode cX10_waits 7 = .ok (.ifCond .ne 9, 3) := by decide +kernel
theorem dX10_waits_10 : decode cX10_waits 10 = .ok (.aload_n 0, 1) := by decide +kernel
theorem dX10_waits_11 : decode cX10_waits 11 = .ok (.iconst 1, 1) := by decide +kernel
theorem dX10_waits_12 : decode cX10_waits 12 = .ok (.invokevirtual 80, 3) := by decide +kernel
theorem dX10_waits_15 : decode cX10_waits 15 = .ok (.ireturn, 1) := by decide +kernel
theorem dX10_waits_16 : decode cX10_waits 16 = .ok (.aload_n 0, 1) := by decide +kernel
theorem dX10_waits_17 : decode cX10_waits 17 = .ok (.getfield 61, 3) := by decide +kernel
theorem dX10_waits_20 : decode cX10_waits 20 = .ok (.aload_n 0, 1) := by decide +kernel
theorem dX10_waits_21 : decode cX10_waits 21 = .ok (.getfield 16, 3) := by decide +kernel
theorem dX10_waits_24 : decode cX10_waits 24 = .ok (.invokevirtual 329, 3) := by decide +kernel
theorem dX10_waits_27 : decode cX10_waits 27 = .ok (.aload_n 0, 1) := by decide +kernel
theorem dX10_waits_28 : decode cX10_waits 28 = .ok (.aload_n 0, 1) := by decide +kernel
theorem dX10_waits_29 : decode cX10_waits 29 = .ok (.getfield 61, 3) := by decide +kernel
theorem dX10_waits_32 : decode cX10_waits 32 = .ok (.getfield 316, 3) := by decide +kernel
theorem dX10_waits_35 : decode cX10_waits 35 = .ok (.iconst 4, 1) := by decide +kernel
theorem dX10_waits_36 : decode cX10_waits 36 = .ok (.iaload, 1) := by decide +kernel
theorem dX10_waits_37 : decode cX10_waits 37 = .ok (.invokevirtual 106, 3) := by decide +kernel
theorem dX10_waits_40 : decode cX10_waits 40 = .ok (.ireturn, 1) := by decide +kernel
theorem dX10_seed_0 : decode cX10_seed 0 = .ok (.aload_n 0, 1) := by decide +kernel
theorem dX10_seed_1 : decode cX10_seed 1 = .ok (.getfield 16, 3) := by decide +kernel
theorem dX10_seed_4 : decode cX10_seed 4 = .ok (.invokevirtual 168, 3) := by decide +kernel
theorem dX10_seed_7 : decode cX10_seed 7 = .ok (.ifCond .ne 9, 3) := by decide +kernel
theorem dX10_seed_10 : decode cX10_seed 10 = .ok (.aload_n 0, 1) := by decide +kernel
theorem dX10_seed_11 : decode cX10_seed 11 = .ok (.iconst 1, 1) := by decide +kernel
theorem dX10_seed_12 : decode cX10_seed 12 = .ok (.invokevirtual 158, 3) := by decide +kernel
theorem dX10_seed_15 : decode cX10_seed 15 = .ok (.ireturn, 1) := by decide +kernel
theorem dX10_seed_16 : decode cX10_seed 16 = .ok (.iload_n 1, 1) := by decide +kernel
theorem dX10_seed_17 : decode cX10_seed 17 = .ok (.invokestatic 332, 3) := by decide +kernel
theorem dX10_seed_20 : decode cX10_seed 20 = .ok (.ifCond .ne 9, 3) := by decide +kernel
theorem dX10_seed_23 : decode cX10_seed 23 = .ok (.aload_n 0, 1) := by decide +kernel
theorem dX10_seed_24 : decode cX10_seed 24 = .ok (.iconst 2, 1) := by decide +kernel
theorem dX10_seed_25 : decode cX10_seed 25 = .ok (.invokevirtual 158, 3) := by decide +kernel
theorem dX10_seed_28 : decode cX10_seed 28 = .ok (.ireturn, 1) := by decide +kernel
theorem dX10_seed_29 : decode cX10_seed 29 = .ok (.aload_n 0, 1) := by decide +kernel
theorem dX10_seed_30 : decode cX10_seed 30 = .ok (.getfield 61, 3) := by decide +kernel
theorem dX10_seed_33 : decode cX10_seed 33 = .ok (.getfield 316, 3) := by decide +kernel
theorem dX10_seed_36 : decode cX10_seed 36 = .ok (.bipush 6, 2) := by decide +kernel
theorem dX10_seed_38 : decode cX10_seed 38 = .ok (.iload_n 1, 1) := by decide +kernel
theorem dX10_seed_39 : decode cX10_seed 39 = .ok (.iastore, 1) := by decide +kernel
theorem dX10_seed_40 : decode cX10_seed 40 = .ok (.aload_n 0, 1) := by decide +kernel
theorem dX10_seed_41 : decode cX10_seed 41 = .ok (.invokevirtual 164, 3) := by decide +kernel
theorem dX10_seed_44 : decode cX10_seed 44 = .ok (.ireturn, 1) := by decide +kernel
theorem dX10_undo_0 : decode cX10_undo 0 = .ok (.aload_n 0, 1) := by decide +kernel
theorem dX10_undo_1 : decode cX10_undo 1 = .ok (.getfield 61, 3) := by decide +kernel
theorem dX10_undo_4 : decode cX10_undo 4 = .ok (.getfield 335, 3) := by decide +kernel
theorem dX10_undo_7 : decode cX10_undo 7 = .ok (.ifCond .ne 10, 3) := by decide +kernel
theorem dX10_undo_10 : decode cX10_undo 10 = .ok (.aload_n 0, 1) := by decide +kernel
theorem dX10_undo_11 : decode cX10_undo 11 = .ok (.bipush 6, 2) := by decide +kernel
theorem dX10_undo_13 : decode cX10_undo 13 = .ok (.invokevirtual 158, 3) := by decide +kernel
theorem dX10_undo_16 : decode cX10_undo 16 = .ok (.ireturn, 1) := by decide +kernel
theorem dX10_undo_17 : decode cX10_undo 17 = .ok (.aload_n 0, 1) := by decide +kernel
theorem dX10_undo_18 : decode cX10_undo 18 = .ok (.getfield 61, 3) := by decide +kernel
theorem dX10_undo_21 : decode cX10_undo 21 = .ok (.invokevirtual 338, 3) := by decide +kernel
theorem dX10_undo_24 : decode cX10_undo 24 = .ok (.aload_n 0, 1) := by decide +kernel
theorem dX10_undo_25 : decode cX10_undo 25 = .ok (.invokevirtual 164, 3) := by decide +kernel
theorem dX10_undo_28 : decode cX10_undo 28 = .ok (.ireturn, 1) := by decide +kernel
theorem dX10_image_0 : decode cX10_image 0 = .ok (.aload_n 0, 1) := by decide +kernel
theorem dX10_image_1 : decode cX10_image 1 = .ok (.getfield 16, 3) := by decide +kernel
theorem dX10_image_4 : decode cX10_image 4 = .ok (.invokevirtual 168, 3) := by decide +kernel
theorem dX10_image_7 : decode cX10_image 7 = .ok (.ifCond .ne 9, 3) := by decide +kernel
theorem dX10_image_10 : decode cX10_image 10 = .ok (.aload_n 0, 1) := by decide +kernel
theorem dX10_image_11 : decode cX10_image 11 = .ok (.iconst 1, 1) := by decide +kernel
theorem dX10_image_12 : decode cX10_image 12 = .ok (.invokevirtual 80, 3) := by decide +kernel
theorem dX10_image_15 : decode cX10_image 15 = .ok (.ireturn, 1) := by decide +kernel
theorem dX10_image_16 : decode cX10_image 16 = .ok (.aload_n 0, 1) := by decide +kernel
theorem dX10_image_17 : decode cX10_image 17 = .ok (.getfield 61, 3) := by decide +kernel
theorem dX10_image_20 : decode cX10_image 20 = .ok (.getfield 341, 3) := by decide +kernel
theorem dX10_image_23 : decode cX10_image 23 = .ok (.iconst 3, 1) := by decide +kernel
theorem dX10_image_24 : decode cX10_image 24 = .ok (.if_icmp .lt 9, 3) := by decide +kernel
theorem dX10_image_27 : decode cX10_image 27 = .ok (.aload_n 0, 1) := by decide +kernel
theorem dX10_image_28 : decode cX10_image 28 = .ok (.iconst 3, 1) := by decide +kernel
theorem dX10_image_29 : decode cX10_image 29 = .ok (.invokevirtual 80, 3) := by decide +kernel
theorem dX10_image_32 : decode cX10_image 32 = .ok (.ireturn, 1) := by decide +kernel
theorem dX10_image_33 : decode cX10_image 33 = .ok (.aload_n 0, 1) := by decide +kernel
theorem dX10_image_34 : decode cX10_image 34 = .ok (.aload_n 0, 1) := by decide +kernel
theorem dX10_image_35 : decode cX10_image 35 = .ok (.getfield 61, 3) := by decide +kernel
theorem dX10_image_38 : decode cX10_image 38 = .ok (.invokevirtual 344, 3) := by decide +kernel
theorem dX10_image_41 : decode cX10_image 41 = .ok (.invokevirtual 106, 3) := by decide +kernel
theorem dX10_image_44 : decode cX10_image 44 = .ok (.ireturn, 1) := by decide +kernel
theorem dX10_back_0 : decode cX10_back 0 = .ok (.iload_n 1, 1) := by decide +kernel
theorem dX10_back_1 : decode cX10_back 1 = .ok (.ifCond .lt 14, 3) := by decide +kernel
theorem dX10_back_4 : decode cX10_back 4 = .ok (.iload_n 1, 1) := by decide +kernel
theorem dX10_back_5 : decode cX10_back 5 = .ok (.aload_n 0, 1) := by decide +kernel
theorem dX10_back_6 : decode cX10_back 6 = .ok (.getfield 61, 3) := by decide +kernel
theorem dX10_back_9 : decode cX10_back 9 = .ok (.getfield 341, 3) := by decide +kernel
theorem dX10_back_12 : decode cX10_back 12 = .ok (.if_icmp .lt 9, 3) := by decide +kernel
theorem dX10_back_15 : decode cX10_back 15 = .ok (.aload_n 0, 1) := by decide +kernel
theorem dX10_back_16 : decode cX10_back 16 = .ok (.iconst 1, 1) := by decide +kernel
theorem dX10_back_17 : decode cX10_back 17 = .ok (.invokevirtual 158, 3) := by decide +kernel
theorem dX10_back_20 : decode cX10_back 20 = .ok (.ireturn, 1) := by decide +kernel
theorem dX10_back_21 : decode cX10_back 21 = .ok (.aload_n 0, 1) := by decide +kernel
theorem dX10_back_22 : decode cX10_back 22 = .ok (.getfield 61, 3) := by decide +kernel
theorem dX10_back_25 : decode cX10_back 25 = .ok (.iload_n 1, 1) := by decide +kernel
theorem dX10_back_26 : decode cX10_back 26 = .ok (.invokevirtual 348, 3) := by decide +kernel
theorem dX10_back_29 : decode cX10_back 29 = .ok (.aload_n 0, 1) := by decide +kernel
theorem dX10_back_30 : decode cX10_back 30 = .ok (.invokevirtual 164, 3) := by decide +kernel
theorem dX10_back_33 : decode cX10_back 33 = .ok (.ireturn, 1) := by decide +kernel
theorem dX10_led_0 : decode cX10_led 0 = .ok (.aload_n 0, 1) := by decide +kernel
theorem dX10_led_1 : decode cX10_led 1 = .ok (.getfield 61, 3) := by decide +kernel
theorem dX10_led_4 : decode cX10_led 4 = .ok (.aload_n 0, 1) := by decide +kernel
theorem dX10_led_5 : decode cX10_led 5 = .ok (.getfield 16, 3) := by decide +kernel
theorem dX10_led_8 : decode cX10_led 8 = .ok (.iload_n 1, 1) := by decide +kernel
theorem dX10_led_9 : decode cX10_led 9 = .ok (.invokevirtual 351, 3) := by decide +kernel
theorem dX10_led_12 : decode cX10_led 12 = .ok (.istore_n 2, 1) := by decide +kernel
theorem dX10_led_13 : decode cX10_led 13 = .ok (.iload_n 2, 1) := by decide +kernel
theorem dX10_led_14 : decode cX10_led 14 = .ok (.iconst (-1), 1) := by decide +kernel
theorem dX10_led_15 : decode cX10_led 15 = .ok (.if_icmp .ne 14, 3) := by decide +kernel
theorem dX10_led_18 : decode cX10_led 18 = .ok (.new 354, 3) := by decide +kernel
theorem dX10_led_21 : decode cX10_led 21 = .ok (.dup, 1) := by decide +kernel
theorem dX10_led_22 : decode cX10_led 22 = .ok (.ldc_w 356, 3) := by decide +kernel
theorem dX10_led_25 : decode cX10_led 25 = .ok (.invokespecial 358, 3) := by decide +kernel
theorem dX10_led_28 : decode cX10_led 28 = .ok (.athrow, 1) := by decide +kernel
theorem dX10_led_29 : decode cX10_led 29 = .ok (.iload_n 2, 1) := by decide +kernel
theorem dX10_led_30 : decode cX10_led 30 = .ok (.ireturn, 1) := by decide +kernel
theorem dX10_size_0 : decode cX10_size 0 = .ok (.iload_n 1, 1) := by decide +kernel
theorem dX10_size_1 : decode cX10_size 1 = .ok (.tableswitch 63 10 13 #[31, 42, 50, 58], 31) := by decide +kernel
theorem dX10_size_32 : decode cX10_size 32 = .ok (.aload_n 0, 1) := by decide +kernel
theorem dX10_size_33 : decode cX10_size 33 = .ok (.getfield 61, 3) := by decide +kernel
theorem dX10_size_36 : decode cX10_size 36 = .ok (.getfield 316, 3) := by decide +kernel
theorem dX10_size_39 : decode cX10_size 39 = .ok (.bipush 6, 2) := by decide +kernel
theorem dX10_size_41 : decode cX10_size 41 = .ok (.iaload, 1) := by decide +kernel
theorem dX10_size_42 : decode cX10_size 42 = .ok (.ireturn, 1) := by decide +kernel
theorem dX10_size_43 : decode cX10_size 43 = .ok (.aload_n 0, 1) := by decide +kernel
theorem dX10_size_44 : decode cX10_size 44 = .ok (.getfield 61, 3) := by decide +kernel
theorem dX10_size_47 : decode cX10_size 47 = .ok (.getfield 335, 3) := by decide +kernel
theorem dX10_size_50 : decode cX10_size 50 = .ok (.ireturn, 1) := by decide +kernel
theorem dX10_size_51 : decode cX10_size 51 = .ok (.aload_n 0, 1) := by decide +kernel
theorem dX10_size_52 : decode cX10_size 52 = .ok (.getfield 61, 3) := by decide +kernel
theorem dX10_size_55 : decode cX10_size 55 = .ok (.getfield 341, 3) := by decide +kernel
theorem dX10_size_58 : decode cX10_size 58 = .ok (.ireturn, 1) := by decide +kernel
theorem dX10_size_59 : decode cX10_size 59 = .ok (.aload_n 0, 1) := by decide +kernel
theorem dX10_size_60 : decode cX10_size 60 = .ok (.getfield 72, 3) := by decide +kernel
theorem dX10_size_63 : decode cX10_size 63 = .ok (.ireturn, 1) := by decide +kernel
theorem dX10_size_64 : decode cX10_size 64 = .ok (.aload_n 0, 1) := by decide +kernel
theorem dX10_size_65 : decode cX10_size 65 = .ok (.getfield 16, 3) := by decide +kernel
theorem dX10_size_68 : decode cX10_size 68 = .ok (.iload_n 1, 1) := by decide +kernel
theorem dX10_size_69 : decode cX10_size 69 = .ok (.invokevirtual 361, 3) := by decide +kernel
theorem dX10_size_72 : decode cX10_size 72 = .ok (.ireturn, 1) := by decide +kernel
theorem dX10_trouble_0 : decode cX10_trouble 0 = .ok (.aload_n 0, 1) := by decide +kernel
theorem dX10_trouble_1 : decode cX10_trouble 1 = .ok (.getfield 109, 3) := by decide +kernel
theorem dX10_trouble_4 : decode cX10_trouble 4 = .ok (.ireturn, 1) := by decide +kernel
theorem dX10_putBytes_0 : decode cX10_putBytes 0 = .ok (.bipush 24, 2) := by decide +kernel
theorem dX10_putBytes_2 : decode cX10_putBytes 2 = .ok (.istore_n 2, 1) := by decide +kernel
theorem dX10_putBytes_3 : decode cX10_putBytes 3 = .ok (.iload_n 2, 1) := by decide +kernel
theorem dX10_putBytes_4 : decode cX10_putBytes 4 = .ok (.ifCond .lt 32, 3) := by decide +kernel
theorem dX10_putBytes_7 : decode cX10_putBytes 7 = .ok (.aload_n 0, 1) := by decide +kernel
theorem dX10_putBytes_8 : decode cX10_putBytes 8 = .ok (.getfield 9, 3) := by decide +kernel
theorem dX10_putBytes_11 : decode cX10_putBytes 11 = .ok (.aload_n 0, 1) := by decide +kernel
theorem dX10_putBytes_12 : decode cX10_putBytes 12 = .ok (.getfield 72, 3) := by decide +kernel
theorem dX10_putBytes_15 : decode cX10_putBytes 15 = .ok (.iload_n 1, 1) := by decide +kernel
theorem dX10_putBytes_16 : decode cX10_putBytes 16 = .ok (.iload_n 2, 1) := by decide +kernel
theorem dX10_putBytes_17 : decode cX10_putBytes 17 = .ok (.ishr, 1) := by decide +kernel
theorem dX10_putBytes_18 : decode cX10_putBytes 18 = .ok (.i2b, 1) := by decide +kernel
theorem dX10_putBytes_19 : decode cX10_putBytes 19 = .ok (.bastore, 1) := by decide +kernel
theorem dX10_putBytes_20 : decode cX10_putBytes 20 = .ok (.aload_n 0, 1) := by decide +kernel
theorem dX10_putBytes_21 : decode cX10_putBytes 21 = .ok (.dup, 1) := by decide +kernel
theorem dX10_putBytes_22 : decode cX10_putBytes 22 = .ok (.getfield 72, 3) := by decide +kernel
theorem dX10_putBytes_25 : decode cX10_putBytes 25 = .ok (.iconst 1, 1) := by decide +kernel
theorem dX10_putBytes_26 : decode cX10_putBytes 26 = .ok (.iadd, 1) := by decide +kernel
theorem dX10_putBytes_27 : decode cX10_putBytes 27 = .ok (.putfield 72, 3) := by decide +kernel
theorem dX10_putBytes_30 : decode cX10_putBytes 30 = .ok (.iinc 2 (-8), 3) := by decide +kernel
theorem dX10_putBytes_33 : decode cX10_putBytes 33 = .ok (.goto (-30), 3) := by decide +kernel
theorem dX10_putBytes_36 : decode cX10_putBytes 36 = .ok (.return_, 1) := by decide +kernel
theorem dX10_accept_0 : decode cX10_accept 0 = .ok (.aload_n 0, 1) := by decide +kernel
theorem dX10_accept_1 : decode cX10_accept 1 = .ok (.iconst 0, 1) := by decide +kernel
theorem dX10_accept_2 : decode cX10_accept 2 = .ok (.putfield 109, 3) := by decide +kernel
theorem dX10_accept_5 : decode cX10_accept 5 = .ok (.iload_n 1, 1) := by decide +kernel
theorem dX10_accept_6 : decode cX10_accept 6 = .ok (.ireturn, 1) := by decide +kernel
theorem dX10_refuse_0 : decode cX10_refuse 0 = .ok (.aload_n 0, 1) := by decide +kernel
theorem dX10_refuse_1 : decode cX10_refuse 1 = .ok (.iload_n 1, 1) := by decide +kernel
theorem dX10_refuse_2 : decode cX10_refuse 2 = .ok (.putfield 109, 3) := by decide +kernel
theorem dX10_refuse_5 : decode cX10_refuse 5 = .ok (.iconst (-1), 1) := by decide +kernel
theorem dX10_refuse_6 : decode cX10_refuse 6 = .ok (.ireturn, 1) := by decide +kernel
theorem dX10_allow_0 : decode cX10_allow 0 = .ok (.aload_n 0, 1) := by decide +kernel
theorem dX10_allow_1 : decode cX10_allow 1 = .ok (.iconst 0, 1) := by decide +kernel
theorem dX10_allow_2 : decode cX10_allow 2 = .ok (.putfield 109, 3) := by decide +kernel
theorem dX10_allow_5 : decode cX10_allow 5 = .ok (.iconst 1, 1) := by decide +kernel
theorem dX10_allow_6 : decode cX10_allow 6 = .ok (.ireturn, 1) := by decide +kernel
theorem dX10_deny_0 : decode cX10_deny 0 = .ok (.aload_n 0, 1) := by decide +kernel
theorem dX10_deny_1 : decode cX10_deny 1 = .ok (.iload_n 1, 1) := by decide +kernel
theorem dX10_deny_2 : decode cX10_deny 2 = .ok (.putfield 109, 3) := by decide +kernel
theorem dX10_deny_5 : decode cX10_deny 5 = .ok (.iconst 0, 1) := by decide +kernel
theorem dX10_deny_6 : decode cX10_deny 6 = .ok (.ireturn, 1) := by decide +kernel
theorem dX10_acceptFraction_0 : decode cX10_acceptFraction 0 = .ok (.aload_n 0, 1) := by decide +kernel
theorem dX10_acceptFraction_1 : decode cX10_acceptFraction 1 = .ok (.iconst 0, 1) := by decide +kernel
theorem dX10_acceptFraction_2 : decode cX10_acceptFraction 2 = .ok (.putfield 109, 3) := by decide +kernel
theorem dX10_acceptFraction_5 : decode cX10_acceptFraction 5 = .ok (.iload_n 1, 1) := by decide +kernel
theorem dX10_acceptFraction_6 : decode cX10_acceptFraction 6 = .ok (.ifCond .eq 13, 3) := by decide +kernel
theorem dX10_acceptFraction_9 : decode cX10_acceptFraction 9 = .ok (.aload_n 0, 1) := by decide +kernel
theorem dX10_acceptFraction_10 : decode cX10_acceptFraction 10 = .ok (.getfield 68, 3) := by decide +kernel
theorem dX10_acceptFraction_13 : decode cX10_acceptFraction 13 = .ok (.getfield 364, 3) := by decide +kernel
theorem dX10_acceptFraction_16 : decode cX10_acceptFraction 16 = .ok (.goto 10, 3) := by decide +kernel
theorem dX10_acceptFraction_19 : decode cX10_acceptFraction 19 = .ok (.aload_n 0, 1) := by decide +kernel
theorem dX10_acceptFraction_20 : decode cX10_acceptFraction 20 = .ok (.getfield 68, 3) := by decide +kernel
theorem dX10_acceptFraction_23 : decode cX10_acceptFraction 23 = .ok (.getfield 367, 3) := by decide +kernel
theorem dX10_acceptFraction_26 : decode cX10_acceptFraction 26 = .ok (.lreturn, 1) := by decide +kernel
theorem dX10_areTwoPlaces_0 : decode cX10_areTwoPlaces 0 = .ok (.aload_n 0, 1) := by decide +kernel
theorem dX10_areTwoPlaces_1 : decode cX10_areTwoPlaces 1 = .ok (.getfield 16, 3) := by decide +kernel
theorem dX10_areTwoPlaces_4 : decode cX10_areTwoPlaces 4 = .ok (.iload_n 1, 1) := by decide +kernel
theorem dX10_areTwoPlaces_5 : decode cX10_areTwoPlaces 5 = .ok (.invokevirtual 126, 3) := by decide +kernel
theorem dX10_areTwoPlaces_8 : decode cX10_areTwoPlaces 8 = .ok (.ifCond .eq 23, 3) := by decide +kernel
theorem dX10_areTwoPlaces_11 : decode cX10_areTwoPlaces 11 = .ok (.aload_n 0, 1) := by decide +kernel
theorem dX10_areTwoPlaces_12 : decode cX10_areTwoPlaces 12 = .ok (.getfield 16, 3) := by decide +kernel
theorem dX10_areTwoPlaces_15 : decode cX10_areTwoPlaces 15 = .ok (.iload_n 2, 1) := by decide +kernel
theorem dX10_areTwoPlaces_16 : decode cX10_areTwoPlaces 16 = .ok (.invokevirtual 126, 3) := by decide +kernel
theorem dX10_areTwoPlaces_19 : decode cX10_areTwoPlaces 19 = .ok (.ifCond .eq 12, 3) := by decide +kernel
theorem dX10_areTwoPlaces_22 : decode cX10_areTwoPlaces 22 = .ok (.iload_n 1, 1) := by decide +kernel
theorem dX10_areTwoPlaces_23 : decode cX10_areTwoPlaces 23 = .ok (.iload_n 2, 1) := by decide +kernel
theorem dX10_areTwoPlaces_24 : decode cX10_areTwoPlaces 24 = .ok (.if_icmp .eq 7, 3) := by decide +kernel
theorem dX10_areTwoPlaces_27 : decode cX10_areTwoPlaces 27 = .ok (.iconst 1, 1) := by decide +kernel
theorem dX10_areTwoPlaces_28 : decode cX10_areTwoPlaces 28 = .ok (.goto 4, 3) := by decide +kernel
theorem dX10_areTwoPlaces_31 : decode cX10_areTwoPlaces 31 = .ok (.iconst 0, 1) := by decide +kernel
theorem dX10_areTwoPlaces_32 : decode cX10_areTwoPlaces 32 = .ok (.ireturn, 1) := by decide +kernel
theorem dX10_isRuleOfRoad_0 : decode cX10_isRuleOfRoad 0 = .ok (.aload_n 0, 1) := by decide +kernel
theorem dX10_isRuleOfRoad_1 : decode cX10_isRuleOfRoad 1 = .ok (.getfield 16, 3) := by decide +kernel
theorem dX10_isRuleOfRoad_4 : decode cX10_isRuleOfRoad 4 = .ok (.invokevirtual 168, 3) := by decide +kernel
theorem dX10_isRuleOfRoad_7 : decode cX10_isRuleOfRoad 7 = .ok (.ifCond .eq 14, 3) := by decide +kernel
theorem dX10_isRuleOfRoad_10 : decode cX10_isRuleOfRoad 10 = .ok (.iload_n 1, 1) := by decide +kernel
theorem dX10_isRuleOfRoad_11 : decode cX10_isRuleOfRoad 11 = .ok (.invokestatic 206, 3) := by decide +kernel
theorem dX10_isRuleOfRoad_14 : decode cX10_isRuleOfRoad 14 = .ok (.ifCond .eq 7, 3) := by decide +kernel
theorem dX10_isRuleOfRoad_17 : decode cX10_isRuleOfRoad 17 = .ok (.iconst 1, 1) := by decide +kernel
theorem dX10_isRuleOfRoad_18 : decode cX10_isRuleOfRoad 18 = .ok (.goto 4, 3) := by decide +kernel
theorem dX10_isRuleOfRoad_21 : decode cX10_isRuleOfRoad 21 = .ok (.iconst 0, 1) := by decide +kernel
theorem dX10_isRuleOfRoad_22 : decode cX10_isRuleOfRoad 22 = .ok (.ireturn, 1) := by decide +kernel
theorem dX10_whyNoBuying_0 : decode cX10_whyNoBuying 0 = .ok (.aload_n 0, 1) := by decide +kernel
theorem dX10_whyNoBuying_1 : decode cX10_whyNoBuying 1 = .ok (.getfield 16, 3) := by decide +kernel
theorem dX10_whyNoBuying_4 : decode cX10_whyNoBuying 4 = .ok (.iload_n 1, 1) := by decide +kernel
theorem dX10_whyNoBuying_5 : decode cX10_whyNoBuying 5 = .ok (.invokevirtual 155, 3) := by decide +kernel
theorem dX10_whyNoBuying_8 : decode cX10_whyNoBuying 8 = .ok (.ifCond .ne 5, 3) := by decide +kernel
theorem dX10_whyNoBuying_11 : decode cX10_whyNoBuying 11 = .ok (.iconst 1, 1) := by decide +kernel
theorem dX10_whyNoBuying_12 : decode cX10_whyNoBuying 12 = .ok (.ireturn, 1) := by decide +kernel
theorem dX10_whyNoBuying_13 : decode cX10_whyNoBuying 13 = .ok (.aload_n 0, 1) := by decide +kernel
theorem dX10_whyNoBuying_14 : decode cX10_whyNoBuying 14 = .ok (.getfield 16, 3) := by decide +kernel
theorem dX10_whyNoBuying_17 : decode cX10_whyNoBuying 17 = .ok (.iload_n 2, 1) := by decide +kernel
theorem dX10_whyNoBuying_18 : decode cX10_whyNoBuying 18 = .ok (.invokevirtual 149, 3) := by decide +kernel
theorem dX10_whyNoBuying_21 : decode cX10_whyNoBuying 21 = .ok (.ifCond .ne 5, 3) := by decide +kernel
theorem dX10_whyNoBuying_24 : decode cX10_whyNoBuying 24 = .ok (.iconst 2, 1) := by decide +kernel
theorem dX10_whyNoBuying_25 : decode cX10_whyNoBuying 25 = .ok (.ireturn, 1) := by decide +kernel
theorem dX10_whyNoBuying_26 : decode cX10_whyNoBuying 26 = .ok (.aload_n 0, 1) := by decide +kernel
theorem dX10_whyNoBuying_27 : decode cX10_whyNoBuying 27 = .ok (.getfield 16, 3) := by decide +kernel
theorem dX10_whyNoBuying_30 : decode cX10_whyNoBuying 30 = .ok (.iload_n 1, 1) := by decide +kernel
theorem dX10_whyNoBuying_31 : decode cX10_whyNoBuying 31 = .ok (.iload_n 3, 1) := by decide +kernel
theorem dX10_whyNoBuying_32 : decode cX10_whyNoBuying 32 = .ok (.invokevirtual 213, 3) := by decide +kernel
theorem dX10_whyNoBuying_35 : decode cX10_whyNoBuying 35 = .ok (.ifCond .ne 8, 3) := by decide +kernel
theorem dX10_whyNoBuying_38 : decode cX10_whyNoBuying 38 = .ok (.bipush 6, 2) := by decide +kernel
theorem dX10_whyNoBuying_40 : decode cX10_whyNoBuying 40 = .ok (.goto 4, 3) := by decide +kernel
theorem dX10_whyNoBuying_43 : decode cX10_whyNoBuying 43 = .ok (.iconst 0, 1) := by decide +kernel
theorem dX10_whyNoBuying_44 : decode cX10_whyNoBuying 44 = .ok (.ireturn, 1) := by decide +kernel
theorem dX10_whyNoRuns_0 : decode cX10_whyNoRuns 0 = .ok (.aload_n 0, 1) := by decide +kernel
theorem dX10_whyNoRuns_1 : decode cX10_whyNoRuns 1 = .ok (.iload_n 1, 1) := by decide +kernel
theorem dX10_whyNoRuns_2 : decode cX10_whyNoRuns 2 = .ok (.invokevirtual 221, 3) := by decide +kernel
theorem dX10_whyNoRuns_5 : decode cX10_whyNoRuns 5 = .ok (.ifCond .ne 5, 3) := by decide +kernel
theorem dX10_whyNoRuns_8 : decode cX10_whyNoRuns 8 = .ok (.iconst 1, 1) := by decide +kernel
theorem dX10_whyNoRuns_9 : decode cX10_whyNoRuns 9 = .ok (.ireturn, 1) := by decide +kernel
theorem dX10_whyNoRuns_10 : decode cX10_whyNoRuns 10 = .ok (.iload_n 2, 1) := by decide +kernel
theorem dX10_whyNoRuns_11 : decode cX10_whyNoRuns 11 = .ok (.invokestatic 332, 3) := by decide +kernel
theorem dX10_whyNoRuns_14 : decode cX10_whyNoRuns 14 = .ok (.ifCond .eq 18, 3) := by decide +kernel
theorem dX10_whyNoRuns_17 : decode cX10_whyNoRuns 17 = .ok (.iload_n 3, 1) := by decide +kernel
theorem dX10_whyNoRuns_18 : decode cX10_whyNoRuns 18 = .ok (.iconst 1, 1) := by decide +kernel
theorem dX10_whyNoRuns_19 : decode cX10_whyNoRuns 19 = .ok (.if_icmp .lt 13, 3) := by decide +kernel
theorem dX10_whyNoRuns_22 : decode cX10_whyNoRuns 22 = .ok (.iload_n 3, 1) := by decide +kernel
theorem dX10_whyNoRuns_23 : decode cX10_whyNoRuns 23 = .ok (.bipush 50, 2) := by decide +kernel
theorem dX10_whyNoRuns_25 : decode cX10_whyNoRuns 25 = .ok (.if_icmp .gt 7, 3) := by decide +kernel
theorem dX10_whyNoRuns_28 : decode cX10_whyNoRuns 28 = .ok (.iconst 0, 1) := by decide +kernel
theorem dX10_whyNoRuns_29 : decode cX10_whyNoRuns 29 = .ok (.goto 4, 3) := by decide +kernel
theorem dX10_whyNoRuns_32 : decode cX10_whyNoRuns 32 = .ok (.iconst 2, 1) := by decide +kernel
theorem dX10_whyNoRuns_33 : decode cX10_whyNoRuns 33 = .ok (.ireturn, 1) := by decide +kernel
theorem dX10_isRule_0 : decode cX10_isRule 0 = .ok (.iload_n 0, 1) := by decide +kernel
theorem dX10_isRule_1 : decode cX10_isRule 1 = .ok (.ifCond .lt 12, 3) := by decide +kernel
theorem dX10_isRule_4 : decode cX10_isRule 4 = .ok (.iload_n 0, 1) := by decide +kernel
theorem dX10_isRule_5 : decode cX10_isRule 5 = .ok (.iconst 4, 1) := by decide +kernel
theorem dX10_isRule_6 : decode cX10_isRule 6 = .ok (.if_icmp .ge 7, 3) := by decide +kernel
theorem dX10_isRule_9 : decode cX10_isRule 9 = .ok (.iconst 1, 1) := by decide +kernel
theorem dX10_isRule_10 : decode cX10_isRule 10 = .ok (.goto 4, 3) := by decide +kernel
theorem dX10_isRule_13 : decode cX10_isRule 13 = .ok (.iconst 0, 1) := by decide +kernel
theorem dX10_isRule_14 : decode cX10_isRule 14 = .ok (.ireturn, 1) := by decide +kernel
theorem dX10_isSeed_0 : decode cX10_isSeed 0 = .ok (.iload_n 0, 1) := by decide +kernel
theorem dX10_isSeed_1 : decode cX10_isSeed 1 = .ok (.ifCond .lt 14, 3) := by decide +kernel
theorem dX10_isSeed_4 : decode cX10_isSeed 4 = .ok (.iload_n 0, 1) := by decide +kernel
theorem dX10_isSeed_5 : decode cX10_isSeed 5 = .ok (.ldc_w 315, 3) := by decide +kernel
theorem dX10_isSeed_8 : decode cX10_isSeed 8 = .ok (.if_icmp .ge 7, 3) := by decide +kernel
theorem dX10_isSeed_11 : decode cX10_isSeed 11 = .ok (.iconst 1, 1) := by decide +kernel
theorem dX10_isSeed_12 : decode cX10_isSeed 12 = .ok (.goto 4, 3) := by decide +kernel
theorem dX10_isSeed_15 : decode cX10_isSeed 15 = .ok (.iconst 0, 1) := by decide +kernel
theorem dX10_isSeed_16 : decode cX10_isSeed 16 = .ok (.ireturn, 1) := by decide +kernel
theorem dX10_addParts_0 : decode cX10_addParts 0 = .ok (.aload_n 0, 1) := by decide +kernel
theorem dX10_addParts_1 : decode cX10_addParts 1 = .ok (.getfield 68, 3) := by decide +kernel
theorem dX10_addParts_4 : decode cX10_addParts 4 = .ok (.lconst 0, 1) := by decide +kernel
theorem dX10_addParts_5 : decode cX10_addParts 5 = .ok (.lconst 1, 1) := by decide +kernel
theorem dX10_addParts_6 : decode cX10_addParts 6 = .ok (.invokevirtual 266, 3) := by decide +kernel
theorem dX10_addParts_9 : decode cX10_addParts 9 = .ok (.iload_n 2, 1) := by decide +kernel
theorem dX10_addParts_10 : decode cX10_addParts 10 = .ok (.istore 4, 2) := by decide +kernel
theorem dX10_addParts_12 : decode cX10_addParts 12 = .ok (.iload 4, 2) := by decide +kernel
theorem dX10_addParts_14 : decode cX10_addParts 14 = .ok (.iload_n 3, 1) := by decide +kernel
theorem dX10_addParts_15 : decode cX10_addParts 15 = .ok (.if_icmp .gt 43, 3) := by decide +kernel
theorem dX10_addParts_18 : decode cX10_addParts 18 = .ok (.aload_n 0, 1) := by decide +kernel
theorem dX10_addParts_19 : decode cX10_addParts 19 = .ok (.getfield 68, 3) := by decide +kernel
theorem dX10_addParts_22 : decode cX10_addParts 22 = .ok (.aload_n 0, 1) := by decide +kernel
theorem dX10_addParts_23 : decode cX10_addParts 23 = .ok (.getfield 16, 3) := by decide +kernel
theorem dX10_addParts_26 : decode cX10_addParts 26 = .ok (.getfield 270, 3) := by decide +kernel
theorem dX10_addParts_29 : decode cX10_addParts 29 = .ok (.i2l, 1) := by decide +kernel
theorem dX10_addParts_30 : decode cX10_addParts 30 = .ok (.iload_n 1, 1) := by decide +kernel
theorem dX10_addParts_31 : decode cX10_addParts 31 = .ok (.ifCond .eq 11, 3) := by decide +kernel
theorem dX10_addParts_34 : decode cX10_addParts 34 = .ok (.iconst 2, 1) := by decide +kernel
theorem dX10_addParts_35 : decode cX10_addParts 35 = .ok (.iload 4, 2) := by decide +kernel
theorem dX10_addParts_37 : decode cX10_addParts 37 = .ok (.imul, 1) := by decide +kernel
theorem dX10_addParts_38 : decode cX10_addParts 38 = .ok (.i2l, 1) := by decide +kernel
theorem dX10_addParts_39 : decode cX10_addParts 39 = .ok (.goto 10, 3) := by decide +kernel
theorem dX10_addParts_42 : decode cX10_addParts 42 = .ok (.iconst 2, 1) := by decide +kernel
theorem dX10_addParts_43 : decode cX10_addParts 43 = .ok (.iload 4, 2) := by decide +kernel
theorem dX10_addParts_45 : decode cX10_addParts 45 = .ok (.imul, 1) := by decide +kernel
theorem dX10_addParts_46 : decode cX10_addParts 46 = .ok (.iconst 1, 1) := by decide +kernel
theorem dX10_addParts_47 : decode cX10_addParts 47 = .ok (.isub, 1) := by decide +kernel
theorem dX10_addParts_48 : decode cX10_addParts 48 = .ok (.i2l, 1) := by decide +kernel
theorem dX10_addParts_49 : decode cX10_addParts 49 = .ok (.invokevirtual 273, 3) := by decide +kernel
theorem dX10_addParts_52 : decode cX10_addParts 52 = .ok (.iinc 4 1, 3) := by decide +kernel
theorem dX10_addParts_55 : decode cX10_addParts 55 = .ok (.goto (-43), 3) := by decide +kernel
theorem dX10_addParts_58 : decode cX10_addParts 58 = .ok (.return_, 1) := by decide +kernel
theorem dX10_fewestLoads_0 : decode cX10_fewestLoads 0 = .ok (.iconst 0, 1) := by decide +kernel
theorem dX10_fewestLoads_1 : decode cX10_fewestLoads 1 = .ok (.istore_n 3, 1) := by decide +kernel
theorem dX10_fewestLoads_2 : decode cX10_fewestLoads 2 = .ok (.iload_n 3, 1) := by decide +kernel
theorem dX10_fewestLoads_3 : decode cX10_fewestLoads 3 = .ok (.bipush 12, 2) := by decide +kernel
theorem dX10_fewestLoads_5 : decode cX10_fewestLoads 5 = .ok (.if_icmp .gt 39, 3) := by decide +kernel
theorem dX10_fewestLoads_8 : decode cX10_fewestLoads 8 = .ok (.aload_n 0, 1) := by decide +kernel
theorem dX10_fewestLoads_9 : decode cX10_fewestLoads 9 = .ok (.iload_n 2, 1) := by decide +kernel
theorem dX10_fewestLoads_10 : decode cX10_fewestLoads 10 = .ok (.iconst 1, 1) := by decide +kernel
theorem dX10_fewestLoads_11 : decode cX10_fewestLoads 11 = .ok (.iload_n 3, 1) := by decide +kernel
theorem dX10_fewestLoads_12 : decode cX10_fewestLoads 12 = .ok (.invokevirtual 259, 3) := by decide +kernel
theorem dX10_fewestLoads_15 : decode cX10_fewestLoads 15 = .ok (.aload_n 0, 1) := by decide +kernel
theorem dX10_fewestLoads_16 : decode cX10_fewestLoads 16 = .ok (.getfield 68, 3) := by decide +kernel
theorem dX10_fewestLoads_19 : decode cX10_fewestLoads 19 = .ok (.getfield 367, 3) := by decide +kernel
theorem dX10_fewestLoads_22 : decode cX10_fewestLoads 22 = .ok (.iload_n 1, 1) := by decide +kernel
theorem dX10_fewestLoads_23 : decode cX10_fewestLoads 23 = .ok (.i2l, 1) := by decide +kernel
theorem dX10_fewestLoads_24 : decode cX10_fewestLoads 24 = .ok (.aload_n 0, 1) := by decide +kernel
theorem dX10_fewestLoads_25 : decode cX10_fewestLoads 25 = .ok (.getfield 68, 3) := by decide +kernel
theorem dX10_fewestLoads_28 : decode cX10_fewestLoads 28 = .ok (.getfield 364, 3) := by decide +kernel
theorem dX10_fewestLoads_31 : decode cX10_fewestLoads 31 = .ok (.lmul, 1) := by decide +kernel
theorem dX10_fewestLoads_32 : decode cX10_fewestLoads 32 = .ok (.lcmp, 1) := by decide +kernel
theorem dX10_fewestLoads_33 : decode cX10_fewestLoads 33 = .ok (.ifCond .lt 5, 3) := by decide +kernel
theorem dX10_fewestLoads_36 : decode cX10_fewestLoads 36 = .ok (.iload_n 3, 1) := by decide +kernel
theorem dX10_fewestLoads_37 : decode cX10_fewestLoads 37 = .ok (.ireturn, 1) := by decide +kernel
theorem dX10_fewestLoads_38 : decode cX10_fewestLoads 38 = .ok (.iinc 3 1, 3) := by decide +kernel
theorem dX10_fewestLoads_41 : decode cX10_fewestLoads 41 = .ok (.goto (-39), 3) := by decide +kernel
theorem dX10_fewestLoads_44 : decode cX10_fewestLoads 44 = .ok (.bipush (-2), 2) := by decide +kernel
theorem dX10_fewestLoads_46 : decode cX10_fewestLoads 46 = .ok (.ireturn, 1) := by decide +kernel
