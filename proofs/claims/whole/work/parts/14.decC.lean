theorem dX11_init_0 : decode cX11_init 0 = .ok (.aload_n 0, 1) := by decide +kernel
theorem dX11_init_1 : decode cX11_init 1 = .ok (.invokespecial 1, 3) := by decide +kernel
theorem dX11_init_4 : decode cX11_init 4 = .ok (.aload_n 0, 1) := by decide +kernel
theorem dX11_init_5 : decode cX11_init 5 = .ok (.sipush 800, 3) := by decide +kernel
theorem dX11_init_8 : decode cX11_init 8 = .ok (.newarray .int, 2) := by decide +kernel
theorem dX11_init_10 : decode cX11_init 10 = .ok (.putfield 7, 3) := by decide +kernel
theorem dX11_init_13 : decode cX11_init 13 = .ok (.aload_n 0, 1) := by decide +kernel
theorem dX11_init_14 : decode cX11_init 14 = .ok (.iconst (-1), 1) := by decide +kernel
theorem dX11_init_15 : decode cX11_init 15 = .ok (.putfield 13, 3) := by decide +kernel
theorem dX11_init_18 : decode cX11_init 18 = .ok (.aload_n 0, 1) := by decide +kernel
theorem dX11_init_19 : decode cX11_init 19 = .ok (.bipush 8, 2) := by decide +kernel
theorem dX11_init_21 : decode cX11_init 21 = .ok (.newarray .int, 2) := by decide +kernel
theorem dX11_init_23 : decode cX11_init 23 = .ok (.putfield 17, 3) := by decide +kernel
theorem dX11_init_26 : decode cX11_init 26 = .ok (.aload_n 0, 1) := by decide +kernel
theorem dX11_init_27 : decode cX11_init 27 = .ok (.sipush 300, 3) := by decide +kernel
theorem dX11_init_30 : decode cX11_init 30 = .ok (.newarray .int, 2) := by decide +kernel
theorem dX11_init_32 : decode cX11_init 32 = .ok (.putfield 20, 3) := by decide +kernel
theorem dX11_init_35 : decode cX11_init 35 = .ok (.aload_n 0, 1) := by decide +kernel
theorem dX11_init_36 : decode cX11_init 36 = .ok (.sipush 300, 3) := by decide +kernel
theorem dX11_init_39 : decode cX11_init 39 = .ok (.newarray .int, 2) := by decide +kernel
theorem dX11_init_41 : decode cX11_init 41 = .ok (.putfield 23, 3) := by decide +kernel
theorem dX11_init_44 : decode cX11_init 44 = .ok (.aload_n 0, 1) := by decide +kernel
theorem dX11_init_45 : decode cX11_init 45 = .ok (.bipush 9, 2) := by decide +kernel
theorem dX11_init_47 : decode cX11_init 47 = .ok (.newarray .int, 2) := by decide +kernel
theorem dX11_init_49 : decode cX11_init 49 = .ok (.putfield 26, 3) := by decide +kernel
theorem dX11_init_52 : decode cX11_init 52 = .ok (.aload_n 0, 1) := by decide +kernel
theorem dX11_init_53 : decode cX11_init 53 = .ok (.bipush 7, 2) := by decide +kernel
theorem dX11_init_55 : decode cX11_init 55 = .ok (.newarray .int, 2) := by decide +kernel
theorem dX11_init_57 : decode cX11_init 57 = .ok (.putfield 29, 3) := by decide +kernel
theorem dX11_init_60 : decode cX11_init 60 = .ok (.aload_n 0, 1) := by decide +kernel
theorem dX11_init_61 : decode cX11_init 61 = .ok (.bipush 84, 2) := by decide +kernel
theorem dX11_init_63 : decode cX11_init 63 = .ok (.newarray .int, 2) := by decide +kernel
theorem dX11_init_65 : decode cX11_init 65 = .ok (.putfield 32, 3) := by decide +kernel
theorem dX11_init_68 : decode cX11_init 68 = .ok (.aload_n 0, 1) := by decide +kernel
theorem dX11_init_69 : decode cX11_init 69 = .ok (.bipush 21, 2) := by decide +kernel
theorem dX11_init_71 : decode cX11_init 71 = .ok (.newarray .int, 2) := by decide +kernel
theorem dX11_init_73 : decode cX11_init 73 = .ok (.putfield 35, 3) := by decide +kernel
theorem dX11_init_76 : decode cX11_init 76 = .ok (.aload_n 0, 1) := by decide +kernel
theorem dX11_init_77 : decode cX11_init 77 = .ok (.sipush 369, 3) := by decide +kernel
theorem dX11_init_80 : decode cX11_init 80 = .ok (.newarray .int, 2) := by decide +kernel
theorem dX11_init_82 : decode cX11_init 82 = .ok (.putfield 38, 3) := by decide +kernel
theorem dX11_init_85 : decode cX11_init 85 = .ok (.aload_n 0, 1) := by decide +kernel
theorem dX11_init_86 : decode cX11_init 86 = .ok (.sipush 369, 3) := by decide +kernel
theorem dX11_init_89 : decode cX11_init 89 = .ok (.newarray .int, 2) := by decide +kernel
theorem dX11_init_91 : decode cX11_init 91 = .ok (.putfield 41, 3) := by decide +kernel
theorem dX11_init_94 : decode cX11_init 94 = .ok (.aload_n 0, 1) := by decide +kernel
theorem dX11_init_95 : decode cX11_init 95 = .ok (.sipush 3690, 3) := by decide +kernel
theorem dX11_init_98 : decode cX11_init 98 = .ok (.newarray .int, 2) := by decide +kernel
theorem dX11_init_100 : decode cX11_init 100 = .ok (.putfield 44, 3) := by decide +kernel
theorem dX11_init_103 : decode cX11_init 103 = .ok (.aload_n 0, 1) := by decide +kernel
theorem dX11_init_104 : decode cX11_init 104 = .ok (.sipush 369, 3) := by decide +kernel
theorem dX11_init_107 : decode cX11_init 107 = .ok (.newarray .long, 2) := by decide +kernel
theorem dX11_init_109 : decode cX11_init 109 = .ok (.putfield 47, 3) := by decide +kernel
theorem dX11_init_112 : decode cX11_init 112 = .ok (.aload_n 0, 1) := by decide +kernel
theorem dX11_init_113 : decode cX11_init 113 = .ok (.sipush 369, 3) := by decide +kernel
theorem dX11_init_116 : decode cX11_init 116 = .ok (.newarray .int, 2) := by decide +kernel
theorem dX11_init_118 : decode cX11_init 118 = .ok (.putfield 51, 3) := by decide +kernel
theorem dX11_init_121 : decode cX11_init 121 = .ok (.aload_n 0, 1) := by decide +kernel
theorem dX11_init_122 : decode cX11_init 122 = .ok (.sipush 369, 3) := by decide +kernel
theorem dX11_init_125 : decode cX11_init 125 = .ok (.newarray .int, 2) := by decide +kernel
theorem dX11_init_127 : decode cX11_init 127 = .ok (.putfield 54, 3) := by decide +kernel
theorem dX11_init_130 : decode cX11_init 130 = .ok (.aload_n 0, 1) := by decide +kernel
theorem dX11_init_131 : decode cX11_init 131 = .ok (.bipush 9, 2) := by decide +kernel
theorem dX11_init_133 : decode cX11_init 133 = .ok (.newarray .int, 2) := by decide +kernel
theorem dX11_init_135 : decode cX11_init 135 = .ok (.putfield 57, 3) := by decide +kernel
theorem dX11_init_138 : decode cX11_init 138 = .ok (.aload_n 0, 1) := by decide +kernel
theorem dX11_init_139 : decode cX11_init 139 = .ok (.bipush 9, 2) := by decide +kernel
theorem dX11_init_141 : decode cX11_init 141 = .ok (.newarray .int, 2) := by decide +kernel
theorem dX11_init_143 : decode cX11_init 143 = .ok (.putfield 60, 3) := by decide +kernel
theorem dX11_init_146 : decode cX11_init 146 = .ok (.aload_n 0, 1) := by decide +kernel
theorem dX11_init_147 : decode cX11_init 147 = .ok (.bipush 9, 2) := by decide +kernel
theorem dX11_init_149 : decode cX11_init 149 = .ok (.newarray .int, 2) := by decide +kernel
theorem dX11_init_151 : decode cX11_init 151 = .ok (.putfield 63, 3) := by decide +kernel
theorem dX11_init_154 : decode cX11_init 154 = .ok (.return_, 1) := by decide +kernel
theorem dX11_thrown_0 : decode cX11_thrown 0 = .ok (.aload_n 0, 1) := by decide +kernel
theorem dX11_thrown_1 : decode cX11_thrown 1 = .ok (.getfield 66, 3) := by decide +kernel
theorem dX11_thrown_4 : decode cX11_thrown 4 = .ok (.ireturn, 1) := by decide +kernel
theorem dX11_good_0 : decode cX11_good 0 = .ok (.aload_n 0, 1) := by decide +kernel
theorem dX11_good_1 : decode cX11_good 1 = .ok (.iconst 0, 1) := by decide +kernel
theorem dX11_good_2 : decode cX11_good 2 = .ok (.putfield 66, 3) := by decide +kernel
theorem dX11_good_5 : decode cX11_good 5 = .ok (.aload_n 0, 1) := by decide +kernel
theorem dX11_good_6 : decode cX11_good 6 = .ok (.iconst 0, 1) := by decide +kernel
theorem dX11_good_7 : decode cX11_good 7 = .ok (.putfield 69, 3) := by decide +kernel
theorem dX11_good_10 : decode cX11_good 10 = .ok (.return_, 1) := by decide +kernel
theorem dX11_no_0 : decode cX11_no 0 = .ok (.aload_n 0, 1) := by decide +kernel
theorem dX11_no_1 : decode cX11_no 1 = .ok (.iload_n 1, 1) := by decide +kernel
theorem dX11_no_2 : decode cX11_no 2 = .ok (.putfield 69, 3) := by decide +kernel
theorem dX11_no_5 : decode cX11_no 5 = .ok (.iconst (-1), 1) := by decide +kernel
theorem dX11_no_6 : decode cX11_no 6 = .ok (.ireturn, 1) := by decide +kernel
theorem dX11_isNot_0 : decode cX11_isNot 0 = .ok (.aload_n 0, 1) := by decide +kernel
theorem dX11_isNot_1 : decode cX11_isNot 1 = .ok (.iload_n 1, 1) := by decide +kernel
theorem dX11_isNot_2 : decode cX11_isNot 2 = .ok (.putfield 69, 3) := by decide +kernel
theorem dX11_isNot_5 : decode cX11_isNot 5 = .ok (.iconst 0, 1) := by decide +kernel
theorem dX11_isNot_6 : decode cX11_isNot 6 = .ok (.ireturn, 1) := by decide +kernel
theorem dX11_in_0 : decode cX11_in 0 = .ok (.iload_n 0, 1) := by decide +kernel
theorem dX11_in_1 : decode cX11_in 1 = .ok (.iload_n 1, 1) := by decide +kernel
theorem dX11_in_2 : decode cX11_in 2 = .ok (.if_icmp .lt 12, 3) := by decide +kernel
theorem dX11_in_5 : decode cX11_in 5 = .ok (.iload_n 0, 1) := by decide +kernel
theorem dX11_in_6 : decode cX11_in 6 = .ok (.iload_n 2, 1) := by decide +kernel
theorem dX11_in_7 : decode cX11_in 7 = .ok (.if_icmp .gt 7, 3) := by decide +kernel
theorem dX11_in_10 : decode cX11_in 10 = .ok (.iconst 1, 1) := by decide +kernel
theorem dX11_in_11 : decode cX11_in 11 = .ok (.goto 4, 3) := by decide +kernel
theorem dX11_in_14 : decode cX11_in 14 = .ok (.iconst 0, 1) := by decide +kernel
theorem dX11_in_15 : decode cX11_in 15 = .ok (.ireturn, 1) := by decide +kernel
theorem dX11_hasBit_0 : decode cX11_hasBit 0 = .ok (.iload_n 0, 1) := by decide +kernel
theorem dX11_hasBit_1 : decode cX11_hasBit 1 = .ok (.iload_n 1, 1) := by decide +kernel
theorem dX11_hasBit_2 : decode cX11_hasBit 2 = .ok (.ishr, 1) := by decide +kernel
theorem dX11_hasBit_3 : decode cX11_hasBit 3 = .ok (.iconst 1, 1) := by decide +kernel
theorem dX11_hasBit_4 : decode cX11_hasBit 4 = .ok (.iand, 1) := by decide +kernel
theorem dX11_hasBit_5 : decode cX11_hasBit 5 = .ok (.iconst 1, 1) := by decide +kernel
theorem dX11_hasBit_6 : decode cX11_hasBit 6 = .ok (.if_icmp .ne 7, 3) := by decide +kernel
theorem dX11_hasBit_9 : decode cX11_hasBit 9 = .ok (.iconst 1, 1) := by decide +kernel
theorem dX11_hasBit_10 : decode cX11_hasBit 10 = .ok (.goto 4, 3) := by decide +kernel
theorem dX11_hasBit_13 : decode cX11_hasBit 13 = .ok (.iconst 0, 1) := by decide +kernel
theorem dX11_hasBit_14 : decode cX11_hasBit 14 = .ok (.ireturn, 1) := by decide +kernel
theorem dX11_copy_0 : decode cX11_copy 0 = .ok (.iconst 0, 1) := by decide +kernel
theorem dX11_copy_1 : decode cX11_copy 1 = .ok (.istore 5, 2) := by decide +kernel
theorem dX11_copy_3 : decode cX11_copy 3 = .ok (.iload 5, 2) := by decide +kernel
theorem dX11_copy_5 : decode cX11_copy 5 = .ok (.iload 4, 2) := by decide +kernel
theorem dX11_copy_7 : decode cX11_copy 7 = .ok (.if_icmp .ge 21, 3) := by decide +kernel
theorem dX11_copy_10 : decode cX11_copy 10 = .ok (.aload_n 2, 1) := by decide +kernel
theorem dX11_copy_11 : decode cX11_copy 11 = .ok (.iload_n 3, 1) := by decide +kernel
theorem dX11_copy_12 : decode cX11_copy 12 = .ok (.iload 5, 2) := by decide +kernel
theorem dX11_copy_14 : decode cX11_copy 14 = .ok (.iadd, 1) := by decide +kernel
theorem dX11_copy_15 : decode cX11_copy 15 = .ok (.aload_n 0, 1) := by decide +kernel
theorem dX11_copy_16 : decode cX11_copy 16 = .ok (.iload_n 1, 1) := by decide +kernel
theorem dX11_copy_17 : decode cX11_copy 17 = .ok (.iload 5, 2) := by decide +kernel
theorem dX11_copy_19 : decode cX11_copy 19 = .ok (.iadd, 1) := by decide +kernel
theorem dX11_copy_20 : decode cX11_copy 20 = .ok (.iaload, 1) := by decide +kernel
theorem dX11_copy_21 : decode cX11_copy 21 = .ok (.iastore, 1) := by decide +kernel
theorem dX11_copy_22 : decode cX11_copy 22 = .ok (.iinc 5 1, 3) := by decide +kernel
theorem dX11_copy_25 : decode cX11_copy 25 = .ok (.goto (-22), 3) := by decide +kernel
theorem dX11_copy_28 : decode cX11_copy 28 = .ok (.return_, 1) := by decide +kernel
theorem dX11_dividing_0 : decode cX11_dividing 0 = .ok (.lload_n 0, 1) := by decide +kernel
theorem dX11_dividing_1 : decode cX11_dividing 1 = .ok (.lstore 4, 2) := by decide +kernel
theorem dX11_dividing_3 : decode cX11_dividing 3 = .ok (.lload_n 2, 1) := by decide +kernel
theorem dX11_dividing_4 : decode cX11_dividing 4 = .ok (.lstore 6, 2) := by decide +kernel
theorem dX11_dividing_6 : decode cX11_dividing 6 = .ok (.lload 6, 2) := by decide +kernel
theorem dX11_dividing_8 : decode cX11_dividing 8 = .ok (.lconst 0, 1) := by decide +kernel
theorem dX11_dividing_9 : decode cX11_dividing 9 = .ok (.lcmp, 1) := by decide +kernel
theorem dX11_dividing_10 : decode cX11_dividing 10 = .ok (.ifCond .eq 21, 3) := by decide +kernel
theorem dX11_dividing_13 : decode cX11_dividing 13 = .ok (.lload 4, 2) := by decide +kernel
theorem dX11_dividing_15 : decode cX11_dividing 15 = .ok (.lload 6, 2) := by decide +kernel
theorem dX11_dividing_17 : decode cX11_dividing 17 = .ok (.lrem, 1) := by decide +kernel
theorem dX11_dividing_18 : decode cX11_dividing 18 = .ok (.lstore 8, 2) := by decide +kernel
theorem dX11_dividing_20 : decode cX11_dividing 20 = .ok (.lload 6, 2) := by decide +kernel
theorem dX11_dividing_22 : decode cX11_dividing 22 = .ok (.lstore 4, 2) := by decide +kernel
theorem dX11_dividing_24 : decode cX11_dividing 24 = .ok (.lload 8, 2) := by decide +kernel
theorem dX11_dividing_26 : decode cX11_dividing 26 = .ok (.lstore 6, 2) := by decide +kernel
theorem dX11_dividing_28 : decode cX11_dividing 28 = .ok (.goto (-22), 3) := by decide +kernel
theorem dX11_dividing_31 : decode cX11_dividing 31 = .ok (.lload 4, 2) := by decide +kernel
theorem dX11_dividing_33 : decode cX11_dividing 33 = .ok (.lreturn, 1) := by decide +kernel
theorem dX11_lowest_0 : decode cX11_lowest 0 = .ok (.iload 4, 2) := by decide +kernel
theorem dX11_lowest_2 : decode cX11_lowest 2 = .ok (.ifCond .eq 7, 3) := by decide +kernel
theorem dX11_lowest_5 : decode cX11_lowest 5 = .ok (.lload_n 2, 1) := by decide +kernel
theorem dX11_lowest_6 : decode cX11_lowest 6 = .ok (.goto 4, 3) := by decide +kernel
theorem dX11_lowest_9 : decode cX11_lowest 9 = .ok (.lload_n 0, 1) := by decide +kernel
theorem dX11_lowest_10 : decode cX11_lowest 10 = .ok (.lload_n 2, 1) := by decide +kernel
theorem dX11_lowest_11 : decode cX11_lowest 11 = .ok (.lload_n 0, 1) := by decide +kernel
theorem dX11_lowest_12 : decode cX11_lowest 12 = .ok (.invokestatic 72, 3) := by decide +kernel
theorem dX11_lowest_15 : decode cX11_lowest 15 = .ok (.ldiv, 1) := by decide +kernel
theorem dX11_lowest_16 : decode cX11_lowest 16 = .ok (.lreturn, 1) := by decide +kernel
theorem dX11_feed_0 : decode cX11_feed 0 = .ok (.aload_n 0, 1) := by decide +kernel
theorem dX11_feed_1 : decode cX11_feed 1 = .ok (.iconst 0, 1) := by decide +kernel
theorem dX11_feed_2 : decode cX11_feed 2 = .ok (.putfield 66, 3) := by decide +kernel
theorem dX11_feed_5 : decode cX11_feed 5 = .ok (.aload_n 0, 1) := by decide +kernel
theorem dX11_feed_6 : decode cX11_feed 6 = .ok (.getfield 76, 3) := by decide +kernel
theorem dX11_feed_9 : decode cX11_feed 9 = .ok (.bipush 20, 2) := by decide +kernel
theorem dX11_feed_11 : decode cX11_feed 11 = .ok (.iadd, 1) := by decide +kernel
theorem dX11_feed_12 : decode cX11_feed 12 = .ok (.sipush 800, 3) := by decide +kernel
theorem dX11_feed_15 : decode cX11_feed 15 = .ok (.if_icmp .le 5, 3) := by decide +kernel
theorem dX11_feed_18 : decode cX11_feed 18 = .ok (.iconst (-1), 1) := by decide +kernel
theorem dX11_feed_19 : decode cX11_feed 19 = .ok (.ireturn, 1) := by decide +kernel
theorem dX11_feed_20 : decode cX11_feed 20 = .ok (.iconst 0, 1) := by decide +kernel
theorem dX11_feed_21 : decode cX11_feed 21 = .ok (.istore 6, 2) := by decide +kernel
theorem dX11_feed_23 : decode cX11_feed 23 = .ok (.iload 6, 2) := by decide +kernel
theorem dX11_feed_25 : decode cX11_feed 25 = .ok (.bipush 20, 2) := by decide +kernel
theorem dX11_feed_27 : decode cX11_feed 27 = .ok (.if_icmp .ge 93, 3) := by decide +kernel
theorem dX11_feed_30 : decode cX11_feed 30 = .ok (.iload 6, 2) := by decide +kernel
theorem dX11_feed_32 : decode cX11_feed 32 = .ok (.iconst 4, 1) := by decide +kernel
theorem dX11_feed_33 : decode cX11_feed 33 = .ok (.if_icmp .ge 7, 3) := by decide +kernel
theorem dX11_feed_36 : decode cX11_feed 36 = .ok (.iload_n 1, 1) := by decide +kernel
theorem dX11_feed_37 : decode cX11_feed 37 = .ok (.goto 39, 3) := by decide +kernel
theorem dX11_feed_40 : decode cX11_feed 40 = .ok (.iload 6, 2) := by decide +kernel
theorem dX11_feed_42 : decode cX11_feed 42 = .ok (.bipush 8, 2) := by decide +kernel
theorem dX11_feed_44 : decode cX11_feed 44 = .ok (.if_icmp .ge 7, 3) := by decide +kernel
theorem dX11_feed_47 : decode cX11_feed 47 = .ok (.iload_n 2, 1) := by decide +kernel
theorem dX11_feed_48 : decode cX11_feed 48 = .ok (.goto 28, 3) := by decide +kernel
theorem dX11_feed_51 : decode cX11_feed 51 = .ok (.iload 6, 2) := by decide +kernel
theorem dX11_feed_53 : decode cX11_feed 53 = .ok (.bipush 12, 2) := by decide +kernel
theorem dX11_feed_55 : decode cX11_feed 55 = .ok (.if_icmp .ge 7, 3) := by decide +kernel
theorem dX11_feed_58 : decode cX11_feed 58 = .ok (.iload_n 3, 1) := by decide +kernel
theorem dX11_feed_59 : decode cX11_feed 59 = .ok (.goto 17, 3) := by decide +kernel
theorem dX11_feed_62 : decode cX11_feed 62 = .ok (.iload 6, 2) := by decide +kernel
theorem dX11_feed_64 : decode cX11_feed 64 = .ok (.bipush 16, 2) := by decide +kernel
theorem dX11_feed_66 : decode cX11_feed 66 = .ok (.if_icmp .ge 8, 3) := by decide +kernel
theorem dX11_feed_69 : decode cX11_feed 69 = .ok (.iload 4, 2) := by decide +kernel
theorem dX11_feed_71 : decode cX11_feed 71 = .ok (.goto 5, 3) := by decide +kernel
theorem dX11_feed_74 : decode cX11_feed 74 = .ok (.iload 5, 2) := by decide +kernel
theorem dX11_feed_76 : decode cX11_feed 76 = .ok (.istore 7, 2) := by decide +kernel
theorem dX11_feed_78 : decode cX11_feed 78 = .ok (.aload_n 0, 1) := by decide +kernel
theorem dX11_feed_79 : decode cX11_feed 79 = .ok (.getfield 7, 3) := by decide +kernel
theorem dX11_feed_82 : decode cX11_feed 82 = .ok (.aload_n 0, 1) := by decide +kernel
theorem dX11_feed_83 : decode cX11_feed 83 = .ok (.getfield 76, 3) := by decide +kernel
theorem dX11_feed_86 : decode cX11_feed 86 = .ok (.iload 7, 2) := by decide +kernel
theorem dX11_feed_88 : decode cX11_feed 88 = .ok (.bipush 24, 2) := by decide +kernel
theorem dX11_feed_90 : decode cX11_feed 90 = .ok (.bipush 8, 2) := by decide +kernel
theorem dX11_feed_92 : decode cX11_feed 92 = .ok (.iload 6, 2) := by decide +kernel
theorem dX11_feed_94 : decode cX11_feed 94 = .ok (.iconst 4, 1) := by decide +kernel
theorem dX11_feed_95 : decode cX11_feed 95 = .ok (.irem, 1) := by decide +kernel
theorem dX11_feed_96 : decode cX11_feed 96 = .ok (.imul, 1) := by decide +kernel
theorem dX11_feed_97 : decode cX11_feed 97 = .ok (.isub, 1) := by decide +kernel
theorem dX11_feed_98 : decode cX11_feed 98 = .ok (.ishr, 1) := by decide +kernel
theorem dX11_feed_99 : decode cX11_feed 99 = .ok (.sipush 255, 3) := by decide +kernel
theorem dX11_feed_102 : decode cX11_feed 102 = .ok (.iand, 1) := by decide +kernel
theorem dX11_feed_103 : decode cX11_feed 103 = .ok (.iastore, 1) := by decide +kernel
theorem dX11_feed_104 : decode cX11_feed 104 = .ok (.aload_n 0, 1) := by decide +kernel
theorem dX11_feed_105 : decode cX11_feed 105 = .ok (.dup, 1) := by decide +kernel
theorem dX11_feed_106 : decode cX11_feed 106 = .ok (.getfield 76, 3) := by decide +kernel
theorem dX11_feed_109 : decode cX11_feed 109 = .ok (.iconst 1, 1) := by decide +kernel
theorem dX11_feed_110 : decode cX11_feed 110 = .ok (.iadd, 1) := by decide +kernel
theorem dX11_feed_111 : decode cX11_feed 111 = .ok (.putfield 76, 3) := by decide +kernel
theorem dX11_feed_114 : decode cX11_feed 114 = .ok (.iinc 6 1, 3) := by decide +kernel
theorem dX11_feed_117 : decode cX11_feed 117 = .ok (.goto (-94), 3) := by decide +kernel
theorem dX11_feed_120 : decode cX11_feed 120 = .ok (.aload_n 0, 1) := by decide +kernel
theorem dX11_feed_121 : decode cX11_feed 121 = .ok (.getfield 76, 3) := by decide +kernel
theorem dX11_feed_124 : decode cX11_feed 124 = .ok (.ireturn, 1) := by decide +kernel
theorem dX11_look_0 : decode cX11_look 0 = .ok (.iload_n 1, 1) := by decide +kernel
theorem dX11_look_1 : decode cX11_look 1 = .ok (.aload_n 0, 1) := by decide +kernel
theorem dX11_look_2 : decode cX11_look 2 = .ok (.getfield 79, 3) := by decide +kernel
theorem dX11_look_5 : decode cX11_look 5 = .ok (.if_icmp .ge 12, 3) := by decide +kernel
theorem dX11_look_8 : decode cX11_look 8 = .ok (.aload_n 0, 1) := by decide +kernel
theorem dX11_look_9 : decode cX11_look 9 = .ok (.getfield 7, 3) := by decide +kernel
theorem dX11_look_12 : decode cX11_look 12 = .ok (.iload_n 1, 1) := by decide +kernel
theorem dX11_look_13 : decode cX11_look 13 = .ok (.iaload, 1) := by decide +kernel
theorem dX11_look_14 : decode cX11_look 14 = .ok (.goto 4, 3) := by decide +kernel
theorem dX11_look_17 : decode cX11_look 17 = .ok (.iconst (-1), 1) := by decide +kernel
theorem dX11_look_18 : decode cX11_look 18 = .ok (.ireturn, 1) := by decide +kernel
theorem dX11_isSmall_0 : decode cX11_isSmall 0 = .ok (.iload_n 0, 1) := by decide +kernel
theorem dX11_isSmall_1 : decode cX11_isSmall 1 = .ok (.bipush 97, 2) := by decide +kernel
theorem dX11_isSmall_3 : decode cX11_isSmall 3 = .ok (.if_icmp .lt 13, 3) := by decide +kernel
theorem dX11_isSmall_6 : decode cX11_isSmall 6 = .ok (.iload_n 0, 1) := by decide +kernel
theorem dX11_isSmall_7 : decode cX11_isSmall 7 = .ok (.bipush 122, 2) := by decide +kernel
theorem dX11_isSmall_9 : decode cX11_isSmall 9 = .ok (.if_icmp .gt 7, 3) := by decide +kernel
theorem dX11_isSmall_12 : decode cX11_isSmall 12 = .ok (.iconst 1, 1) := by decide +kernel
theorem dX11_isSmall_13 : decode cX11_isSmall 13 = .ok (.goto 4, 3) := by decide +kernel
theorem dX11_isSmall_16 : decode cX11_isSmall 16 = .ok (.iconst 0, 1) := by decide +kernel
theorem dX11_isSmall_17 : decode cX11_isSmall 17 = .ok (.ireturn, 1) := by decide +kernel
theorem dX11_isDigit_0 : decode cX11_isDigit 0 = .ok (.iload_n 0, 1) := by decide +kernel
theorem dX11_isDigit_1 : decode cX11_isDigit 1 = .ok (.bipush 48, 2) := by decide +kernel
theorem dX11_isDigit_3 : decode cX11_isDigit 3 = .ok (.if_icmp .lt 13, 3) := by decide +kernel
theorem dX11_isDigit_6 : decode cX11_isDigit 6 = .ok (.iload_n 0, 1) := by decide +kernel
theorem dX11_isDigit_7 : decode cX11_isDigit 7 = .ok (.bipush 57, 2) := by decide +kernel
theorem dX11_isDigit_9 : decode cX11_isDigit 9 = .ok (.if_icmp .gt 7, 3) := by decide +kernel
theorem dX11_isDigit_12 : decode cX11_isDigit 12 = .ok (.iconst 1, 1) := by decide +kernel
theorem dX11_isDigit_13 : decode cX11_isDigit 13 = .ok (.goto 4, 3) := by decide +kernel
theorem dX11_isDigit_16 : decode cX11_isDigit 16 = .ok (.iconst 0, 1) := by decide +kernel
theorem dX11_isDigit_17 : decode cX11_isDigit 17 = .ok (.ireturn, 1) := by decide +kernel
theorem dX11_next_0 : decode cX11_next 0 = .ok (.aload_n 0, 1) := by decide +kernel
theorem dX11_next_1 : decode cX11_next 1 = .ok (.getfield 82, 3) := by decide +kernel
theorem dX11_next_4 : decode cX11_next 4 = .ok (.istore_n 1, 1) := by decide +kernel
theorem dX11_next_5 : decode cX11_next 5 = .ok (.aload_n 0, 1) := by decide +kernel
theorem dX11_next_6 : decode cX11_next 6 = .ok (.iload_n 1, 1) := by decide +kernel
theorem dX11_next_7 : decode cX11_next 7 = .ok (.invokevirtual 85, 3) := by decide +kernel
theorem dX11_next_10 : decode cX11_next 10 = .ok (.bipush 32, 2) := by decide +kernel
theorem dX11_next_12 : decode cX11_next 12 = .ok (.if_icmp .ne 9, 3) := by decide +kernel
theorem dX11_next_15 : decode cX11_next 15 = .ok (.iinc 1 1, 3) := by decide +kernel
theorem dX11_next_18 : decode cX11_next 18 = .ok (.goto (-13), 3) := by decide +kernel
theorem dX11_next_21 : decode cX11_next 21 = .ok (.aload_n 0, 1) := by decide +kernel
theorem dX11_next_22 : decode cX11_next 22 = .ok (.iload_n 1, 1) := by decide +kernel
theorem dX11_next_23 : decode cX11_next 23 = .ok (.putfield 89, 3) := by decide +kernel
theorem dX11_next_26 : decode cX11_next 26 = .ok (.aload_n 0, 1) := by decide +kernel
theorem dX11_next_27 : decode cX11_next 27 = .ok (.iload_n 1, 1) := by decide +kernel
theorem dX11_next_28 : decode cX11_next 28 = .ok (.invokevirtual 85, 3) := by decide +kernel
theorem dX11_next_31 : decode cX11_next 31 = .ok (.istore_n 2, 1) := by decide +kernel
theorem dX11_next_32 : decode cX11_next 32 = .ok (.aload_n 0, 1) := by decide +kernel
theorem dX11_next_33 : decode cX11_next 33 = .ok (.iconst 0, 1) := by decide +kernel
theorem dX11_next_34 : decode cX11_next 34 = .ok (.putfield 92, 3) := by decide +kernel
theorem dX11_next_37 : decode cX11_next 37 = .ok (.aload_n 0, 1) := by decide +kernel
theorem dX11_next_38 : decode cX11_next 38 = .ok (.iconst 0, 1) := by decide +kernel
theorem dX11_next_39 : decode cX11_next 39 = .ok (.putfield 95, 3) := by decide +kernel
theorem dX11_next_42 : decode cX11_next 42 = .ok (.iload_n 2, 1) := by decide +kernel
theorem dX11_next_43 : decode cX11_next 43 = .ok (.iconst (-1), 1) := by decide +kernel
theorem dX11_next_44 : decode cX11_next 44 = .ok (.if_icmp .ne 16, 3) := by decide +kernel
theorem dX11_next_47 : decode cX11_next 47 = .ok (.aload_n 0, 1) := by decide +kernel
theorem dX11_next_48 : decode cX11_next 48 = .ok (.iconst 0, 1) := by decide +kernel
theorem dX11_next_49 : decode cX11_next 49 = .ok (.putfield 98, 3) := by decide +kernel
theorem dX11_next_52 : decode cX11_next 52 = .ok (.aload_n 0, 1) := by decide +kernel
theorem dX11_next_53 : decode cX11_next 53 = .ok (.iload_n 1, 1) := by decide +kernel
theorem dX11_next_54 : decode cX11_next 54 = .ok (.putfield 82, 3) := by decide +kernel
theorem dX11_next_57 : decode cX11_next 57 = .ok (.goto 190, 3) := by decide +kernel
theorem dX11_next_60 : decode cX11_next 60 = .ok (.iload_n 2, 1) := by decide +kernel
theorem dX11_next_61 : decode cX11_next 61 = .ok (.invokestatic 101, 3) := by decide +kernel
theorem dX11_next_64 : decode cX11_next 64 = .ok (.ifCond .eq 79, 3) := by decide +kernel
theorem dX11_next_67 : decode cX11_next 67 = .ok (.aload_n 0, 1) := by decide +kernel
theorem dX11_next_68 : decode cX11_next 68 = .ok (.iload_n 1, 1) := by decide +kernel
theorem dX11_next_69 : decode cX11_next 69 = .ok (.invokevirtual 85, 3) := by decide +kernel
theorem dX11_next_72 : decode cX11_next 72 = .ok (.invokestatic 101, 3) := by decide +kernel
theorem dX11_next_75 : decode cX11_next 75 = .ok (.ifCond .eq 42, 3) := by decide +kernel
theorem dX11_next_78 : decode cX11_next 78 = .ok (.aload_n 0, 1) := by decide +kernel
theorem dX11_next_79 : decode cX11_next 79 = .ok (.getfield 92, 3) := by decide +kernel
theorem dX11_next_82 : decode cX11_next 82 = .ok (.bipush 8, 2) := by decide +kernel
theorem dX11_next_84 : decode cX11_next 84 = .ok (.if_icmp .ge 17, 3) := by decide +kernel
theorem dX11_next_87 : decode cX11_next 87 = .ok (.aload_n 0, 1) := by decide +kernel
theorem dX11_next_88 : decode cX11_next 88 = .ok (.getfield 17, 3) := by decide +kernel
theorem dX11_next_91 : decode cX11_next 91 = .ok (.aload_n 0, 1) := by decide +kernel
theorem dX11_next_92 : decode cX11_next 92 = .ok (.getfield 92, 3) := by decide +kernel
theorem dX11_next_95 : decode cX11_next 95 = .ok (.aload_n 0, 1) := by decide +kernel
theorem dX11_next_96 : decode cX11_next 96 = .ok (.iload_n 1, 1) := by decide +kernel
theorem dX11_next_97 : decode cX11_next 97 = .ok (.invokevirtual 85, 3) := by decide +kernel
theorem dX11_next_100 : decode cX11_next 100 = .ok (.iastore, 1) := by decide +kernel
theorem dX11_next_101 : decode cX11_next 101 = .ok (.aload_n 0, 1) := by decide +kernel
theorem dX11_next_102 : decode cX11_next 102 = .ok (.dup, 1) := by decide +kernel
theorem dX11_next_103 : decode cX11_next 103 = .ok (.getfield 92, 3) := by decide +kernel
theorem dX11_next_106 : decode cX11_next 106 = .ok (.iconst 1, 1) := by decide +kernel
theorem dX11_next_107 : decode cX11_next 107 = .ok (.iadd, 1) := by decide +kernel
theorem dX11_next_108 : decode cX11_next 108 = .ok (.putfield 92, 3) := by decide +kernel
theorem dX11_next_111 : decode cX11_next 111 = .ok (.iinc 1 1, 3) := by decide +kernel
theorem dX11_next_114 : decode cX11_next 114 = .ok (.goto (-47), 3) := by decide +kernel
theorem dX11_next_117 : decode cX11_next 117 = .ok (.aload_n 0, 1) := by decide +kernel
theorem dX11_next_118 : decode cX11_next 118 = .ok (.iload_n 1, 1) := by decide +kernel
theorem dX11_next_119 : decode cX11_next 119 = .ok (.putfield 82, 3) := by decide +kernel
theorem dX11_next_122 : decode cX11_next 122 = .ok (.aload_n 0, 1) := by decide +kernel
theorem dX11_next_123 : decode cX11_next 123 = .ok (.aload_n 0, 1) := by decide +kernel
theorem dX11_next_124 : decode cX11_next 124 = .ok (.getfield 92, 3) := by decide +kernel
theorem dX11_next_127 : decode cX11_next 127 = .ok (.bipush 8, 2) := by decide +kernel
theorem dX11_next_129 : decode cX11_next 129 = .ok (.if_icmp .le 7, 3) := by decide +kernel
theorem dX11_next_132 : decode cX11_next 132 = .ok (.iconst 1, 1) := by decide +kernel
theorem dX11_next_133 : decode cX11_next 133 = .ok (.goto 4, 3) := by decide +kernel
theorem dX11_next_136 : decode cX11_next 136 = .ok (.iconst 2, 1) := by decide +kernel
theorem dX11_next_137 : decode cX11_next 137 = .ok (.putfield 98, 3) := by decide +kernel
theorem dX11_next_140 : decode cX11_next 140 = .ok (.goto 107, 3) := by decide +kernel
theorem dX11_next_143 : decode cX11_next 143 = .ok (.iload_n 2, 1) := by decide +kernel
theorem dX11_next_144 : decode cX11_next 144 = .ok (.invokestatic 105, 3) := by decide +kernel
theorem dX11_next_147 : decode cX11_next 147 = .ok (.ifCond .eq 72, 3) := by decide +kernel
theorem dX11_next_150 : decode cX11_next 150 = .ok (.iconst 0, 1) := by decide +kernel
theorem dX11_next_151 : decode cX11_next 151 = .ok (.istore_n 3, 1) := by decide +kernel
theorem dX11_next_152 : decode cX11_next 152 = .ok (.aload_n 0, 1) := by decide +kernel
theorem dX11_next_153 : decode cX11_next 153 = .ok (.iload_n 1, 1) := by decide +kernel
theorem dX11_next_154 : decode cX11_next 154 = .ok (.invokevirtual 85, 3) := by decide +kernel
theorem dX11_next_157 : decode cX11_next 157 = .ok (.invokestatic 105, 3) := by decide +kernel
theorem dX11_next_160 : decode cX11_next 160 = .ok (.ifCond .eq 37, 3) := by decide +kernel
theorem dX11_next_163 : decode cX11_next 163 = .ok (.iload_n 3, 1) := by decide +kernel
theorem dX11_next_164 : decode cX11_next 164 = .ok (.iconst 3, 1) := by decide +kernel
theorem dX11_next_165 : decode cX11_next 165 = .ok (.if_icmp .ge 23, 3) := by decide +kernel
theorem dX11_next_168 : decode cX11_next 168 = .ok (.aload_n 0, 1) := by decide +kernel
theorem dX11_next_169 : decode cX11_next 169 = .ok (.bipush 10, 2) := by decide +kernel
theorem dX11_next_171 : decode cX11_next 171 = .ok (.aload_n 0, 1) := by decide +kernel
theorem dX11_next_172 : decode cX11_next 172 = .ok (.getfield 95, 3) := by decide +kernel
theorem dX11_next_175 : decode cX11_next 175 = .ok (.imul, 1) := by decide +kernel
theorem dX11_next_176 : decode cX11_next 176 = .ok (.aload_n 0, 1) := by decide +kernel
theorem dX11_next_177 : decode cX11_next 177 = .ok (.iload_n 1, 1) := by decide +kernel
theorem dX11_next_178 : decode cX11_next 178 = .ok (.invokevirtual 85, 3) := by decide +kernel
theorem dX11_next_181 : decode cX11_next 181 = .ok (.iadd, 1) := by decide +kernel
theorem dX11_next_182 : decode cX11_next 182 = .ok (.bipush 48, 2) := by decide +kernel
theorem dX11_next_184 : decode cX11_next 184 = .ok (.isub, 1) := by decide +kernel
theorem dX11_next_185 : decode cX11_next 185 = .ok (.putfield 95, 3) := by decide +kernel
theorem dX11_next_188 : decode cX11_next 188 = .ok (.iinc 3 1, 3) := by decide +kernel
theorem dX11_next_191 : decode cX11_next 191 = .ok (.iinc 1 1, 3) := by decide +kernel
theorem dX11_next_194 : decode cX11_next 194 = .ok (.goto (-42), 3) := by decide +kernel
theorem dX11_next_197 : decode cX11_next 197 = .ok (.aload_n 0, 1) := by decide +kernel
theorem dX11_next_198 : decode cX11_next 198 = .ok (.iload_n 1, 1) := by decide +kernel
theorem dX11_next_199 : decode cX11_next 199 = .ok (.putfield 82, 3) := by decide +kernel
theorem dX11_next_202 : decode cX11_next 202 = .ok (.aload_n 0, 1) := by decide +kernel
theorem dX11_next_203 : decode cX11_next 203 = .ok (.iload_n 3, 1) := by decide +kernel
theorem dX11_next_204 : decode cX11_next 204 = .ok (.iconst 3, 1) := by decide +kernel
theorem dX11_next_205 : decode cX11_next 205 = .ok (.if_icmp .le 7, 3) := by decide +kernel
theorem dX11_next_208 : decode cX11_next 208 = .ok (.iconst 1, 1) := by decide +kernel
theorem dX11_next_209 : decode cX11_next 209 = .ok (.goto 4, 3) := by decide +kernel
theorem dX11_next_212 : decode cX11_next 212 = .ok (.iconst 3, 1) := by decide +kernel
theorem dX11_next_213 : decode cX11_next 213 = .ok (.putfield 98, 3) := by decide +kernel
theorem dX11_next_216 : decode cX11_next 216 = .ok (.goto 31, 3) := by decide +kernel
theorem dX11_next_219 : decode cX11_next 219 = .ok (.aload_n 0, 1) := by decide +kernel
theorem dX11_next_220 : decode cX11_next 220 = .ok (.iload_n 1, 1) := by decide +kernel
theorem dX11_next_221 : decode cX11_next 221 = .ok (.iconst 1, 1) := by decide +kernel
theorem dX11_next_222 : decode cX11_next 222 = .ok (.iadd, 1) := by decide +kernel
theorem dX11_next_223 : decode cX11_next 223 = .ok (.putfield 82, 3) := by decide +kernel
theorem dX11_next_226 : decode cX11_next 226 = .ok (.aload_n 0, 1) := by decide +kernel
theorem dX11_next_227 : decode cX11_next 227 = .ok (.iload_n 2, 1) := by decide +kernel
theorem dX11_next_228 : decode cX11_next 228 = .ok (.bipush 59, 2) := by decide +kernel
theorem dX11_next_230 : decode cX11_next 230 = .ok (.if_icmp .eq 9, 3) := by decide +kernel
theorem dX11_next_233 : decode cX11_next 233 = .ok (.iload_n 2, 1) := by decide +kernel
theorem dX11_next_234 : decode cX11_next 234 = .ok (.bipush 44, 2) := by decide +kernel
theorem dX11_next_236 : decode cX11_next 236 = .ok (.if_icmp .ne 7, 3) := by decide +kernel
theorem dX11_next_239 : decode cX11_next 239 = .ok (.iload_n 2, 1) := by decide +kernel
theorem dX11_next_240 : decode cX11_next 240 = .ok (.goto 4, 3) := by decide +kernel
theorem dX11_next_243 : decode cX11_next 243 = .ok (.iconst 1, 1) := by decide +kernel
theorem dX11_next_244 : decode cX11_next 244 = .ok (.putfield 98, 3) := by decide +kernel
theorem dX11_next_247 : decode cX11_next 247 = .ok (.return_, 1) := by decide +kernel
theorem dX11_wrong_0 : decode cX11_wrong 0 = .ok (.aload_n 0, 1) := by decide +kernel
theorem dX11_wrong_1 : decode cX11_wrong 1 = .ok (.getfield 108, 3) := by decide +kernel
theorem dX11_wrong_4 : decode cX11_wrong 4 = .ok (.ifCond .eq 4, 3) := by decide +kernel
theorem dX11_wrong_7 : decode cX11_wrong 7 = .ok (.return_, 1) := by decide +kernel
theorem dX11_wrong_8 : decode cX11_wrong 8 = .ok (.aload_n 0, 1) := by decide +kernel
theorem dX11_wrong_9 : decode cX11_wrong 9 = .ok (.iconst 1, 1) := by decide +kernel
theorem dX11_wrong_10 : decode cX11_wrong 10 = .ok (.putfield 108, 3) := by decide +kernel
theorem dX11_wrong_13 : decode cX11_wrong 13 = .ok (.aload_n 0, 1) := by decide +kernel
theorem dX11_wrong_14 : decode cX11_wrong 14 = .ok (.iload_n 1, 1) := by decide +kernel
theorem dX11_wrong_15 : decode cX11_wrong 15 = .ok (.putfield 112, 3) := by decide +kernel
theorem dX11_wrong_18 : decode cX11_wrong 18 = .ok (.aload_n 0, 1) := by decide +kernel
theorem dX11_wrong_19 : decode cX11_wrong 19 = .ok (.iload_n 2, 1) := by decide +kernel
theorem dX11_wrong_20 : decode cX11_wrong 20 = .ok (.putfield 13, 3) := by decide +kernel
theorem dX11_wrong_23 : decode cX11_wrong 23 = .ok (.return_, 1) := by decide +kernel
theorem dX11_isWord_0 : decode cX11_isWord 0 = .ok (.aload_n 0, 1) := by decide +kernel
theorem dX11_isWord_1 : decode cX11_isWord 1 = .ok (.getfield 108, 3) := by decide +kernel
theorem dX11_isWord_4 : decode cX11_isWord 4 = .ok (.ifCond .ne 22, 3) := by decide +kernel
theorem dX11_isWord_7 : decode cX11_isWord 7 = .ok (.aload_n 0, 1) := by decide +kernel
theorem dX11_isWord_8 : decode cX11_isWord 8 = .ok (.getfield 98, 3) := by decide +kernel
theorem dX11_isWord_11 : decode cX11_isWord 11 = .ok (.iconst 2, 1) := by decide +kernel
theorem dX11_isWord_12 : decode cX11_isWord 12 = .ok (.if_icmp .ne 14, 3) := by decide +kernel
theorem dX11_isWord_15 : decode cX11_isWord 15 = .ok (.aload_n 0, 1) := by decide +kernel
theorem dX11_isWord_16 : decode cX11_isWord 16 = .ok (.getfield 92, 3) := by decide +kernel
theorem dX11_isWord_19 : decode cX11_isWord 19 = .ok (.aload_n 1, 1) := by decide +kernel
theorem dX11_isWord_20 : decode cX11_isWord 20 = .ok (.invokevirtual 115, 3) := by decide +kernel
theorem dX11_isWord_23 : decode cX11_isWord 23 = .ok (.if_icmp .eq 5, 3) := by decide +kernel
theorem dX11_isWord_26 : decode cX11_isWord 26 = .ok (.iconst 0, 1) := by decide +kernel
theorem dX11_isWord_27 : decode cX11_isWord 27 = .ok (.ireturn, 1) := by decide +kernel
theorem dX11_isWord_28 : decode cX11_isWord 28 = .ok (.iconst 1, 1) := by decide +kernel
theorem dX11_isWord_29 : decode cX11_isWord 29 = .ok (.istore_n 2, 1) := by decide +kernel
theorem dX11_isWord_30 : decode cX11_isWord 30 = .ok (.iconst 0, 1) := by decide +kernel
theorem dX11_isWord_31 : decode cX11_isWord 31 = .ok (.istore_n 3, 1) := by decide +kernel
theorem dX11_isWord_32 : decode cX11_isWord 32 = .ok (.iload_n 3, 1) := by decide +kernel
theorem dX11_isWord_33 : decode cX11_isWord 33 = .ok (.aload_n 0, 1) := by decide +kernel
theorem dX11_isWord_34 : decode cX11_isWord 34 = .ok (.getfield 92, 3) := by decide +kernel
theorem dX11_isWord_37 : decode cX11_isWord 37 = .ok (.if_icmp .ge 33, 3) := by decide +kernel
theorem dX11_isWord_40 : decode cX11_isWord 40 = .ok (.iload_n 2, 1) := by decide +kernel
theorem dX11_isWord_41 : decode cX11_isWord 41 = .ok (.ifCond .eq 21, 3) := by decide +kernel
theorem dX11_isWord_44 : decode cX11_isWord 44 = .ok (.aload_n 0, 1) := by decide +kernel
theorem dX11_isWord_45 : decode cX11_isWord 45 = .ok (.getfield 17, 3) := by decide +kernel
theorem dX11_isWord_48 : decode cX11_isWord 48 = .ok (.iload_n 3, 1) := by decide +kernel
theorem dX11_isWord_49 : decode cX11_isWord 49 = .ok (.iaload, 1) := by decide +kernel
theorem dX11_isWord_50 : decode cX11_isWord 50 = .ok (.aload_n 1, 1) := by decide +kernel
theorem dX11_isWord_51 : decode cX11_isWord 51 = .ok (.iload_n 3, 1) := by decide +kernel
theorem dX11_isWord_52 : decode cX11_isWord 52 = .ok (.invokevirtual 121, 3) := by decide +kernel
theorem dX11_isWord_55 : decode cX11_isWord 55 = .ok (.if_icmp .ne 7, 3) := by decide +kernel
theorem dX11_isWord_58 : decode cX11_isWord 58 = .ok (.iconst 1, 1) := by decide +kernel
theorem dX11_isWord_59 : decode cX11_isWord 59 = .ok (.goto 4, 3) := by decide +kernel
theorem dX11_isWord_62 : decode cX11_isWord 62 = .ok (.iconst 0, 1) := by decide +kernel
theorem dX11_isWord_63 : decode cX11_isWord 63 = .ok (.istore_n 2, 1) := by decide +kernel
theorem dX11_isWord_64 : decode cX11_isWord 64 = .ok (.iinc 3 1, 3) := by decide +kernel
theorem dX11_isWord_67 : decode cX11_isWord 67 = .ok (.goto (-35), 3) := by decide +kernel
theorem dX11_isWord_70 : decode cX11_isWord 70 = .ok (.iload_n 2, 1) := by decide +kernel
theorem dX11_isWord_71 : decode cX11_isWord 71 = .ok (.ireturn, 1) := by decide +kernel
theorem dX11_takesWord_0 : decode cX11_takesWord 0 = .ok (.aload_n 0, 1) := by decide +kernel
theorem dX11_takesWord_1 : decode cX11_takesWord 1 = .ok (.aload_n 1, 1) := by decide +kernel
theorem dX11_takesWord_2 : decode cX11_takesWord 2 = .ok (.invokevirtual 125, 3) := by decide +kernel
theorem dX11_takesWord_5 : decode cX11_takesWord 5 = .ok (.ifCond .ne 5, 3) := by decide +kernel
theorem dX11_takesWord_8 : decode cX11_takesWord 8 = .ok (.iconst 0, 1) := by decide +kernel
theorem dX11_takesWord_9 : decode cX11_takesWord 9 = .ok (.ireturn, 1) := by decide +kernel
theorem dX11_takesWord_10 : decode cX11_takesWord 10 = .ok (.aload_n 0, 1) := by decide +kernel
theorem dX11_takesWord_11 : decode cX11_takesWord 11 = .ok (.invokevirtual 129, 3) := by decide +kernel
theorem dX11_takesWord_14 : decode cX11_takesWord 14 = .ok (.iconst 1, 1) := by decide +kernel
theorem dX11_takesWord_15 : decode cX11_takesWord 15 = .ok (.ireturn, 1) := by decide +kernel
theorem dX11_must_0 : decode cX11_must 0 = .ok (.aload_n 0, 1) := by decide +kernel
theorem dX11_must_1 : decode cX11_must 1 = .ok (.getfield 108, 3) := by decide +kernel
theorem dX11_must_4 : decode cX11_must 4 = .ok (.ifCond .ne 20, 3) := by decide +kernel
theorem dX11_must_7 : decode cX11_must 7 = .ok (.aload_n 0, 1) := by decide +kernel
theorem dX11_must_8 : decode cX11_must 8 = .ok (.aload_n 1, 1) := by decide +kernel
theorem dX11_must_9 : decode cX11_must 9 = .ok (.invokevirtual 132, 3) := by decide +kernel
theorem dX11_must_12 : decode cX11_must 12 = .ok (.ifCond .ne 12, 3) := by decide +kernel
theorem dX11_must_15 : decode cX11_must 15 = .ok (.aload_n 0, 1) := by decide +kernel
theorem dX11_must_16 : decode cX11_must 16 = .ok (.iconst 1, 1) := by decide +kernel
theorem dX11_must_17 : decode cX11_must 17 = .ok (.aload_n 0, 1) := by decide +kernel
theorem dX11_must_18 : decode cX11_must 18 = .ok (.getfield 89, 3) := by decide +kernel
theorem dX11_must_21 : decode cX11_must 21 = .ok (.invokevirtual 135, 3) := by decide +kernel
theorem dX11_must_24 : decode cX11_must 24 = .ok (.return_, 1) := by decide +kernel
theorem dX11_mustName_0 : decode cX11_mustName 0 = .ok (.aload_n 0, 1) := by decide +kernel
theorem dX11_mustName_1 : decode cX11_mustName 1 = .ok (.ldc 139, 2) := by decide +kernel
theorem dX11_mustName_3 : decode cX11_mustName 3 = .ok (.invokevirtual 125, 3) := by decide +kernel
theorem dX11_mustName_6 : decode cX11_mustName 6 = .ok (.ifCond .ne 57, 3) := by decide +kernel
theorem dX11_mustName_9 : decode cX11_mustName 9 = .ok (.aload_n 0, 1) := by decide +kernel
theorem dX11_mustName_10 : decode cX11_mustName 10 = .ok (.ldc 141, 2) := by decide +kernel
theorem dX11_mustName_12 : decode cX11_mustName 12 = .ok (.invokevirtual 125, 3) := by decide +kernel
theorem dX11_mustName_15 : decode cX11_mustName 15 = .ok (.ifCond .ne 48, 3) := by decide +kernel
theorem dX11_mustName_18 : decode cX11_mustName 18 = .ok (.aload_n 0, 1) := by decide +kernel
theorem dX11_mustName_19 : decode cX11_mustName 19 = .ok (.ldc 142, 2) := by decide +kernel
theorem dX11_mustName_21 : decode cX11_mustName 21 = .ok (.invokevirtual 125, 3) := by decide +kernel
theorem dX11_mustName_24 : decode cX11_mustName 24 = .ok (.ifCond .ne 39, 3) := by decide +kernel
theorem dX11_mustName_27 : decode cX11_mustName 27 = .ok (.aload_n 0, 1) := by decide +kernel
theorem dX11_mustName_28 : decode cX11_mustName 28 = .ok (.ldc 144, 2) := by decide +kernel
theorem dX11_mustName_30 : decode cX11_mustName 30 = .ok (.invokevirtual 125, 3) := by decide +kernel
theorem dX11_mustName_33 : decode cX11_mustName 33 = .ok (.ifCond .ne 30, 3) := by decide +kernel
theorem dX11_mustName_36 : decode cX11_mustName 36 = .ok (.aload_n 0, 1) := by decide +kernel
theorem dX11_mustName_37 : decode cX11_mustName 37 = .ok (.ldc 146, 2) := by decide +kernel
theorem dX11_mustName_39 : decode cX11_mustName 39 = .ok (.invokevirtual 125, 3) := by decide +kernel
theorem dX11_mustName_42 : decode cX11_mustName 42 = .ok (.ifCond .ne 21, 3) := by decide +kernel
theorem dX11_mustName_45 : decode cX11_mustName 45 = .ok (.aload_n 0, 1) := by decide +kernel
theorem dX11_mustName_46 : decode cX11_mustName 46 = .ok (.ldc 148, 2) := by decide +kernel
theorem dX11_mustName_48 : decode cX11_mustName 48 = .ok (.invokevirtual 125, 3) := by decide +kernel
theorem dX11_mustName_51 : decode cX11_mustName 51 = .ok (.ifCond .ne 12, 3) := by decide +kernel
theorem dX11_mustName_54 : decode cX11_mustName 54 = .ok (.aload_n 0, 1) := by decide +kernel
theorem dX11_mustName_55 : decode cX11_mustName 55 = .ok (.ldc 150, 2) := by decide +kernel
theorem dX11_mustName_57 : decode cX11_mustName 57 = .ok (.invokevirtual 125, 3) := by decide +kernel
theorem dX11_mustName_60 : decode cX11_mustName 60 = .ok (.ifCond .eq 7, 3) := by decide +kernel
theorem dX11_mustName_63 : decode cX11_mustName 63 = .ok (.iconst 1, 1) := by decide +kernel
theorem dX11_mustName_64 : decode cX11_mustName 64 = .ok (.goto 4, 3) := by decide +kernel
theorem dX11_mustName_67 : decode cX11_mustName 67 = .ok (.iconst 0, 1) := by decide +kernel
theorem dX11_mustName_68 : decode cX11_mustName 68 = .ok (.istore_n 1, 1) := by decide +kernel
theorem dX11_mustName_69 : decode cX11_mustName 69 = .ok (.aload_n 0, 1) := by decide +kernel
theorem dX11_mustName_70 : decode cX11_mustName 70 = .ok (.getfield 98, 3) := by decide +kernel
theorem dX11_mustName_73 : decode cX11_mustName 73 = .ok (.iconst 2, 1) := by decide +kernel
theorem dX11_mustName_74 : decode cX11_mustName 74 = .ok (.if_icmp .ne 7, 3) := by decide +kernel
theorem dX11_mustName_77 : decode cX11_mustName 77 = .ok (.iload_n 1, 1) := by decide +kernel
theorem dX11_mustName_78 : decode cX11_mustName 78 = .ok (.ifCond .eq 12, 3) := by decide +kernel
theorem dX11_mustName_81 : decode cX11_mustName 81 = .ok (.aload_n 0, 1) := by decide +kernel
theorem dX11_mustName_82 : decode cX11_mustName 82 = .ok (.iconst 1, 1) := by decide +kernel
theorem dX11_mustName_83 : decode cX11_mustName 83 = .ok (.aload_n 0, 1) := by decide +kernel
theorem dX11_mustName_84 : decode cX11_mustName 84 = .ok (.getfield 89, 3) := by decide +kernel
theorem dX11_mustName_87 : decode cX11_mustName 87 = .ok (.invokevirtual 135, 3) := by decide +kernel
theorem dX11_mustName_90 : decode cX11_mustName 90 = .ok (.return_, 1) := by decide +kernel
theorem dX11_find_0 : decode cX11_find 0 = .ok (.iconst 0, 1) := by decide +kernel
theorem dX11_find_1 : decode cX11_find 1 = .ok (.istore_n 1, 1) := by decide +kernel
theorem dX11_find_2 : decode cX11_find 2 = .ok (.iload_n 1, 1) := by decide +kernel
theorem dX11_find_3 : decode cX11_find 3 = .ok (.aload_n 0, 1) := by decide +kernel
theorem dX11_find_4 : decode cX11_find 4 = .ok (.getfield 23, 3) := by decide +kernel
theorem dX11_find_7 : decode cX11_find 7 = .ok (.iconst 5, 1) := by decide +kernel
theorem dX11_find_8 : decode cX11_find 8 = .ok (.iaload, 1) := by decide +kernel
theorem dX11_find_9 : decode cX11_find 9 = .ok (.if_icmp .ge 88, 3) := by decide +kernel
theorem dX11_find_12 : decode cX11_find 12 = .ok (.aload_n 0, 1) := by decide +kernel
theorem dX11_find_13 : decode cX11_find 13 = .ok (.getfield 23, 3) := by decide +kernel
theorem dX11_find_16 : decode cX11_find 16 = .ok (.sipush 219, 3) := by decide +kernel
theorem dX11_find_19 : decode cX11_find 19 = .ok (.iload_n 1, 1) := by decide +kernel
theorem dX11_find_20 : decode cX11_find 20 = .ok (.iadd, 1) := by decide +kernel
theorem dX11_find_21 : decode cX11_find 21 = .ok (.iaload, 1) := by decide +kernel
theorem dX11_find_22 : decode cX11_find 22 = .ok (.aload_n 0, 1) := by decide +kernel
theorem dX11_find_23 : decode cX11_find 23 = .ok (.getfield 92, 3) := by decide +kernel
theorem dX11_find_26 : decode cX11_find 26 = .ok (.if_icmp .ne 7, 3) := by decide +kernel
theorem dX11_find_29 : decode cX11_find 29 = .ok (.iconst 1, 1) := by decide +kernel
theorem dX11_find_30 : decode cX11_find 30 = .ok (.goto 4, 3) := by decide +kernel
theorem dX11_find_33 : decode cX11_find 33 = .ok (.iconst 0, 1) := by decide +kernel
theorem dX11_find_34 : decode cX11_find 34 = .ok (.istore_n 2, 1) := by decide +kernel
theorem dX11_find_35 : decode cX11_find 35 = .ok (.iconst 0, 1) := by decide +kernel
theorem dX11_find_36 : decode cX11_find 36 = .ok (.istore_n 3, 1) := by decide +kernel
theorem dX11_find_37 : decode cX11_find 37 = .ok (.iload_n 3, 1) := by decide +kernel
theorem dX11_find_38 : decode cX11_find 38 = .ok (.aload_n 0, 1) := by decide +kernel
theorem dX11_find_39 : decode cX11_find 39 = .ok (.getfield 92, 3) := by decide +kernel
theorem dX11_find_42 : decode cX11_find 42 = .ok (.if_icmp .ge 43, 3) := by decide +kernel
theorem dX11_find_45 : decode cX11_find 45 = .ok (.iload_n 2, 1) := by decide +kernel
theorem dX11_find_46 : decode cX11_find 46 = .ok (.ifCond .eq 39, 3) := by decide +kernel
theorem dX11_find_49 : decode cX11_find 49 = .ok (.aload_n 0, 1) := by decide +kernel
theorem dX11_find_50 : decode cX11_find 50 = .ok (.getfield 23, 3) := by decide +kernel
theorem dX11_find_53 : decode cX11_find 53 = .ok (.sipush 228, 3) := by decide +kernel
theorem dX11_find_56 : decode cX11_find 56 = .ok (.bipush 8, 2) := by decide +kernel
theorem dX11_find_58 : decode cX11_find 58 = .ok (.iload_n 1, 1) := by decide +kernel
theorem dX11_find_59 : decode cX11_find 59 = .ok (.imul, 1) := by decide +kernel
theorem dX11_find_60 : decode cX11_find 60 = .ok (.iadd, 1) := by decide +kernel
theorem dX11_find_61 : decode cX11_find 61 = .ok (.iload_n 3, 1) := by decide +kernel
theorem dX11_find_62 : decode cX11_find 62 = .ok (.iadd, 1) := by decide +kernel
theorem dX11_find_63 : decode cX11_find 63 = .ok (.iaload, 1) := by decide +kernel
theorem dX11_find_64 : decode cX11_find 64 = .ok (.aload_n 0, 1) := by decide +kernel
theorem dX11_find_65 : decode cX11_find 65 = .ok (.getfield 17, 3) := by decide +kernel
theorem dX11_find_68 : decode cX11_find 68 = .ok (.iload_n 3, 1) := by decide +kernel
theorem dX11_find_69 : decode cX11_find 69 = .ok (.iaload, 1) := by decide +kernel
theorem dX11_find_70 : decode cX11_find 70 = .ok (.if_icmp .ne 7, 3) := by decide +kernel
theorem dX11_find_73 : decode cX11_find 73 = .ok (.iconst 1, 1) := by decide +kernel
theorem dX11_find_74 : decode cX11_find 74 = .ok (.goto 4, 3) := by decide +kernel
theorem dX11_find_77 : decode cX11_find 77 = .ok (.iconst 0, 1) := by decide +kernel
theorem dX11_find_78 : decode cX11_find 78 = .ok (.istore_n 2, 1) := by decide +kernel
theorem dX11_find_79 : decode cX11_find 79 = .ok (.iinc 3 1, 3) := by decide +kernel
theorem dX11_find_82 : decode cX11_find 82 = .ok (.goto (-45), 3) := by decide +kernel
theorem dX11_find_85 : decode cX11_find 85 = .ok (.iload_n 2, 1) := by decide +kernel
theorem dX11_find_86 : decode cX11_find 86 = .ok (.ifCond .eq 5, 3) := by decide +kernel
theorem dX11_find_89 : decode cX11_find 89 = .ok (.iload_n 1, 1) := by decide +kernel
theorem dX11_find_90 : decode cX11_find 90 = .ok (.ireturn, 1) := by decide +kernel
theorem dX11_find_91 : decode cX11_find 91 = .ok (.iinc 1 1, 3) := by decide +kernel
theorem dX11_find_94 : decode cX11_find 94 = .ok (.goto (-92), 3) := by decide +kernel
theorem dX11_find_97 : decode cX11_find 97 = .ok (.iconst (-1), 1) := by decide +kernel
theorem dX11_find_98 : decode cX11_find 98 = .ok (.ireturn, 1) := by decide +kernel
theorem dX11_placeHere_0 : decode cX11_placeHere 0 = .ok (.aload_n 0, 1) := by decide +kernel
theorem dX11_placeHere_1 : decode cX11_placeHere 1 = .ok (.getfield 108, 3) := by decide +kernel
theorem dX11_placeHere_4 : decode cX11_placeHere 4 = .ok (.ifCond .eq 5, 3) := by decide +kernel
theorem dX11_placeHere_7 : decode cX11_placeHere 7 = .ok (.iconst 0, 1) := by decide +kernel
theorem dX11_placeHere_8 : decode cX11_placeHere 8 = .ok (.ireturn, 1) := by decide +kernel
theorem dX11_placeHere_9 : decode cX11_placeHere 9 = .ok (.aload_n 0, 1) := by decide +kernel
theorem dX11_placeHere_10 : decode cX11_placeHere 10 = .ok (.invokevirtual 152, 3) := by decide +kernel
theorem dX11_placeHere_13 : decode cX11_placeHere 13 = .ok (.aload_n 0, 1) := by decide +kernel
theorem dX11_placeHere_14 : decode cX11_placeHere 14 = .ok (.getfield 108, 3) := by decide +kernel
theorem dX11_placeHere_17 : decode cX11_placeHere 17 = .ok (.ifCond .eq 5, 3) := by decide +kernel
theorem dX11_placeHere_20 : decode cX11_placeHere 20 = .ok (.iconst 0, 1) := by decide +kernel
theorem dX11_placeHere_21 : decode cX11_placeHere 21 = .ok (.ireturn, 1) := by decide +kernel
theorem dX11_placeHere_22 : decode cX11_placeHere 22 = .ok (.aload_n 0, 1) := by decide +kernel
theorem dX11_placeHere_23 : decode cX11_placeHere 23 = .ok (.invokevirtual 155, 3) := by decide +kernel
theorem dX11_placeHere_26 : decode cX11_placeHere 26 = .ok (.istore_n 1, 1) := by decide +kernel
theorem dX11_placeHere_27 : decode cX11_placeHere 27 = .ok (.iload_n 1, 1) := by decide +kernel
theorem dX11_placeHere_28 : decode cX11_placeHere 28 = .ok (.ifCond .ge 12, 3) := by decide +kernel
theorem dX11_placeHere_31 : decode cX11_placeHere 31 = .ok (.aload_n 0, 1) := by decide +kernel
theorem dX11_placeHere_32 : decode cX11_placeHere 32 = .ok (.iconst 2, 1) := by decide +kernel
theorem dX11_placeHere_33 : decode cX11_placeHere 33 = .ok (.aload_n 0, 1) := by decide +kernel
theorem dX11_placeHere_34 : decode cX11_placeHere 34 = .ok (.getfield 89, 3) := by decide +kernel
theorem dX11_placeHere_37 : decode cX11_placeHere 37 = .ok (.invokevirtual 135, 3) := by decide +kernel
theorem dX11_placeHere_40 : decode cX11_placeHere 40 = .ok (.aload_n 0, 1) := by decide +kernel
theorem dX11_placeHere_41 : decode cX11_placeHere 41 = .ok (.getfield 108, 3) := by decide +kernel
theorem dX11_placeHere_44 : decode cX11_placeHere 44 = .ok (.ifCond .eq 7, 3) := by decide +kernel
theorem dX11_placeHere_47 : decode cX11_placeHere 47 = .ok (.iconst 0, 1) := by decide +kernel
theorem dX11_placeHere_48 : decode cX11_placeHere 48 = .ok (.goto 4, 3) := by decide +kernel
theorem dX11_placeHere_51 : decode cX11_placeHere 51 = .ok (.iload_n 1, 1) := by decide +kernel
theorem dX11_placeHere_52 : decode cX11_placeHere 52 = .ok (.ireturn, 1) := by decide +kernel
theorem dX11_placePassed_0 : decode cX11_placePassed 0 = .ok (.aload_n 0, 1) := by decide +kernel
theorem dX11_placePassed_1 : decode cX11_placePassed 1 = .ok (.invokevirtual 158, 3) := by decide +kernel
theorem dX11_placePassed_4 : decode cX11_placePassed 4 = .ok (.istore_n 1, 1) := by decide +kernel
theorem dX11_placePassed_5 : decode cX11_placePassed 5 = .ok (.aload_n 0, 1) := by decide +kernel
theorem dX11_placePassed_6 : decode cX11_placePassed 6 = .ok (.getfield 108, 3) := by decide +kernel
theorem dX11_placePassed_9 : decode cX11_placePassed 9 = .ok (.ifCond .ne 7, 3) := by decide +kernel
theorem dX11_placePassed_12 : decode cX11_placePassed 12 = .ok (.aload_n 0, 1) := by decide +kernel
theorem dX11_placePassed_13 : decode cX11_placePassed 13 = .ok (.invokevirtual 129, 3) := by decide +kernel
theorem dX11_placePassed_16 : decode cX11_placePassed 16 = .ok (.iload_n 1, 1) := by decide +kernel
theorem dX11_placePassed_17 : decode cX11_placePassed 17 = .ok (.ireturn, 1) := by decide +kernel
theorem dX11_numberHere_0 : decode cX11_numberHere 0 = .ok (.aload_n 0, 1) := by decide +kernel
theorem dX11_numberHere_1 : decode cX11_numberHere 1 = .ok (.getfield 108, 3) := by decide +kernel
theorem dX11_numberHere_4 : decode cX11_numberHere 4 = .ok (.ifCond .eq 5, 3) := by decide +kernel
theorem dX11_numberHere_7 : decode cX11_numberHere 7 = .ok (.iload_n 1, 1) := by decide +kernel
theorem dX11_numberHere_8 : decode cX11_numberHere 8 = .ok (.ireturn, 1) := by decide +kernel
theorem dX11_numberHere_9 : decode cX11_numberHere 9 = .ok (.aload_n 0, 1) := by decide +kernel
theorem dX11_numberHere_10 : decode cX11_numberHere 10 = .ok (.getfield 98, 3) := by decide +kernel
theorem dX11_numberHere_13 : decode cX11_numberHere 13 = .ok (.iconst 3, 1) := by decide +kernel
theorem dX11_numberHere_14 : decode cX11_numberHere 14 = .ok (.if_icmp .eq 15, 3) := by decide +kernel
theorem dX11_numberHere_17 : decode cX11_numberHere 17 = .ok (.aload_n 0, 1) := by decide +kernel
theorem dX11_numberHere_18 : decode cX11_numberHere 18 = .ok (.iconst 1, 1) := by decide +kernel
theorem dX11_numberHere_19 : decode cX11_numberHere 19 = .ok (.aload_n 0, 1) := by decide +kernel
theorem dX11_numberHere_20 : decode cX11_numberHere 20 = .ok (.getfield 89, 3) := by decide +kernel
theorem dX11_numberHere_23 : decode cX11_numberHere 23 = .ok (.invokevirtual 135, 3) := by decide +kernel
theorem dX11_numberHere_26 : decode cX11_numberHere 26 = .ok (.goto 24, 3) := by decide +kernel
theorem dX11_numberHere_29 : decode cX11_numberHere 29 = .ok (.aload_n 0, 1) := by decide +kernel
theorem dX11_numberHere_30 : decode cX11_numberHere 30 = .ok (.getfield 95, 3) := by decide +kernel
theorem dX11_numberHere_33 : decode cX11_numberHere 33 = .ok (.iload_n 1, 1) := by decide +kernel
theorem dX11_numberHere_34 : decode cX11_numberHere 34 = .ok (.iload_n 2, 1) := by decide +kernel
theorem dX11_numberHere_35 : decode cX11_numberHere 35 = .ok (.invokestatic 161, 3) := by decide +kernel
theorem dX11_numberHere_38 : decode cX11_numberHere 38 = .ok (.ifCond .ne 12, 3) := by decide +kernel
theorem dX11_numberHere_41 : decode cX11_numberHere 41 = .ok (.aload_n 0, 1) := by decide +kernel
theorem dX11_numberHere_42 : decode cX11_numberHere 42 = .ok (.iconst 4, 1) := by decide +kernel
theorem dX11_numberHere_43 : decode cX11_numberHere 43 = .ok (.aload_n 0, 1) := by decide +kernel
theorem dX11_numberHere_44 : decode cX11_numberHere 44 = .ok (.getfield 89, 3) := by decide +kernel
theorem dX11_numberHere_47 : decode cX11_numberHere 47 = .ok (.invokevirtual 135, 3) := by decide +kernel
theorem dX11_numberHere_50 : decode cX11_numberHere 50 = .ok (.aload_n 0, 1) := by decide +kernel
theorem dX11_numberHere_51 : decode cX11_numberHere 51 = .ok (.getfield 108, 3) := by decide +kernel
theorem dX11_numberHere_54 : decode cX11_numberHere 54 = .ok (.ifCond .eq 7, 3) := by decide +kernel
theorem dX11_numberHere_57 : decode cX11_numberHere 57 = .ok (.iload_n 1, 1) := by decide +kernel
theorem dX11_numberHere_58 : decode cX11_numberHere 58 = .ok (.goto 7, 3) := by decide +kernel
theorem dX11_numberHere_61 : decode cX11_numberHere 61 = .ok (.aload_n 0, 1) := by decide +kernel
theorem dX11_numberHere_62 : decode cX11_numberHere 62 = .ok (.getfield 95, 3) := by decide +kernel
theorem dX11_numberHere_65 : decode cX11_numberHere 65 = .ok (.ireturn, 1) := by decide +kernel
theorem dX11_number_0 : decode cX11_number 0 = .ok (.aload_n 0, 1) := by decide +kernel
theorem dX11_number_1 : decode cX11_number 1 = .ok (.iload_n 1, 1) := by decide +kernel
theorem dX11_number_2 : decode cX11_number 2 = .ok (.iload_n 2, 1) := by decide +kernel
theorem dX11_number_3 : decode cX11_number 3 = .ok (.invokevirtual 165, 3) := by decide +kernel
theorem dX11_number_6 : decode cX11_number 6 = .ok (.istore_n 3, 1) := by decide +kernel
theorem dX11_number_7 : decode cX11_number 7 = .ok (.aload_n 0, 1) := by decide +kernel
theorem dX11_number_8 : decode cX11_number 8 = .ok (.getfield 108, 3) := by decide +kernel
theorem dX11_number_11 : decode cX11_number 11 = .ok (.ifCond .ne 7, 3) := by decide +kernel
theorem dX11_number_14 : decode cX11_number 14 = .ok (.aload_n 0, 1) := by decide +kernel
theorem dX11_number_15 : decode cX11_number 15 = .ok (.invokevirtual 129, 3) := by decide +kernel
theorem dX11_number_18 : decode cX11_number 18 = .ok (.iload_n 3, 1) := by decide +kernel
theorem dX11_number_19 : decode cX11_number 19 = .ok (.ireturn, 1) := by decide +kernel
theorem dX11_after_0 : decode cX11_after 0 = .ok (.aload_n 0, 1) := by decide +kernel
theorem dX11_after_1 : decode cX11_after 1 = .ok (.aload_n 1, 1) := by decide +kernel
theorem dX11_after_2 : decode cX11_after 2 = .ok (.invokevirtual 169, 3) := by decide +kernel
theorem dX11_after_5 : decode cX11_after 5 = .ok (.aload_n 0, 1) := by decide +kernel
theorem dX11_after_6 : decode cX11_after 6 = .ok (.iload_n 2, 1) := by decide +kernel
theorem dX11_after_7 : decode cX11_after 7 = .ok (.iload_n 3, 1) := by decide +kernel
theorem dX11_after_8 : decode cX11_after 8 = .ok (.invokevirtual 173, 3) := by decide +kernel
theorem dX11_after_11 : decode cX11_after 11 = .ok (.ireturn, 1) := by decide +kernel
theorem dX11_comma_0 : decode cX11_comma 0 = .ok (.aload_n 0, 1) := by decide +kernel
theorem dX11_comma_1 : decode cX11_comma 1 = .ok (.getfield 108, 3) := by decide +kernel
theorem dX11_comma_4 : decode cX11_comma 4 = .ok (.ifCond .ne 12, 3) := by decide +kernel
theorem dX11_comma_7 : decode cX11_comma 7 = .ok (.aload_n 0, 1) := by decide +kernel
theorem dX11_comma_8 : decode cX11_comma 8 = .ok (.getfield 98, 3) := by decide +kernel
theorem dX11_comma_11 : decode cX11_comma 11 = .ok (.bipush 44, 2) := by decide +kernel
theorem dX11_comma_13 : decode cX11_comma 13 = .ok (.if_icmp .eq 5, 3) := by decide +kernel
theorem dX11_comma_16 : decode cX11_comma 16 = .ok (.iconst 0, 1) := by decide +kernel
theorem dX11_comma_17 : decode cX11_comma 17 = .ok (.ireturn, 1) := by decide +kernel
theorem dX11_comma_18 : decode cX11_comma 18 = .ok (.aload_n 0, 1) := by decide +kernel
theorem dX11_comma_19 : decode cX11_comma 19 = .ok (.invokevirtual 129, 3) := by decide +kernel
theorem dX11_comma_22 : decode cX11_comma 22 = .ok (.iconst 1, 1) := by decide +kernel
theorem dX11_comma_23 : decode cX11_comma 23 = .ok (.ireturn, 1) := by decide +kernel
theorem dX11_road_0 : decode cX11_road 0 = .ok (.aload_n 0, 1) := by decide +kernel
theorem dX11_road_1 : decode cX11_road 1 = .ok (.invokevirtual 176, 3) := by decide +kernel
theorem dX11_road_4 : decode cX11_road 4 = .ok (.iload_n 1, 1) := by decide +kernel
theorem dX11_road_5 : decode cX11_road 5 = .ok (.iconst 0, 1) := by decide +kernel
theorem dX11_road_6 : decode cX11_road 6 = .ok (.aload_n 0, 1) := by decide +kernel
theorem dX11_road_7 : decode cX11_road 7 = .ok (.getfield 76, 3) := by decide +kernel
theorem dX11_road_10 : decode cX11_road 10 = .ok (.invokestatic 161, 3) := by decide +kernel
theorem dX11_road_13 : decode cX11_road 13 = .ok (.ifCond .ne 9, 3) := by decide +kernel
theorem dX11_road_16 : decode cX11_road 16 = .ok (.aload_n 0, 1) := by decide +kernel
theorem dX11_road_17 : decode cX11_road 17 = .ok (.iconst 2, 1) := by decide +kernel
theorem dX11_road_18 : decode cX11_road 18 = .ok (.invokevirtual 179, 3) := by decide +kernel
theorem dX11_road_21 : decode cX11_road 21 = .ok (.ireturn, 1) := by decide +kernel
theorem dX11_road_22 : decode cX11_road 22 = .ok (.aload_n 0, 1) := by decide +kernel
theorem dX11_road_23 : decode cX11_road 23 = .ok (.iconst 0, 1) := by decide +kernel
theorem dX11_road_24 : decode cX11_road 24 = .ok (.putfield 76, 3) := by decide +kernel
theorem dX11_road_27 : decode cX11_road 27 = .ok (.aload_n 0, 1) := by decide +kernel
theorem dX11_road_28 : decode cX11_road 28 = .ok (.iconst 0, 1) := by decide +kernel
theorem dX11_road_29 : decode cX11_road 29 = .ok (.putfield 112, 3) := by decide +kernel
theorem dX11_road_32 : decode cX11_road 32 = .ok (.aload_n 0, 1) := by decide +kernel
theorem dX11_road_33 : decode cX11_road 33 = .ok (.iconst 0, 1) := by decide +kernel
theorem dX11_road_34 : decode cX11_road 34 = .ok (.putfield 108, 3) := by decide +kernel
theorem dX11_road_37 : decode cX11_road 37 = .ok (.iconst 0, 1) := by decide +kernel
theorem dX11_road_38 : decode cX11_road 38 = .ok (.istore_n 2, 1) := by decide +kernel
theorem dX11_road_39 : decode cX11_road 39 = .ok (.iload_n 2, 1) := by decide +kernel
theorem dX11_road_40 : decode cX11_road 40 = .ok (.sipush 300, 3) := by decide +kernel
theorem dX11_road_43 : decode cX11_road 43 = .ok (.if_icmp .ge 16, 3) := by decide +kernel
theorem dX11_road_46 : decode cX11_road 46 = .ok (.aload_n 0, 1) := by decide +kernel
theorem dX11_road_47 : decode cX11_road 47 = .ok (.getfield 23, 3) := by decide +kernel
theorem dX11_road_50 : decode cX11_road 50 = .ok (.iload_n 2, 1) := by decide +kernel
theorem dX11_road_51 : decode cX11_road 51 = .ok (.iconst 0, 1) := by decide +kernel
theorem dX11_road_52 : decode cX11_road 52 = .ok (.iastore, 1) := by decide +kernel
theorem dX11_road_53 : decode cX11_road 53 = .ok (.iinc 2 1, 3) := by decide +kernel
theorem dX11_road_56 : decode cX11_road 56 = .ok (.goto (-17), 3) := by decide +kernel
theorem dX11_road_59 : decode cX11_road 59 = .ok (.aload_n 0, 1) := by decide +kernel
theorem dX11_road_60 : decode cX11_road 60 = .ok (.iload_n 1, 1) := by decide +kernel
theorem dX11_road_61 : decode cX11_road 61 = .ok (.putfield 79, 3) := by decide +kernel
theorem dX11_road_64 : decode cX11_road 64 = .ok (.aload_n 0, 1) := by decide +kernel
theorem dX11_road_65 : decode cX11_road 65 = .ok (.iconst 0, 1) := by decide +kernel
theorem dX11_road_66 : decode cX11_road 66 = .ok (.putfield 82, 3) := by decide +kernel
theorem dX11_road_69 : decode cX11_road 69 = .ok (.aload_n 0, 1) := by decide +kernel
theorem dX11_road_70 : decode cX11_road 70 = .ok (.invokevirtual 129, 3) := by decide +kernel
theorem dX11_road_73 : decode cX11_road 73 = .ok (.aload_n 0, 1) := by decide +kernel
theorem dX11_road_74 : decode cX11_road 74 = .ok (.invokevirtual 182, 3) := by decide +kernel
theorem dX11_road_77 : decode cX11_road 77 = .ok (.aload_n 0, 1) := by decide +kernel
theorem dX11_road_78 : decode cX11_road 78 = .ok (.getfield 108, 3) := by decide +kernel
theorem dX11_road_81 : decode cX11_road 81 = .ok (.ifCond .ne 23, 3) := by decide +kernel
theorem dX11_road_84 : decode cX11_road 84 = .ok (.aload_n 0, 1) := by decide +kernel
theorem dX11_road_85 : decode cX11_road 85 = .ok (.getfield 98, 3) := by decide +kernel
theorem dX11_road_88 : decode cX11_road 88 = .ok (.bipush 59, 2) := by decide +kernel
theorem dX11_road_90 : decode cX11_road 90 = .ok (.if_icmp .ne 14, 3) := by decide +kernel
theorem dX11_road_93 : decode cX11_road 93 = .ok (.aload_n 0, 1) := by decide +kernel
theorem dX11_road_94 : decode cX11_road 94 = .ok (.invokevirtual 129, 3) := by decide +kernel
theorem dX11_road_97 : decode cX11_road 97 = .ok (.aload_n 0, 1) := by decide +kernel
theorem dX11_road_98 : decode cX11_road 98 = .ok (.invokevirtual 182, 3) := by decide +kernel
theorem dX11_road_101 : decode cX11_road 101 = .ok (.goto (-24), 3) := by decide +kernel
theorem dX11_road_104 : decode cX11_road 104 = .ok (.aload_n 0, 1) := by decide +kernel
theorem dX11_road_105 : decode cX11_road 105 = .ok (.getfield 108, 3) := by decide +kernel
theorem dX11_road_108 : decode cX11_road 108 = .ok (.ifCond .ne 19, 3) := by decide +kernel
theorem dX11_road_111 : decode cX11_road 111 = .ok (.aload_n 0, 1) := by decide +kernel
theorem dX11_road_112 : decode cX11_road 112 = .ok (.getfield 98, 3) := by decide +kernel
theorem dX11_road_115 : decode cX11_road 115 = .ok (.ifCond .eq 12, 3) := by decide +kernel
theorem dX11_road_118 : decode cX11_road 118 = .ok (.aload_n 0, 1) := by decide +kernel
theorem dX11_road_119 : decode cX11_road 119 = .ok (.iconst 1, 1) := by decide +kernel
theorem dX11_road_120 : decode cX11_road 120 = .ok (.aload_n 0, 1) := by decide +kernel
theorem dX11_road_121 : decode cX11_road 121 = .ok (.getfield 89, 3) := by decide +kernel
theorem dX11_road_124 : decode cX11_road 124 = .ok (.invokevirtual 135, 3) := by decide +kernel
theorem dX11_road_127 : decode cX11_road 127 = .ok (.aload_n 0, 1) := by decide +kernel
theorem dX11_road_128 : decode cX11_road 128 = .ok (.getfield 108, 3) := by decide +kernel
theorem dX11_road_131 : decode cX11_road 131 = .ok (.ifCond .ne 33, 3) := by decide +kernel
theorem dX11_road_134 : decode cX11_road 134 = .ok (.aload_n 0, 1) := by decide +kernel
theorem dX11_road_135 : decode cX11_road 135 = .ok (.getfield 23, 3) := by decide +kernel
theorem dX11_road_138 : decode cX11_road 138 = .ok (.bipush 10, 2) := by decide +kernel
theorem dX11_road_140 : decode cX11_road 140 = .ok (.iaload, 1) := by decide +kernel
theorem dX11_road_141 : decode cX11_road 141 = .ok (.ifCond .eq 13, 3) := by decide +kernel
theorem dX11_road_144 : decode cX11_road 144 = .ok (.aload_n 0, 1) := by decide +kernel
theorem dX11_road_145 : decode cX11_road 145 = .ok (.getfield 23, 3) := by decide +kernel
theorem dX11_road_148 : decode cX11_road 148 = .ok (.bipush 8, 2) := by decide +kernel
theorem dX11_road_150 : decode cX11_road 150 = .ok (.iaload, 1) := by decide +kernel
theorem dX11_road_151 : decode cX11_road 151 = .ok (.ifCond .ne 13, 3) := by decide +kernel
theorem dX11_road_154 : decode cX11_road 154 = .ok (.aload_n 0, 1) := by decide +kernel
theorem dX11_road_155 : decode cX11_road 155 = .ok (.bipush 6, 2) := by decide +kernel
theorem dX11_road_157 : decode cX11_road 157 = .ok (.aload_n 0, 1) := by decide +kernel
theorem dX11_road_158 : decode cX11_road 158 = .ok (.getfield 89, 3) := by decide +kernel
theorem dX11_road_161 : decode cX11_road 161 = .ok (.invokevirtual 135, 3) := by decide +kernel
theorem dX11_road_164 : decode cX11_road 164 = .ok (.aload_n 0, 1) := by decide +kernel
theorem dX11_road_165 : decode cX11_road 165 = .ok (.getfield 108, 3) := by decide +kernel
theorem dX11_road_168 : decode cX11_road 168 = .ok (.ifCond .eq 9, 3) := by decide +kernel
theorem dX11_road_171 : decode cX11_road 171 = .ok (.aload_n 0, 1) := by decide +kernel
theorem dX11_road_172 : decode cX11_road 172 = .ok (.iconst 4, 1) := by decide +kernel
theorem dX11_road_173 : decode cX11_road 173 = .ok (.invokevirtual 179, 3) := by decide +kernel
theorem dX11_road_176 : decode cX11_road 176 = .ok (.ireturn, 1) := by decide +kernel
theorem dX11_road_177 : decode cX11_road 177 = .ok (.aload_n 0, 1) := by decide +kernel
theorem dX11_road_178 : decode cX11_road 178 = .ok (.getfield 23, 3) := by decide +kernel
theorem dX11_road_181 : decode cX11_road 181 = .ok (.iconst 0, 1) := by decide +kernel
theorem dX11_road_182 : decode cX11_road 182 = .ok (.aload_n 0, 1) := by decide +kernel
theorem dX11_road_183 : decode cX11_road 183 = .ok (.getfield 20, 3) := by decide +kernel
theorem dX11_road_186 : decode cX11_road 186 = .ok (.iconst 0, 1) := by decide +kernel
theorem dX11_road_187 : decode cX11_road 187 = .ok (.sipush 300, 3) := by decide +kernel
theorem dX11_road_190 : decode cX11_road 190 = .ok (.invokestatic 185, 3) := by decide +kernel
theorem dX11_road_193 : decode cX11_road 193 = .ok (.iconst 0, 1) := by decide +kernel
theorem dX11_road_194 : decode cX11_road 194 = .ok (.istore_n 2, 1) := by decide +kernel
theorem dX11_road_195 : decode cX11_road 195 = .ok (.iload_n 2, 1) := by decide +kernel
theorem dX11_road_196 : decode cX11_road 196 = .ok (.bipush 9, 2) := by decide +kernel
theorem dX11_road_198 : decode cX11_road 198 = .ok (.if_icmp .ge 16, 3) := by decide +kernel
theorem dX11_road_201 : decode cX11_road 201 = .ok (.aload_n 0, 1) := by decide +kernel
theorem dX11_road_202 : decode cX11_road 202 = .ok (.getfield 26, 3) := by decide +kernel
theorem dX11_road_205 : decode cX11_road 205 = .ok (.iload_n 2, 1) := by decide +kernel
theorem dX11_road_206 : decode cX11_road 206 = .ok (.iconst 0, 1) := by decide +kernel
theorem dX11_road_207 : decode cX11_road 207 = .ok (.iastore, 1) := by decide +kernel
theorem dX11_road_208 : decode cX11_road 208 = .ok (.iinc 2 1, 3) := by decide +kernel
theorem dX11_road_211 : decode cX11_road 211 = .ok (.goto (-16), 3) := by decide +kernel
theorem dX11_road_214 : decode cX11_road 214 = .ok (.iconst 0, 1) := by decide +kernel
theorem dX11_road_215 : decode cX11_road 215 = .ok (.istore_n 2, 1) := by decide +kernel
theorem dX11_road_216 : decode cX11_road 216 = .ok (.iload_n 2, 1) := by decide +kernel
theorem dX11_road_217 : decode cX11_road 217 = .ok (.bipush 7, 2) := by decide +kernel
theorem dX11_road_219 : decode cX11_road 219 = .ok (.if_icmp .ge 16, 3) := by decide +kernel
theorem dX11_road_222 : decode cX11_road 222 = .ok (.aload_n 0, 1) := by decide +kernel
theorem dX11_road_223 : decode cX11_road 223 = .ok (.getfield 29, 3) := by decide +kernel
theorem dX11_road_226 : decode cX11_road 226 = .ok (.iload_n 2, 1) := by decide +kernel
theorem dX11_road_227 : decode cX11_road 227 = .ok (.iconst 0, 1) := by decide +kernel
theorem dX11_road_228 : decode cX11_road 228 = .ok (.iastore, 1) := by decide +kernel
theorem dX11_road_229 : decode cX11_road 229 = .ok (.iinc 2 1, 3) := by decide +kernel
theorem dX11_road_232 : decode cX11_road 232 = .ok (.goto (-16), 3) := by decide +kernel
theorem dX11_road_235 : decode cX11_road 235 = .ok (.aload_n 0, 1) := by decide +kernel
theorem dX11_road_236 : decode cX11_road 236 = .ok (.iconst 1, 1) := by decide +kernel
theorem dX11_road_237 : decode cX11_road 237 = .ok (.putfield 189, 3) := by decide +kernel
theorem dX11_road_240 : decode cX11_road 240 = .ok (.aload_n 0, 1) := by decide +kernel
theorem dX11_road_241 : decode cX11_road 241 = .ok (.iconst 0, 1) := by decide +kernel
theorem dX11_road_242 : decode cX11_road 242 = .ok (.putfield 192, 3) := by decide +kernel
theorem dX11_road_245 : decode cX11_road 245 = .ok (.aload_n 0, 1) := by decide +kernel
theorem dX11_road_246 : decode cX11_road 246 = .ok (.iconst 0, 1) := by decide +kernel
theorem dX11_road_247 : decode cX11_road 247 = .ok (.putfield 195, 3) := by decide +kernel
theorem dX11_road_250 : decode cX11_road 250 = .ok (.aload_n 0, 1) := by decide +kernel
theorem dX11_road_251 : decode cX11_road 251 = .ok (.getfield 29, 3) := by decide +kernel
theorem dX11_road_254 : decode cX11_road 254 = .ok (.iconst 1, 1) := by decide +kernel
theorem dX11_road_255 : decode cX11_road 255 = .ok (.aload_n 0, 1) := by decide +kernel
theorem dX11_road_256 : decode cX11_road 256 = .ok (.getfield 20, 3) := by decide +kernel
theorem dX11_road_259 : decode cX11_road 259 = .ok (.iconst 1, 1) := by decide +kernel
theorem dX11_road_260 : decode cX11_road 260 = .ok (.iaload, 1) := by decide +kernel
theorem dX11_road_261 : decode cX11_road 261 = .ok (.iastore, 1) := by decide +kernel
theorem dX11_road_262 : decode cX11_road 262 = .ok (.aload_n 0, 1) := by decide +kernel
theorem dX11_road_263 : decode cX11_road 263 = .ok (.aload_n 0, 1) := by decide +kernel
theorem dX11_road_264 : decode cX11_road 264 = .ok (.getfield 20, 3) := by decide +kernel
theorem dX11_road_267 : decode cX11_road 267 = .ok (.sipush 200, 3) := by decide +kernel
theorem dX11_road_270 : decode cX11_road 270 = .ok (.iaload, 1) := by decide +kernel
theorem dX11_road_271 : decode cX11_road 271 = .ok (.invokevirtual 198, 3) := by decide +kernel
theorem dX11_road_274 : decode cX11_road 274 = .ok (.aload_n 0, 1) := by decide +kernel
theorem dX11_road_275 : decode cX11_road 275 = .ok (.getfield 20, 3) := by decide +kernel
theorem dX11_road_278 : decode cX11_road 278 = .ok (.bipush 8, 2) := by decide +kernel
theorem dX11_road_280 : decode cX11_road 280 = .ok (.iaload, 1) := by decide +kernel
theorem dX11_road_281 : decode cX11_road 281 = .ok (.ireturn, 1) := by decide +kernel
theorem dX11_begins_0 : decode cX11_begins 0 = .ok (.aload_n 0, 1) := by decide +kernel
theorem dX11_begins_1 : decode cX11_begins 1 = .ok (.aload_n 1, 1) := by decide +kernel
theorem dX11_begins_2 : decode cX11_begins 2 = .ok (.invokevirtual 125, 3) := by decide +kernel
theorem dX11_begins_5 : decode cX11_begins 5 = .ok (.ifCond .ne 5, 3) := by decide +kernel
theorem dX11_begins_8 : decode cX11_begins 8 = .ok (.iconst 0, 1) := by decide +kernel
theorem dX11_begins_9 : decode cX11_begins 9 = .ok (.ireturn, 1) := by decide +kernel
theorem dX11_begins_10 : decode cX11_begins 10 = .ok (.iload_n 2, 1) := by decide +kernel
theorem dX11_begins_11 : decode cX11_begins 11 = .ok (.ifCond .ne 12, 3) := by decide +kernel
theorem dX11_begins_14 : decode cX11_begins 14 = .ok (.aload_n 0, 1) := by decide +kernel
theorem dX11_begins_15 : decode cX11_begins 15 = .ok (.iconst 5, 1) := by decide +kernel
theorem dX11_begins_16 : decode cX11_begins 16 = .ok (.aload_n 0, 1) := by decide +kernel
theorem dX11_begins_17 : decode cX11_begins 17 = .ok (.getfield 89, 3) := by decide +kernel
theorem dX11_begins_20 : decode cX11_begins 20 = .ok (.invokevirtual 135, 3) := by decide +kernel
theorem dX11_begins_23 : decode cX11_begins 23 = .ok (.aload_n 0, 1) := by decide +kernel
theorem dX11_begins_24 : decode cX11_begins 24 = .ok (.getfield 23, 3) := by decide +kernel
theorem dX11_begins_27 : decode cX11_begins 27 = .ok (.bipush 10, 2) := by decide +kernel
theorem dX11_begins_29 : decode cX11_begins 29 = .ok (.iaload, 1) := by decide +kernel
theorem dX11_begins_30 : decode cX11_begins 30 = .ok (.ifCond .ne 13, 3) := by decide +kernel
theorem dX11_begins_33 : decode cX11_begins 33 = .ok (.aload_n 0, 1) := by decide +kernel
theorem dX11_begins_34 : decode cX11_begins 34 = .ok (.bipush 6, 2) := by decide +kernel
theorem dX11_begins_36 : decode cX11_begins 36 = .ok (.aload_n 0, 1) := by decide +kernel
theorem dX11_begins_37 : decode cX11_begins 37 = .ok (.getfield 89, 3) := by decide +kernel
theorem dX11_begins_40 : decode cX11_begins 40 = .ok (.invokevirtual 135, 3) := by decide +kernel
theorem dX11_begins_43 : decode cX11_begins 43 = .ok (.aload_n 0, 1) := by decide +kernel
theorem dX11_begins_44 : decode cX11_begins 44 = .ok (.getfield 108, 3) := by decide +kernel
theorem dX11_begins_47 : decode cX11_begins 47 = .ok (.ifCond .ne 7, 3) := by decide +kernel
theorem dX11_begins_50 : decode cX11_begins 50 = .ok (.aload_n 0, 1) := by decide +kernel
theorem dX11_begins_51 : decode cX11_begins 51 = .ok (.invokevirtual 129, 3) := by decide +kernel
theorem dX11_begins_54 : decode cX11_begins 54 = .ok (.iconst 1, 1) := by decide +kernel
theorem dX11_begins_55 : decode cX11_begins 55 = .ok (.ireturn, 1) := by decide +kernel
theorem dX11_readLine_0 : decode cX11_readLine 0 = .ok (.aload_n 0, 1) := by decide +kernel
theorem dX11_readLine_1 : decode cX11_readLine 1 = .ok (.ldc 139, 2) := by decide +kernel
theorem dX11_readLine_3 : decode cX11_readLine 3 = .ok (.invokevirtual 125, 3) := by decide +kernel
theorem dX11_readLine_6 : decode cX11_readLine 6 = .ok (.ifCond .eq 10, 3) := by decide +kernel
theorem dX11_readLine_9 : decode cX11_readLine 9 = .ok (.aload_n 0, 1) := by decide +kernel
theorem dX11_readLine_10 : decode cX11_readLine 10 = .ok (.invokevirtual 202, 3) := by decide +kernel
theorem dX11_readLine_13 : decode cX11_readLine 13 = .ok (.goto 158, 3) := by decide +kernel
theorem dX11_readLine_16 : decode cX11_readLine 16 = .ok (.aload_n 0, 1) := by decide +kernel
theorem dX11_readLine_17 : decode cX11_readLine 17 = .ok (.ldc 141, 2) := by decide +kernel
theorem dX11_readLine_19 : decode cX11_readLine 19 = .ok (.aload_n 0, 1) := by decide +kernel
theorem dX11_readLine_20 : decode cX11_readLine 20 = .ok (.getfield 23, 3) := by decide +kernel
theorem dX11_readLine_23 : decode cX11_readLine 23 = .ok (.iconst 5, 1) := by decide +kernel
theorem dX11_readLine_24 : decode cX11_readLine 24 = .ok (.iaload, 1) := by decide +kernel
theorem dX11_readLine_25 : decode cX11_readLine 25 = .ok (.bipush 9, 2) := by decide +kernel
theorem dX11_readLine_27 : decode cX11_readLine 27 = .ok (.if_icmp .ge 7, 3) := by decide +kernel
theorem dX11_readLine_30 : decode cX11_readLine 30 = .ok (.iconst 1, 1) := by decide +kernel
theorem dX11_readLine_31 : decode cX11_readLine 31 = .ok (.goto 4, 3) := by decide +kernel
theorem dX11_readLine_34 : decode cX11_readLine 34 = .ok (.iconst 0, 1) := by decide +kernel
theorem dX11_readLine_35 : decode cX11_readLine 35 = .ok (.invokevirtual 205, 3) := by decide +kernel
theorem dX11_readLine_38 : decode cX11_readLine 38 = .ok (.ifCond .eq 10, 3) := by decide +kernel
theorem dX11_readLine_41 : decode cX11_readLine 41 = .ok (.aload_n 0, 1) := by decide +kernel
theorem dX11_readLine_42 : decode cX11_readLine 42 = .ok (.invokevirtual 209, 3) := by decide +kernel
theorem dX11_readLine_45 : decode cX11_readLine 45 = .ok (.goto 126, 3) := by decide +kernel
theorem dX11_readLine_48 : decode cX11_readLine 48 = .ok (.aload_n 0, 1) := by decide +kernel
theorem dX11_readLine_49 : decode cX11_readLine 49 = .ok (.ldc 142, 2) := by decide +kernel
theorem dX11_readLine_51 : decode cX11_readLine 51 = .ok (.aload_n 0, 1) := by decide +kernel
theorem dX11_readLine_52 : decode cX11_readLine 52 = .ok (.getfield 23, 3) := by decide +kernel
theorem dX11_readLine_55 : decode cX11_readLine 55 = .ok (.bipush 6, 2) := by decide +kernel
theorem dX11_readLine_57 : decode cX11_readLine 57 = .ok (.iaload, 1) := by decide +kernel
theorem dX11_readLine_58 : decode cX11_readLine 58 = .ok (.bipush 14, 2) := by decide +kernel
theorem dX11_readLine_60 : decode cX11_readLine 60 = .ok (.if_icmp .ge 7, 3) := by decide +kernel
theorem dX11_readLine_63 : decode cX11_readLine 63 = .ok (.iconst 1, 1) := by decide +kernel
theorem dX11_readLine_64 : decode cX11_readLine 64 = .ok (.goto 4, 3) := by decide +kernel
theorem dX11_readLine_67 : decode cX11_readLine 67 = .ok (.iconst 0, 1) := by decide +kernel
theorem dX11_readLine_68 : decode cX11_readLine 68 = .ok (.invokevirtual 205, 3) := by decide +kernel
theorem dX11_readLine_71 : decode cX11_readLine 71 = .ok (.ifCond .eq 10, 3) := by decide +kernel
theorem dX11_readLine_74 : decode cX11_readLine 74 = .ok (.aload_n 0, 1) := by decide +kernel
theorem dX11_readLine_75 : decode cX11_readLine 75 = .ok (.invokevirtual 212, 3) := by decide +kernel
theorem dX11_readLine_78 : decode cX11_readLine 78 = .ok (.goto 93, 3) := by decide +kernel
theorem dX11_readLine_81 : decode cX11_readLine 81 = .ok (.aload_n 0, 1) := by decide +kernel
theorem dX11_readLine_82 : decode cX11_readLine 82 = .ok (.ldc 144, 2) := by decide +kernel
theorem dX11_readLine_84 : decode cX11_readLine 84 = .ok (.aload_n 0, 1) := by decide +kernel
theorem dX11_readLine_85 : decode cX11_readLine 85 = .ok (.getfield 23, 3) := by decide +kernel
theorem dX11_readLine_88 : decode cX11_readLine 88 = .ok (.bipush 7, 2) := by decide +kernel
theorem dX11_readLine_90 : decode cX11_readLine 90 = .ok (.iaload, 1) := by decide +kernel
theorem dX11_readLine_91 : decode cX11_readLine 91 = .ok (.bipush 8, 2) := by decide +kernel
theorem dX11_readLine_93 : decode cX11_readLine 93 = .ok (.if_icmp .ge 7, 3) := by decide +kernel
theorem dX11_readLine_96 : decode cX11_readLine 96 = .ok (.iconst 1, 1) := by decide +kernel
theorem dX11_readLine_97 : decode cX11_readLine 97 = .ok (.goto 4, 3) := by decide +kernel
theorem dX11_readLine_100 : decode cX11_readLine 100 = .ok (.iconst 0, 1) := by decide +kernel
theorem dX11_readLine_101 : decode cX11_readLine 101 = .ok (.invokevirtual 205, 3) := by decide +kernel
theorem dX11_readLine_104 : decode cX11_readLine 104 = .ok (.ifCond .eq 10, 3) := by decide +kernel
theorem dX11_readLine_107 : decode cX11_readLine 107 = .ok (.aload_n 0, 1) := by decide +kernel
theorem dX11_readLine_108 : decode cX11_readLine 108 = .ok (.invokevirtual 215, 3) := by decide +kernel
theorem dX11_readLine_111 : decode cX11_readLine 111 = .ok (.goto 60, 3) := by decide +kernel
theorem dX11_readLine_114 : decode cX11_readLine 114 = .ok (.aload_n 0, 1) := by decide +kernel
theorem dX11_readLine_115 : decode cX11_readLine 115 = .ok (.ldc 146, 2) := by decide +kernel
theorem dX11_readLine_117 : decode cX11_readLine 117 = .ok (.invokevirtual 125, 3) := by decide +kernel
theorem dX11_readLine_120 : decode cX11_readLine 120 = .ok (.ifCond .eq 10, 3) := by decide +kernel
theorem dX11_readLine_123 : decode cX11_readLine 123 = .ok (.aload_n 0, 1) := by decide +kernel
theorem dX11_readLine_124 : decode cX11_readLine 124 = .ok (.invokevirtual 218, 3) := by decide +kernel
theorem dX11_readLine_127 : decode cX11_readLine 127 = .ok (.goto 44, 3) := by decide +kernel
theorem dX11_readLine_130 : decode cX11_readLine 130 = .ok (.aload_n 0, 1) := by decide +kernel
theorem dX11_readLine_131 : decode cX11_readLine 131 = .ok (.ldc 148, 2) := by decide +kernel
theorem dX11_readLine_133 : decode cX11_readLine 133 = .ok (.aload_n 0, 1) := by decide +kernel
theorem dX11_readLine_134 : decode cX11_readLine 134 = .ok (.getfield 23, 3) := by decide +kernel
theorem dX11_readLine_137 : decode cX11_readLine 137 = .ok (.bipush 9, 2) := by decide +kernel
theorem dX11_readLine_139 : decode cX11_readLine 139 = .ok (.iaload, 1) := by decide +kernel
theorem dX11_readLine_140 : decode cX11_readLine 140 = .ok (.iconst 5, 1) := by decide +kernel
theorem dX11_readLine_141 : decode cX11_readLine 141 = .ok (.if_icmp .ge 7, 3) := by decide +kernel
theorem dX11_readLine_144 : decode cX11_readLine 144 = .ok (.iconst 1, 1) := by decide +kernel
theorem dX11_readLine_145 : decode cX11_readLine 145 = .ok (.goto 4, 3) := by decide +kernel
theorem dX11_readLine_148 : decode cX11_readLine 148 = .ok (.iconst 0, 1) := by decide +kernel
theorem dX11_readLine_149 : decode cX11_readLine 149 = .ok (.invokevirtual 205, 3) := by decide +kernel
theorem dX11_readLine_152 : decode cX11_readLine 152 = .ok (.ifCond .eq 10, 3) := by decide +kernel
theorem dX11_readLine_155 : decode cX11_readLine 155 = .ok (.aload_n 0, 1) := by decide +kernel
theorem dX11_readLine_156 : decode cX11_readLine 156 = .ok (.invokevirtual 221, 3) := by decide +kernel
theorem dX11_readLine_159 : decode cX11_readLine 159 = .ok (.goto 12, 3) := by decide +kernel
theorem dX11_readLine_162 : decode cX11_readLine 162 = .ok (.aload_n 0, 1) := by decide +kernel
theorem dX11_readLine_163 : decode cX11_readLine 163 = .ok (.iconst 1, 1) := by decide +kernel
theorem dX11_readLine_164 : decode cX11_readLine 164 = .ok (.aload_n 0, 1) := by decide +kernel
theorem dX11_readLine_165 : decode cX11_readLine 165 = .ok (.getfield 89, 3) := by decide +kernel
theorem dX11_readLine_168 : decode cX11_readLine 168 = .ok (.invokevirtual 135, 3) := by decide +kernel
theorem dX11_readLine_171 : decode cX11_readLine 171 = .ok (.return_, 1) := by decide +kernel
theorem dX11_carLine_0 : decode cX11_carLine 0 = .ok (.aload_n 0, 1) := by decide +kernel
theorem dX11_carLine_1 : decode cX11_carLine 1 = .ok (.getfield 23, 3) := by decide +kernel
theorem dX11_carLine_4 : decode cX11_carLine 4 = .ok (.bipush 10, 2) := by decide +kernel
theorem dX11_carLine_6 : decode cX11_carLine 6 = .ok (.iaload, 1) := by decide +kernel
theorem dX11_carLine_7 : decode cX11_carLine 7 = .ok (.iconst 1, 1) := by decide +kernel
theorem dX11_carLine_8 : decode cX11_carLine 8 = .ok (.if_icmp .ne 12, 3) := by decide +kernel
theorem dX11_carLine_11 : decode cX11_carLine 11 = .ok (.aload_n 0, 1) := by decide +kernel
theorem dX11_carLine_12 : decode cX11_carLine 12 = .ok (.iconst 3, 1) := by decide +kernel
theorem dX11_carLine_13 : decode cX11_carLine 13 = .ok (.aload_n 0, 1) := by decide +kernel
theorem dX11_carLine_14 : decode cX11_carLine 14 = .ok (.getfield 89, 3) := by decide +kernel
theorem dX11_carLine_17 : decode cX11_carLine 17 = .ok (.invokevirtual 135, 3) := by decide +kernel
theorem dX11_carLine_20 : decode cX11_carLine 20 = .ok (.aload_n 0, 1) := by decide +kernel
theorem dX11_carLine_21 : decode cX11_carLine 21 = .ok (.getfield 108, 3) := by decide +kernel
theorem dX11_carLine_24 : decode cX11_carLine 24 = .ok (.ifCond .eq 4, 3) := by decide +kernel
theorem dX11_carLine_27 : decode cX11_carLine 27 = .ok (.return_, 1) := by decide +kernel
theorem dX11_carLine_28 : decode cX11_carLine 28 = .ok (.aload_n 0, 1) := by decide +kernel
theorem dX11_carLine_29 : decode cX11_carLine 29 = .ok (.invokevirtual 129, 3) := by decide +kernel
theorem dX11_carLine_32 : decode cX11_carLine 32 = .ok (.aload_n 0, 1) := by decide +kernel
theorem dX11_carLine_33 : decode cX11_carLine 33 = .ok (.getfield 23, 3) := by decide +kernel
theorem dX11_carLine_36 : decode cX11_carLine 36 = .ok (.iconst 0, 1) := by decide +kernel
theorem dX11_carLine_37 : decode cX11_carLine 37 = .ok (.aload_n 0, 1) := by decide +kernel
theorem dX11_carLine_38 : decode cX11_carLine 38 = .ok (.ldc 224, 2) := by decide +kernel
theorem dX11_carLine_40 : decode cX11_carLine 40 = .ok (.iconst 1, 1) := by decide +kernel
theorem dX11_carLine_41 : decode cX11_carLine 41 = .ok (.bipush 40, 2) := by decide +kernel
theorem dX11_carLine_43 : decode cX11_carLine 43 = .ok (.invokevirtual 226, 3) := by decide +kernel
theorem dX11_carLine_46 : decode cX11_carLine 46 = .ok (.iastore, 1) := by decide +kernel
theorem dX11_carLine_47 : decode cX11_carLine 47 = .ok (.aload_n 0, 1) := by decide +kernel
theorem dX11_carLine_48 : decode cX11_carLine 48 = .ok (.getfield 23, 3) := by decide +kernel
theorem dX11_carLine_51 : decode cX11_carLine 51 = .ok (.iconst 1, 1) := by decide +kernel
theorem dX11_carLine_52 : decode cX11_carLine 52 = .ok (.aload_n 0, 1) := by decide +kernel
theorem dX11_carLine_53 : decode cX11_carLine 53 = .ok (.ldc 230, 2) := by decide +kernel
theorem dX11_carLine_55 : decode cX11_carLine 55 = .ok (.iconst 0, 1) := by decide +kernel
theorem dX11_carLine_56 : decode cX11_carLine 56 = .ok (.aload_n 0, 1) := by decide +kernel
theorem dX11_carLine_57 : decode cX11_carLine 57 = .ok (.getfield 23, 3) := by decide +kernel
theorem dX11_carLine_60 : decode cX11_carLine 60 = .ok (.iconst 0, 1) := by decide +kernel
theorem dX11_carLine_61 : decode cX11_carLine 61 = .ok (.iaload, 1) := by decide +kernel
theorem dX11_carLine_62 : decode cX11_carLine 62 = .ok (.invokevirtual 226, 3) := by decide +kernel
theorem dX11_carLine_65 : decode cX11_carLine 65 = .ok (.iastore, 1) := by decide +kernel
theorem dX11_carLine_66 : decode cX11_carLine 66 = .ok (.aload_n 0, 1) := by decide +kernel
theorem dX11_carLine_67 : decode cX11_carLine 67 = .ok (.getfield 23, 3) := by decide +kernel
theorem dX11_carLine_70 : decode cX11_carLine 70 = .ok (.iconst 2, 1) := by decide +kernel
theorem dX11_carLine_71 : decode cX11_carLine 71 = .ok (.aload_n 0, 1) := by decide +kernel
theorem dX11_carLine_72 : decode cX11_carLine 72 = .ok (.ldc 232, 2) := by decide +kernel
theorem dX11_carLine_74 : decode cX11_carLine 74 = .ok (.iconst 0, 1) := by decide +kernel
theorem dX11_carLine_75 : decode cX11_carLine 75 = .ok (.bipush 99, 2) := by decide +kernel
theorem dX11_carLine_77 : decode cX11_carLine 77 = .ok (.invokevirtual 226, 3) := by decide +kernel
theorem dX11_carLine_80 : decode cX11_carLine 80 = .ok (.iastore, 1) := by decide +kernel
theorem dX11_carLine_81 : decode cX11_carLine 81 = .ok (.aload_n 0, 1) := by decide +kernel
theorem dX11_carLine_82 : decode cX11_carLine 82 = .ok (.getfield 108, 3) := by decide +kernel
theorem dX11_carLine_85 : decode cX11_carLine 85 = .ok (.ifCond .ne 19, 3) := by decide +kernel
theorem dX11_carLine_88 : decode cX11_carLine 88 = .ok (.aload_n 0, 1) := by decide +kernel
theorem dX11_carLine_89 : decode cX11_carLine 89 = .ok (.invokevirtual 234, 3) := by decide +kernel
theorem dX11_carLine_92 : decode cX11_carLine 92 = .ok (.ifCond .ne 12, 3) := by decide +kernel
theorem dX11_carLine_95 : decode cX11_carLine 95 = .ok (.aload_n 0, 1) := by decide +kernel
theorem dX11_carLine_96 : decode cX11_carLine 96 = .ok (.iconst 1, 1) := by decide +kernel
theorem dX11_carLine_97 : decode cX11_carLine 97 = .ok (.aload_n 0, 1) := by decide +kernel
theorem dX11_carLine_98 : decode cX11_carLine 98 = .ok (.getfield 89, 3) := by decide +kernel
theorem dX11_carLine_101 : decode cX11_carLine 101 = .ok (.invokevirtual 135, 3) := by decide +kernel
theorem dX11_carLine_104 : decode cX11_carLine 104 = .ok (.aload_n 0, 1) := by decide +kernel
theorem dX11_carLine_105 : decode cX11_carLine 105 = .ok (.getfield 23, 3) := by decide +kernel
theorem dX11_carLine_108 : decode cX11_carLine 108 = .ok (.iconst 3, 1) := by decide +kernel
theorem dX11_carLine_109 : decode cX11_carLine 109 = .ok (.aload_n 0, 1) := by decide +kernel
theorem dX11_carLine_110 : decode cX11_carLine 110 = .ok (.iconst 0, 1) := by decide +kernel
theorem dX11_carLine_111 : decode cX11_carLine 111 = .ok (.bipush 60, 2) := by decide +kernel
theorem dX11_carLine_113 : decode cX11_carLine 113 = .ok (.invokevirtual 173, 3) := by decide +kernel
theorem dX11_carLine_116 : decode cX11_carLine 116 = .ok (.iastore, 1) := by decide +kernel
theorem dX11_carLine_117 : decode cX11_carLine 117 = .ok (.aload_n 0, 1) := by decide +kernel
theorem dX11_carLine_118 : decode cX11_carLine 118 = .ok (.getfield 23, 3) := by decide +kernel
theorem dX11_carLine_121 : decode cX11_carLine 121 = .ok (.iconst 4, 1) := by decide +kernel
theorem dX11_carLine_122 : decode cX11_carLine 122 = .ok (.aload_n 0, 1) := by decide +kernel
theorem dX11_carLine_123 : decode cX11_carLine 123 = .ok (.ldc 238, 2) := by decide +kernel
theorem dX11_carLine_125 : decode cX11_carLine 125 = .ok (.iconst 0, 1) := by decide +kernel
theorem dX11_carLine_126 : decode cX11_carLine 126 = .ok (.sipush 999, 3) := by decide +kernel
theorem dX11_carLine_129 : decode cX11_carLine 129 = .ok (.invokevirtual 226, 3) := by decide +kernel
theorem dX11_carLine_132 : decode cX11_carLine 132 = .ok (.iastore, 1) := by decide +kernel
theorem dX11_carLine_133 : decode cX11_carLine 133 = .ok (.aload_n 0, 1) := by decide +kernel
theorem dX11_carLine_134 : decode cX11_carLine 134 = .ok (.getfield 108, 3) := by decide +kernel
theorem dX11_carLine_137 : decode cX11_carLine 137 = .ok (.ifCond .ne 11, 3) := by decide +kernel
theorem dX11_carLine_140 : decode cX11_carLine 140 = .ok (.aload_n 0, 1) := by decide +kernel
theorem dX11_carLine_141 : decode cX11_carLine 141 = .ok (.getfield 23, 3) := by decide +kernel
theorem dX11_carLine_144 : decode cX11_carLine 144 = .ok (.bipush 10, 2) := by decide +kernel
theorem dX11_carLine_146 : decode cX11_carLine 146 = .ok (.iconst 1, 1) := by decide +kernel
theorem dX11_carLine_147 : decode cX11_carLine 147 = .ok (.iastore, 1) := by decide +kernel
theorem dX11_carLine_148 : decode cX11_carLine 148 = .ok (.return_, 1) := by decide +kernel
theorem dX11_placeLine_0 : decode cX11_placeLine 0 = .ok (.aload_n 0, 1) := by decide +kernel
theorem dX11_placeLine_1 : decode cX11_placeLine 1 = .ok (.getfield 108, 3) := by decide +kernel
theorem dX11_placeLine_4 : decode cX11_placeLine 4 = .ok (.ifCond .eq 4, 3) := by decide +kernel
theorem dX11_placeLine_7 : decode cX11_placeLine 7 = .ok (.return_, 1) := by decide +kernel
theorem dX11_placeLine_8 : decode cX11_placeLine 8 = .ok (.aload_n 0, 1) := by decide +kernel
theorem dX11_placeLine_9 : decode cX11_placeLine 9 = .ok (.invokevirtual 152, 3) := by decide +kernel
theorem dX11_placeLine_12 : decode cX11_placeLine 12 = .ok (.aload_n 0, 1) := by decide +kernel
theorem dX11_placeLine_13 : decode cX11_placeLine 13 = .ok (.getfield 108, 3) := by decide +kernel
theorem dX11_placeLine_16 : decode cX11_placeLine 16 = .ok (.ifCond .ne 19, 3) := by decide +kernel
theorem dX11_placeLine_19 : decode cX11_placeLine 19 = .ok (.aload_n 0, 1) := by decide +kernel
theorem dX11_placeLine_20 : decode cX11_placeLine 20 = .ok (.invokevirtual 155, 3) := by decide +kernel
theorem dX11_placeLine_23 : decode cX11_placeLine 23 = .ok (.ifCond .lt 12, 3) := by decide +kernel
theorem dX11_placeLine_26 : decode cX11_placeLine 26 = .ok (.aload_n 0, 1) := by decide +kernel
theorem dX11_placeLine_27 : decode cX11_placeLine 27 = .ok (.iconst 3, 1) := by decide +kernel
theorem dX11_placeLine_28 : decode cX11_placeLine 28 = .ok (.aload_n 0, 1) := by decide +kernel
theorem dX11_placeLine_29 : decode cX11_placeLine 29 = .ok (.getfield 89, 3) := by decide +kernel
theorem dX11_placeLine_32 : decode cX11_placeLine 32 = .ok (.invokevirtual 135, 3) := by decide +kernel
theorem dX11_placeLine_35 : decode cX11_placeLine 35 = .ok (.aload_n 0, 1) := by decide +kernel
theorem dX11_placeLine_36 : decode cX11_placeLine 36 = .ok (.getfield 108, 3) := by decide +kernel
theorem dX11_placeLine_39 : decode cX11_placeLine 39 = .ok (.ifCond .eq 4, 3) := by decide +kernel
theorem dX11_placeLine_42 : decode cX11_placeLine 42 = .ok (.return_, 1) := by decide +kernel
theorem dX11_placeLine_43 : decode cX11_placeLine 43 = .ok (.aload_n 0, 1) := by decide +kernel
theorem dX11_placeLine_44 : decode cX11_placeLine 44 = .ok (.getfield 23, 3) := by decide +kernel
theorem dX11_placeLine_47 : decode cX11_placeLine 47 = .ok (.iconst 5, 1) := by decide +kernel
theorem dX11_placeLine_48 : decode cX11_placeLine 48 = .ok (.iaload, 1) := by decide +kernel
theorem dX11_placeLine_49 : decode cX11_placeLine 49 = .ok (.istore_n 1, 1) := by decide +kernel
theorem dX11_placeLine_50 : decode cX11_placeLine 50 = .ok (.iconst 0, 1) := by decide +kernel
theorem dX11_placeLine_51 : decode cX11_placeLine 51 = .ok (.istore_n 2, 1) := by decide +kernel
theorem dX11_placeLine_52 : decode cX11_placeLine 52 = .ok (.iload_n 2, 1) := by decide +kernel
theorem dX11_placeLine_53 : decode cX11_placeLine 53 = .ok (.aload_n 0, 1) := by decide +kernel
theorem dX11_placeLine_54 : decode cX11_placeLine 54 = .ok (.getfield 92, 3) := by decide +kernel
theorem dX11_placeLine_57 : decode cX11_placeLine 57 = .ok (.if_icmp .ge 30, 3) := by decide +kernel
theorem dX11_placeLine_60 : decode cX11_placeLine 60 = .ok (.aload_n 0, 1) := by decide +kernel
theorem dX11_placeLine_61 : decode cX11_placeLine 61 = .ok (.getfield 23, 3) := by decide +kernel
theorem dX11_placeLine_64 : decode cX11_placeLine 64 = .ok (.sipush 228, 3) := by decide +kernel
theorem dX11_placeLine_67 : decode cX11_placeLine 67 = .ok (.bipush 8, 2) := by decide +kernel
theorem dX11_placeLine_69 : decode cX11_placeLine 69 = .ok (.iload_n 1, 1) := by decide +kernel
theorem dX11_placeLine_70 : decode cX11_placeLine 70 = .ok (.imul, 1) := by decide +kernel
theorem dX11_placeLine_71 : decode cX11_placeLine 71 = .ok (.iadd, 1) := by decide +kernel
theorem dX11_placeLine_72 : decode cX11_placeLine 72 = .ok (.iload_n 2, 1) := by decide +kernel
theorem dX11_placeLine_73 : decode cX11_placeLine 73 = .ok (.iadd, 1) := by decide +kernel
theorem dX11_placeLine_74 : decode cX11_placeLine 74 = .ok (.aload_n 0, 1) := by decide +kernel
theorem dX11_placeLine_75 : decode cX11_placeLine 75 = .ok (.getfield 17, 3) := by decide +kernel
theorem dX11_placeLine_78 : decode cX11_placeLine 78 = .ok (.iload_n 2, 1) := by decide +kernel
theorem dX11_placeLine_79 : decode cX11_placeLine 79 = .ok (.iaload, 1) := by decide +kernel
theorem dX11_placeLine_80 : decode cX11_placeLine 80 = .ok (.iastore, 1) := by decide +kernel
theorem dX11_placeLine_81 : decode cX11_placeLine 81 = .ok (.iinc 2 1, 3) := by decide +kernel
theorem dX11_placeLine_84 : decode cX11_placeLine 84 = .ok (.goto (-32), 3) := by decide +kernel
theorem dX11_placeLine_87 : decode cX11_placeLine 87 = .ok (.aload_n 0, 1) := by decide +kernel
theorem dX11_placeLine_88 : decode cX11_placeLine 88 = .ok (.getfield 23, 3) := by decide +kernel
theorem dX11_placeLine_91 : decode cX11_placeLine 91 = .ok (.sipush 219, 3) := by decide +kernel
theorem dX11_placeLine_94 : decode cX11_placeLine 94 = .ok (.iload_n 1, 1) := by decide +kernel
theorem dX11_placeLine_95 : decode cX11_placeLine 95 = .ok (.iadd, 1) := by decide +kernel
theorem dX11_placeLine_96 : decode cX11_placeLine 96 = .ok (.aload_n 0, 1) := by decide +kernel
theorem dX11_placeLine_97 : decode cX11_placeLine 97 = .ok (.getfield 92, 3) := by decide +kernel
theorem dX11_placeLine_100 : decode cX11_placeLine 100 = .ok (.iastore, 1) := by decide +kernel
theorem dX11_placeLine_101 : decode cX11_placeLine 101 = .ok (.aload_n 0, 1) := by decide +kernel
theorem dX11_placeLine_102 : decode cX11_placeLine 102 = .ok (.getfield 23, 3) := by decide +kernel
theorem dX11_placeLine_105 : decode cX11_placeLine 105 = .ok (.iconst 5, 1) := by decide +kernel
theorem dX11_placeLine_106 : decode cX11_placeLine 106 = .ok (.dup2, 1) := by decide +kernel
theorem dX11_placeLine_107 : decode cX11_placeLine 107 = .ok (.iaload, 1) := by decide +kernel
theorem dX11_placeLine_108 : decode cX11_placeLine 108 = .ok (.iconst 1, 1) := by decide +kernel
theorem dX11_placeLine_109 : decode cX11_placeLine 109 = .ok (.iadd, 1) := by decide +kernel
theorem dX11_placeLine_110 : decode cX11_placeLine 110 = .ok (.iastore, 1) := by decide +kernel
theorem dX11_placeLine_111 : decode cX11_placeLine 111 = .ok (.aload_n 0, 1) := by decide +kernel
theorem dX11_placeLine_112 : decode cX11_placeLine 112 = .ok (.invokevirtual 129, 3) := by decide +kernel
theorem dX11_placeLine_115 : decode cX11_placeLine 115 = .ok (.return_, 1) := by decide +kernel
theorem dX11_roadLine_0 : decode cX11_roadLine 0 = .ok (.aload_n 0, 1) := by decide +kernel
theorem dX11_roadLine_1 : decode cX11_roadLine 1 = .ok (.getfield 108, 3) := by decide +kernel
theorem dX11_roadLine_4 : decode cX11_roadLine 4 = .ok (.ifCond .eq 4, 3) := by decide +kernel
theorem dX11_roadLine_7 : decode cX11_roadLine 7 = .ok (.return_, 1) := by decide +kernel
theorem dX11_roadLine_8 : decode cX11_roadLine 8 = .ok (.aload_n 0, 1) := by decide +kernel
theorem dX11_roadLine_9 : decode cX11_roadLine 9 = .ok (.invokevirtual 240, 3) := by decide +kernel
theorem dX11_roadLine_12 : decode cX11_roadLine 12 = .ok (.istore_n 1, 1) := by decide +kernel
theorem dX11_roadLine_13 : decode cX11_roadLine 13 = .ok (.aload_n 0, 1) := by decide +kernel
theorem dX11_roadLine_14 : decode cX11_roadLine 14 = .ok (.invokevirtual 158, 3) := by decide +kernel
theorem dX11_roadLine_17 : decode cX11_roadLine 17 = .ok (.istore_n 2, 1) := by decide +kernel
theorem dX11_roadLine_18 : decode cX11_roadLine 18 = .ok (.aload_n 0, 1) := by decide +kernel
theorem dX11_roadLine_19 : decode cX11_roadLine 19 = .ok (.getfield 108, 3) := by decide +kernel
theorem dX11_roadLine_22 : decode cX11_roadLine 22 = .ok (.ifCond .ne 34, 3) := by decide +kernel
theorem dX11_roadLine_25 : decode cX11_roadLine 25 = .ok (.iload_n 1, 1) := by decide +kernel
theorem dX11_roadLine_26 : decode cX11_roadLine 26 = .ok (.iload_n 2, 1) := by decide +kernel
theorem dX11_roadLine_27 : decode cX11_roadLine 27 = .ok (.if_icmp .eq 20, 3) := by decide +kernel
theorem dX11_roadLine_30 : decode cX11_roadLine 30 = .ok (.aload_n 0, 1) := by decide +kernel
theorem dX11_roadLine_31 : decode cX11_roadLine 31 = .ok (.getfield 23, 3) := by decide +kernel
theorem dX11_roadLine_34 : decode cX11_roadLine 34 = .ok (.bipush 38, 2) := by decide +kernel
theorem dX11_roadLine_36 : decode cX11_roadLine 36 = .ok (.bipush 9, 2) := by decide +kernel
theorem dX11_roadLine_38 : decode cX11_roadLine 38 = .ok (.iload_n 1, 1) := by decide +kernel
theorem dX11_roadLine_39 : decode cX11_roadLine 39 = .ok (.imul, 1) := by decide +kernel
theorem dX11_roadLine_40 : decode cX11_roadLine 40 = .ok (.iadd, 1) := by decide +kernel
theorem dX11_roadLine_41 : decode cX11_roadLine 41 = .ok (.iload_n 2, 1) := by decide +kernel
theorem dX11_roadLine_42 : decode cX11_roadLine 42 = .ok (.iadd, 1) := by decide +kernel
theorem dX11_roadLine_43 : decode cX11_roadLine 43 = .ok (.iaload, 1) := by decide +kernel
theorem dX11_roadLine_44 : decode cX11_roadLine 44 = .ok (.ifCond .le 12, 3) := by decide +kernel
theorem dX11_roadLine_47 : decode cX11_roadLine 47 = .ok (.aload_n 0, 1) := by decide +kernel
theorem dX11_roadLine_48 : decode cX11_roadLine 48 = .ok (.iconst 3, 1) := by decide +kernel
theorem dX11_roadLine_49 : decode cX11_roadLine 49 = .ok (.aload_n 0, 1) := by decide +kernel
theorem dX11_roadLine_50 : decode cX11_roadLine 50 = .ok (.getfield 89, 3) := by decide +kernel
theorem dX11_roadLine_53 : decode cX11_roadLine 53 = .ok (.invokevirtual 135, 3) := by decide +kernel
theorem dX11_roadLine_56 : decode cX11_roadLine 56 = .ok (.aload_n 0, 1) := by decide +kernel
theorem dX11_roadLine_57 : decode cX11_roadLine 57 = .ok (.getfield 108, 3) := by decide +kernel
theorem dX11_roadLine_60 : decode cX11_roadLine 60 = .ok (.ifCond .eq 4, 3) := by decide +kernel
theorem dX11_roadLine_63 : decode cX11_roadLine 63 = .ok (.return_, 1) := by decide +kernel
theorem dX11_roadLine_64 : decode cX11_roadLine 64 = .ok (.aload_n 0, 1) := by decide +kernel
theorem dX11_roadLine_65 : decode cX11_roadLine 65 = .ok (.invokevirtual 129, 3) := by decide +kernel
theorem dX11_roadLine_68 : decode cX11_roadLine 68 = .ok (.aload_n 0, 1) := by decide +kernel
theorem dX11_roadLine_69 : decode cX11_roadLine 69 = .ok (.ldc 243, 2) := by decide +kernel
theorem dX11_roadLine_71 : decode cX11_roadLine 71 = .ok (.iconst 1, 1) := by decide +kernel
theorem dX11_roadLine_72 : decode cX11_roadLine 72 = .ok (.bipush 40, 2) := by decide +kernel
theorem dX11_roadLine_74 : decode cX11_roadLine 74 = .ok (.invokevirtual 226, 3) := by decide +kernel
theorem dX11_roadLine_77 : decode cX11_roadLine 77 = .ok (.istore_n 3, 1) := by decide +kernel
theorem dX11_roadLine_78 : decode cX11_roadLine 78 = .ok (.aload_n 0, 1) := by decide +kernel
theorem dX11_roadLine_79 : decode cX11_roadLine 79 = .ok (.ldc 245, 2) := by decide +kernel
theorem dX11_roadLine_81 : decode cX11_roadLine 81 = .ok (.iconst 0, 1) := by decide +kernel
theorem dX11_roadLine_82 : decode cX11_roadLine 82 = .ok (.bipush 99, 2) := by decide +kernel
theorem dX11_roadLine_84 : decode cX11_roadLine 84 = .ok (.invokevirtual 226, 3) := by decide +kernel
theorem dX11_roadLine_87 : decode cX11_roadLine 87 = .ok (.istore 4, 2) := by decide +kernel
theorem dX11_roadLine_89 : decode cX11_roadLine 89 = .ok (.aload_n 0, 1) := by decide +kernel
theorem dX11_roadLine_90 : decode cX11_roadLine 90 = .ok (.getfield 108, 3) := by decide +kernel
theorem dX11_roadLine_93 : decode cX11_roadLine 93 = .ok (.ifCond .eq 4, 3) := by decide +kernel
theorem dX11_roadLine_96 : decode cX11_roadLine 96 = .ok (.return_, 1) := by decide +kernel
theorem dX11_roadLine_97 : decode cX11_roadLine 97 = .ok (.aload_n 0, 1) := by decide +kernel
theorem dX11_roadLine_98 : decode cX11_roadLine 98 = .ok (.getfield 23, 3) := by decide +kernel
theorem dX11_roadLine_101 : decode cX11_roadLine 101 = .ok (.bipush 38, 2) := by decide +kernel
theorem dX11_roadLine_103 : decode cX11_roadLine 103 = .ok (.bipush 9, 2) := by decide +kernel
theorem dX11_roadLine_105 : decode cX11_roadLine 105 = .ok (.iload_n 1, 1) := by decide +kernel
theorem dX11_roadLine_106 : decode cX11_roadLine 106 = .ok (.imul, 1) := by decide +kernel
theorem dX11_roadLine_107 : decode cX11_roadLine 107 = .ok (.iadd, 1) := by decide +kernel
theorem dX11_roadLine_108 : decode cX11_roadLine 108 = .ok (.iload_n 2, 1) := by decide +kernel
theorem dX11_roadLine_109 : decode cX11_roadLine 109 = .ok (.iadd, 1) := by decide +kernel
theorem dX11_roadLine_110 : decode cX11_roadLine 110 = .ok (.iload_n 3, 1) := by decide +kernel
theorem dX11_roadLine_111 : decode cX11_roadLine 111 = .ok (.iastore, 1) := by decide +kernel
theorem dX11_roadLine_112 : decode cX11_roadLine 112 = .ok (.aload_n 0, 1) := by decide +kernel
theorem dX11_roadLine_113 : decode cX11_roadLine 113 = .ok (.getfield 23, 3) := by decide +kernel
theorem dX11_roadLine_116 : decode cX11_roadLine 116 = .ok (.bipush 38, 2) := by decide +kernel
theorem dX11_roadLine_118 : decode cX11_roadLine 118 = .ok (.bipush 9, 2) := by decide +kernel
theorem dX11_roadLine_120 : decode cX11_roadLine 120 = .ok (.iload_n 2, 1) := by decide +kernel
theorem dX11_roadLine_121 : decode cX11_roadLine 121 = .ok (.imul, 1) := by decide +kernel
theorem dX11_roadLine_122 : decode cX11_roadLine 122 = .ok (.iadd, 1) := by decide +kernel
theorem dX11_roadLine_123 : decode cX11_roadLine 123 = .ok (.iload_n 1, 1) := by decide +kernel
theorem dX11_roadLine_124 : decode cX11_roadLine 124 = .ok (.iadd, 1) := by decide +kernel
theorem dX11_roadLine_125 : decode cX11_roadLine 125 = .ok (.iload_n 3, 1) := by decide +kernel
theorem dX11_roadLine_126 : decode cX11_roadLine 126 = .ok (.iastore, 1) := by decide +kernel
theorem dX11_roadLine_127 : decode cX11_roadLine 127 = .ok (.aload_n 0, 1) := by decide +kernel
theorem dX11_roadLine_128 : decode cX11_roadLine 128 = .ok (.getfield 23, 3) := by decide +kernel
theorem dX11_roadLine_131 : decode cX11_roadLine 131 = .ok (.bipush 119, 2) := by decide +kernel
theorem dX11_roadLine_133 : decode cX11_roadLine 133 = .ok (.bipush 9, 2) := by decide +kernel
theorem dX11_roadLine_135 : decode cX11_roadLine 135 = .ok (.iload_n 1, 1) := by decide +kernel
theorem dX11_roadLine_136 : decode cX11_roadLine 136 = .ok (.imul, 1) := by decide +kernel
theorem dX11_roadLine_137 : decode cX11_roadLine 137 = .ok (.iadd, 1) := by decide +kernel
theorem dX11_roadLine_138 : decode cX11_roadLine 138 = .ok (.iload_n 2, 1) := by decide +kernel
theorem dX11_roadLine_139 : decode cX11_roadLine 139 = .ok (.iadd, 1) := by decide +kernel
theorem dX11_roadLine_140 : decode cX11_roadLine 140 = .ok (.iload 4, 2) := by decide +kernel
theorem dX11_roadLine_142 : decode cX11_roadLine 142 = .ok (.iastore, 1) := by decide +kernel
theorem dX11_roadLine_143 : decode cX11_roadLine 143 = .ok (.aload_n 0, 1) := by decide +kernel
theorem dX11_roadLine_144 : decode cX11_roadLine 144 = .ok (.getfield 23, 3) := by decide +kernel
theorem dX11_roadLine_147 : decode cX11_roadLine 147 = .ok (.bipush 119, 2) := by decide +kernel
theorem dX11_roadLine_149 : decode cX11_roadLine 149 = .ok (.bipush 9, 2) := by decide +kernel
theorem dX11_roadLine_151 : decode cX11_roadLine 151 = .ok (.iload_n 2, 1) := by decide +kernel
theorem dX11_roadLine_152 : decode cX11_roadLine 152 = .ok (.imul, 1) := by decide +kernel
theorem dX11_roadLine_153 : decode cX11_roadLine 153 = .ok (.iadd, 1) := by decide +kernel
theorem dX11_roadLine_154 : decode cX11_roadLine 154 = .ok (.iload_n 1, 1) := by decide +kernel
theorem dX11_roadLine_155 : decode cX11_roadLine 155 = .ok (.iadd, 1) := by decide +kernel
theorem dX11_roadLine_156 : decode cX11_roadLine 156 = .ok (.iload 4, 2) := by decide +kernel
theorem dX11_roadLine_158 : decode cX11_roadLine 158 = .ok (.iastore, 1) := by decide +kernel
theorem dX11_roadLine_159 : decode cX11_roadLine 159 = .ok (.aload_n 0, 1) := by decide +kernel
theorem dX11_roadLine_160 : decode cX11_roadLine 160 = .ok (.getfield 23, 3) := by decide +kernel
theorem dX11_roadLine_163 : decode cX11_roadLine 163 = .ok (.bipush 6, 2) := by decide +kernel
theorem dX11_roadLine_165 : decode cX11_roadLine 165 = .ok (.dup2, 1) := by decide +kernel
theorem dX11_roadLine_166 : decode cX11_roadLine 166 = .ok (.iaload, 1) := by decide +kernel
theorem dX11_roadLine_167 : decode cX11_roadLine 167 = .ok (.iconst 1, 1) := by decide +kernel
theorem dX11_roadLine_168 : decode cX11_roadLine 168 = .ok (.iadd, 1) := by decide +kernel
theorem dX11_roadLine_169 : decode cX11_roadLine 169 = .ok (.iastore, 1) := by decide +kernel
theorem dX11_roadLine_170 : decode cX11_roadLine 170 = .ok (.return_, 1) := by decide +kernel
theorem dX11_pumpLine_0 : decode cX11_pumpLine 0 = .ok (.aload_n 0, 1) := by decide +kernel
theorem dX11_pumpLine_1 : decode cX11_pumpLine 1 = .ok (.getfield 108, 3) := by decide +kernel
theorem dX11_pumpLine_4 : decode cX11_pumpLine 4 = .ok (.ifCond .eq 4, 3) := by decide +kernel
theorem dX11_pumpLine_7 : decode cX11_pumpLine 7 = .ok (.return_, 1) := by decide +kernel
theorem dX11_pumpLine_8 : decode cX11_pumpLine 8 = .ok (.aload_n 0, 1) := by decide +kernel
theorem dX11_pumpLine_9 : decode cX11_pumpLine 9 = .ok (.invokevirtual 158, 3) := by decide +kernel
theorem dX11_pumpLine_12 : decode cX11_pumpLine 12 = .ok (.istore_n 1, 1) := by decide +kernel
theorem dX11_pumpLine_13 : decode cX11_pumpLine 13 = .ok (.bipush 11, 2) := by decide +kernel
theorem dX11_pumpLine_15 : decode cX11_pumpLine 15 = .ok (.iconst 3, 1) := by decide +kernel
theorem dX11_pumpLine_16 : decode cX11_pumpLine 16 = .ok (.iload_n 1, 1) := by decide +kernel
theorem dX11_pumpLine_17 : decode cX11_pumpLine 17 = .ok (.imul, 1) := by decide +kernel
theorem dX11_pumpLine_18 : decode cX11_pumpLine 18 = .ok (.iadd, 1) := by decide +kernel
theorem dX11_pumpLine_19 : decode cX11_pumpLine 19 = .ok (.istore_n 2, 1) := by decide +kernel
theorem dX11_pumpLine_20 : decode cX11_pumpLine 20 = .ok (.aload_n 0, 1) := by decide +kernel
theorem dX11_pumpLine_21 : decode cX11_pumpLine 21 = .ok (.getfield 108, 3) := by decide +kernel
theorem dX11_pumpLine_24 : decode cX11_pumpLine 24 = .ok (.ifCond .ne 21, 3) := by decide +kernel
theorem dX11_pumpLine_27 : decode cX11_pumpLine 27 = .ok (.aload_n 0, 1) := by decide +kernel
theorem dX11_pumpLine_28 : decode cX11_pumpLine 28 = .ok (.getfield 23, 3) := by decide +kernel
theorem dX11_pumpLine_31 : decode cX11_pumpLine 31 = .ok (.iload_n 2, 1) := by decide +kernel
theorem dX11_pumpLine_32 : decode cX11_pumpLine 32 = .ok (.iaload, 1) := by decide +kernel
theorem dX11_pumpLine_33 : decode cX11_pumpLine 33 = .ok (.ifCond .le 12, 3) := by decide +kernel
theorem dX11_pumpLine_36 : decode cX11_pumpLine 36 = .ok (.aload_n 0, 1) := by decide +kernel
theorem dX11_pumpLine_37 : decode cX11_pumpLine 37 = .ok (.iconst 3, 1) := by decide +kernel
theorem dX11_pumpLine_38 : decode cX11_pumpLine 38 = .ok (.aload_n 0, 1) := by decide +kernel
theorem dX11_pumpLine_39 : decode cX11_pumpLine 39 = .ok (.getfield 89, 3) := by decide +kernel
theorem dX11_pumpLine_42 : decode cX11_pumpLine 42 = .ok (.invokevirtual 135, 3) := by decide +kernel
theorem dX11_pumpLine_45 : decode cX11_pumpLine 45 = .ok (.aload_n 0, 1) := by decide +kernel
theorem dX11_pumpLine_46 : decode cX11_pumpLine 46 = .ok (.getfield 108, 3) := by decide +kernel
theorem dX11_pumpLine_49 : decode cX11_pumpLine 49 = .ok (.ifCond .eq 4, 3) := by decide +kernel
theorem dX11_pumpLine_52 : decode cX11_pumpLine 52 = .ok (.return_, 1) := by decide +kernel
theorem dX11_pumpLine_53 : decode cX11_pumpLine 53 = .ok (.aload_n 0, 1) := by decide +kernel
theorem dX11_pumpLine_54 : decode cX11_pumpLine 54 = .ok (.invokevirtual 129, 3) := by decide +kernel
theorem dX11_pumpLine_57 : decode cX11_pumpLine 57 = .ok (.aload_n 0, 1) := by decide +kernel
theorem dX11_pumpLine_58 : decode cX11_pumpLine 58 = .ok (.ldc 247, 2) := by decide +kernel
theorem dX11_pumpLine_60 : decode cX11_pumpLine 60 = .ok (.iconst 1, 1) := by decide +kernel
theorem dX11_pumpLine_61 : decode cX11_pumpLine 61 = .ok (.bipush 99, 2) := by decide +kernel
theorem dX11_pumpLine_63 : decode cX11_pumpLine 63 = .ok (.invokevirtual 226, 3) := by decide +kernel
theorem dX11_pumpLine_66 : decode cX11_pumpLine 66 = .ok (.istore_n 3, 1) := by decide +kernel
theorem dX11_pumpLine_67 : decode cX11_pumpLine 67 = .ok (.iconst 0, 1) := by decide +kernel
theorem dX11_pumpLine_68 : decode cX11_pumpLine 68 = .ok (.istore 4, 2) := by decide +kernel
theorem dX11_pumpLine_70 : decode cX11_pumpLine 70 = .ok (.aload_n 0, 1) := by decide +kernel
theorem dX11_pumpLine_71 : decode cX11_pumpLine 71 = .ok (.ldc 150, 2) := by decide +kernel
theorem dX11_pumpLine_73 : decode cX11_pumpLine 73 = .ok (.invokevirtual 132, 3) := by decide +kernel
theorem dX11_pumpLine_76 : decode cX11_pumpLine 76 = .ok (.ifCond .eq 45, 3) := by decide +kernel
theorem dX11_pumpLine_79 : decode cX11_pumpLine 79 = .ok (.aload_n 0, 1) := by decide +kernel
theorem dX11_pumpLine_80 : decode cX11_pumpLine 80 = .ok (.iconst 1, 1) := by decide +kernel
theorem dX11_pumpLine_81 : decode cX11_pumpLine 81 = .ok (.bipush 99, 2) := by decide +kernel
theorem dX11_pumpLine_83 : decode cX11_pumpLine 83 = .ok (.invokevirtual 165, 3) := by decide +kernel
theorem dX11_pumpLine_86 : decode cX11_pumpLine 86 = .ok (.istore 4, 2) := by decide +kernel
theorem dX11_pumpLine_88 : decode cX11_pumpLine 88 = .ok (.aload_n 0, 1) := by decide +kernel
theorem dX11_pumpLine_89 : decode cX11_pumpLine 89 = .ok (.getfield 108, 3) := by decide +kernel
theorem dX11_pumpLine_92 : decode cX11_pumpLine 92 = .ok (.ifCond .ne 18, 3) := by decide +kernel
theorem dX11_pumpLine_95 : decode cX11_pumpLine 95 = .ok (.iload 4, 2) := by decide +kernel
theorem dX11_pumpLine_97 : decode cX11_pumpLine 97 = .ok (.iload_n 3, 1) := by decide +kernel
theorem dX11_pumpLine_98 : decode cX11_pumpLine 98 = .ok (.if_icmp .ne 12, 3) := by decide +kernel
theorem dX11_pumpLine_101 : decode cX11_pumpLine 101 = .ok (.aload_n 0, 1) := by decide +kernel
theorem dX11_pumpLine_102 : decode cX11_pumpLine 102 = .ok (.iconst 3, 1) := by decide +kernel
theorem dX11_pumpLine_103 : decode cX11_pumpLine 103 = .ok (.aload_n 0, 1) := by decide +kernel
theorem dX11_pumpLine_104 : decode cX11_pumpLine 104 = .ok (.getfield 89, 3) := by decide +kernel
theorem dX11_pumpLine_107 : decode cX11_pumpLine 107 = .ok (.invokevirtual 135, 3) := by decide +kernel
theorem dX11_pumpLine_110 : decode cX11_pumpLine 110 = .ok (.aload_n 0, 1) := by decide +kernel
theorem dX11_pumpLine_111 : decode cX11_pumpLine 111 = .ok (.getfield 108, 3) := by decide +kernel
theorem dX11_pumpLine_114 : decode cX11_pumpLine 114 = .ok (.ifCond .ne 7, 3) := by decide +kernel
theorem dX11_pumpLine_117 : decode cX11_pumpLine 117 = .ok (.aload_n 0, 1) := by decide +kernel
theorem dX11_pumpLine_118 : decode cX11_pumpLine 118 = .ok (.invokevirtual 129, 3) := by decide +kernel
theorem dX11_pumpLine_121 : decode cX11_pumpLine 121 = .ok (.aload_n 0, 1) := by decide +kernel
theorem dX11_pumpLine_122 : decode cX11_pumpLine 122 = .ok (.ldc 249, 2) := by decide +kernel
theorem dX11_pumpLine_124 : decode cX11_pumpLine 124 = .ok (.iconst 0, 1) := by decide +kernel
theorem dX11_pumpLine_125 : decode cX11_pumpLine 125 = .ok (.bipush 9, 2) := by decide +kernel
theorem dX11_pumpLine_127 : decode cX11_pumpLine 127 = .ok (.invokevirtual 226, 3) := by decide +kernel
theorem dX11_pumpLine_130 : decode cX11_pumpLine 130 = .ok (.istore 5, 2) := by decide +kernel
theorem dX11_pumpLine_132 : decode cX11_pumpLine 132 = .ok (.aload_n 0, 1) := by decide +kernel
theorem dX11_pumpLine_133 : decode cX11_pumpLine 133 = .ok (.getfield 108, 3) := by decide +kernel
theorem dX11_pumpLine_136 : decode cX11_pumpLine 136 = .ok (.ifCond .eq 4, 3) := by decide +kernel
theorem dX11_pumpLine_139 : decode cX11_pumpLine 139 = .ok (.return_, 1) := by decide +kernel
theorem dX11_pumpLine_140 : decode cX11_pumpLine 140 = .ok (.aload_n 0, 1) := by decide +kernel
theorem dX11_pumpLine_141 : decode cX11_pumpLine 141 = .ok (.getfield 23, 3) := by decide +kernel
theorem dX11_pumpLine_144 : decode cX11_pumpLine 144 = .ok (.iload_n 2, 1) := by decide +kernel
theorem dX11_pumpLine_145 : decode cX11_pumpLine 145 = .ok (.iload_n 3, 1) := by decide +kernel
theorem dX11_pumpLine_146 : decode cX11_pumpLine 146 = .ok (.iastore, 1) := by decide +kernel
theorem dX11_pumpLine_147 : decode cX11_pumpLine 147 = .ok (.aload_n 0, 1) := by decide +kernel
theorem dX11_pumpLine_148 : decode cX11_pumpLine 148 = .ok (.getfield 23, 3) := by decide +kernel
theorem dX11_pumpLine_151 : decode cX11_pumpLine 151 = .ok (.iload_n 2, 1) := by decide +kernel
theorem dX11_pumpLine_152 : decode cX11_pumpLine 152 = .ok (.iconst 1, 1) := by decide +kernel
theorem dX11_pumpLine_153 : decode cX11_pumpLine 153 = .ok (.iadd, 1) := by decide +kernel
theorem dX11_pumpLine_154 : decode cX11_pumpLine 154 = .ok (.iload 4, 2) := by decide +kernel
theorem dX11_pumpLine_156 : decode cX11_pumpLine 156 = .ok (.iastore, 1) := by decide +kernel
theorem dX11_pumpLine_157 : decode cX11_pumpLine 157 = .ok (.aload_n 0, 1) := by decide +kernel
theorem dX11_pumpLine_158 : decode cX11_pumpLine 158 = .ok (.getfield 23, 3) := by decide +kernel
theorem dX11_pumpLine_161 : decode cX11_pumpLine 161 = .ok (.iload_n 2, 1) := by decide +kernel
theorem dX11_pumpLine_162 : decode cX11_pumpLine 162 = .ok (.iconst 2, 1) := by decide +kernel
theorem dX11_pumpLine_163 : decode cX11_pumpLine 163 = .ok (.iadd, 1) := by decide +kernel
theorem dX11_pumpLine_164 : decode cX11_pumpLine 164 = .ok (.iload 5, 2) := by decide +kernel
theorem dX11_pumpLine_166 : decode cX11_pumpLine 166 = .ok (.iastore, 1) := by decide +kernel
theorem dX11_pumpLine_167 : decode cX11_pumpLine 167 = .ok (.aload_n 0, 1) := by decide +kernel
theorem dX11_pumpLine_168 : decode cX11_pumpLine 168 = .ok (.getfield 23, 3) := by decide +kernel
theorem dX11_pumpLine_171 : decode cX11_pumpLine 171 = .ok (.bipush 7, 2) := by decide +kernel
theorem dX11_pumpLine_173 : decode cX11_pumpLine 173 = .ok (.dup2, 1) := by decide +kernel
theorem dX11_pumpLine_174 : decode cX11_pumpLine 174 = .ok (.iaload, 1) := by decide +kernel
theorem dX11_pumpLine_175 : decode cX11_pumpLine 175 = .ok (.iconst 1, 1) := by decide +kernel
theorem dX11_pumpLine_176 : decode cX11_pumpLine 176 = .ok (.iadd, 1) := by decide +kernel
theorem dX11_pumpLine_177 : decode cX11_pumpLine 177 = .ok (.iastore, 1) := by decide +kernel
theorem dX11_pumpLine_178 : decode cX11_pumpLine 178 = .ok (.return_, 1) := by decide +kernel
theorem dX11_wayLine_0 : decode cX11_wayLine 0 = .ok (.aload_n 0, 1) := by decide +kernel
theorem dX11_wayLine_1 : decode cX11_wayLine 1 = .ok (.getfield 23, 3) := by decide +kernel
theorem dX11_wayLine_4 : decode cX11_wayLine 4 = .ok (.bipush 8, 2) := by decide +kernel
theorem dX11_wayLine_6 : decode cX11_wayLine 6 = .ok (.iaload, 1) := by decide +kernel
theorem dX11_wayLine_7 : decode cX11_wayLine 7 = .ok (.ifCond .le 12, 3) := by decide +kernel
theorem dX11_wayLine_10 : decode cX11_wayLine 10 = .ok (.aload_n 0, 1) := by decide +kernel
theorem dX11_wayLine_11 : decode cX11_wayLine 11 = .ok (.iconst 3, 1) := by decide +kernel
theorem dX11_wayLine_12 : decode cX11_wayLine 12 = .ok (.aload_n 0, 1) := by decide +kernel
theorem dX11_wayLine_13 : decode cX11_wayLine 13 = .ok (.getfield 89, 3) := by decide +kernel
theorem dX11_wayLine_16 : decode cX11_wayLine 16 = .ok (.invokevirtual 135, 3) := by decide +kernel
theorem dX11_wayLine_19 : decode cX11_wayLine 19 = .ok (.aload_n 0, 1) := by decide +kernel
theorem dX11_wayLine_20 : decode cX11_wayLine 20 = .ok (.getfield 23, 3) := by decide +kernel
theorem dX11_wayLine_23 : decode cX11_wayLine 23 = .ok (.bipush 10, 2) := by decide +kernel
theorem dX11_wayLine_25 : decode cX11_wayLine 25 = .ok (.iaload, 1) := by decide +kernel
theorem dX11_wayLine_26 : decode cX11_wayLine 26 = .ok (.ifCond .ne 13, 3) := by decide +kernel
theorem dX11_wayLine_29 : decode cX11_wayLine 29 = .ok (.aload_n 0, 1) := by decide +kernel
theorem dX11_wayLine_30 : decode cX11_wayLine 30 = .ok (.bipush 6, 2) := by decide +kernel
theorem dX11_wayLine_32 : decode cX11_wayLine 32 = .ok (.aload_n 0, 1) := by decide +kernel
theorem dX11_wayLine_33 : decode cX11_wayLine 33 = .ok (.getfield 89, 3) := by decide +kernel
theorem dX11_wayLine_36 : decode cX11_wayLine 36 = .ok (.invokevirtual 135, 3) := by decide +kernel
theorem dX11_wayLine_39 : decode cX11_wayLine 39 = .ok (.aload_n 0, 1) := by decide +kernel
theorem dX11_wayLine_40 : decode cX11_wayLine 40 = .ok (.getfield 108, 3) := by decide +kernel
theorem dX11_wayLine_43 : decode cX11_wayLine 43 = .ok (.ifCond .eq 4, 3) := by decide +kernel
theorem dX11_wayLine_46 : decode cX11_wayLine 46 = .ok (.return_, 1) := by decide +kernel
theorem dX11_wayLine_47 : decode cX11_wayLine 47 = .ok (.aload_n 0, 1) := by decide +kernel
theorem dX11_wayLine_48 : decode cX11_wayLine 48 = .ok (.invokevirtual 129, 3) := by decide +kernel
theorem dX11_wayLine_51 : decode cX11_wayLine 51 = .ok (.iconst 0, 1) := by decide +kernel
theorem dX11_wayLine_52 : decode cX11_wayLine 52 = .ok (.istore_n 1, 1) := by decide +kernel
theorem dX11_wayLine_53 : decode cX11_wayLine 53 = .ok (.iconst 1, 1) := by decide +kernel
theorem dX11_wayLine_54 : decode cX11_wayLine 54 = .ok (.istore_n 2, 1) := by decide +kernel
theorem dX11_wayLine_55 : decode cX11_wayLine 55 = .ok (.iload_n 2, 1) := by decide +kernel
theorem dX11_wayLine_56 : decode cX11_wayLine 56 = .ok (.ifCond .eq 113, 3) := by decide +kernel
theorem dX11_wayLine_59 : decode cX11_wayLine 59 = .ok (.aload_n 0, 1) := by decide +kernel
theorem dX11_wayLine_60 : decode cX11_wayLine 60 = .ok (.invokevirtual 158, 3) := by decide +kernel
theorem dX11_wayLine_63 : decode cX11_wayLine 63 = .ok (.istore_n 3, 1) := by decide +kernel
theorem dX11_wayLine_64 : decode cX11_wayLine 64 = .ok (.aload_n 0, 1) := by decide +kernel
theorem dX11_wayLine_65 : decode cX11_wayLine 65 = .ok (.getfield 108, 3) := by decide +kernel
theorem dX11_wayLine_68 : decode cX11_wayLine 68 = .ok (.ifCond .ne 18, 3) := by decide +kernel
theorem dX11_wayLine_71 : decode cX11_wayLine 71 = .ok (.iload_n 1, 1) := by decide +kernel
theorem dX11_wayLine_72 : decode cX11_wayLine 72 = .ok (.bipush 9, 2) := by decide +kernel
theorem dX11_wayLine_74 : decode cX11_wayLine 74 = .ok (.if_icmp .ne 12, 3) := by decide +kernel
theorem dX11_wayLine_77 : decode cX11_wayLine 77 = .ok (.aload_n 0, 1) := by decide +kernel
theorem dX11_wayLine_78 : decode cX11_wayLine 78 = .ok (.iconst 5, 1) := by decide +kernel
theorem dX11_wayLine_79 : decode cX11_wayLine 79 = .ok (.aload_n 0, 1) := by decide +kernel
theorem dX11_wayLine_80 : decode cX11_wayLine 80 = .ok (.getfield 89, 3) := by decide +kernel
theorem dX11_wayLine_83 : decode cX11_wayLine 83 = .ok (.invokevirtual 135, 3) := by decide +kernel
theorem dX11_wayLine_86 : decode cX11_wayLine 86 = .ok (.aload_n 0, 1) := by decide +kernel
theorem dX11_wayLine_87 : decode cX11_wayLine 87 = .ok (.getfield 108, 3) := by decide +kernel
theorem dX11_wayLine_90 : decode cX11_wayLine 90 = .ok (.ifCond .ne 45, 3) := by decide +kernel
theorem dX11_wayLine_93 : decode cX11_wayLine 93 = .ok (.iload_n 1, 1) := by decide +kernel
theorem dX11_wayLine_94 : decode cX11_wayLine 94 = .ok (.ifCond .le 41, 3) := by decide +kernel
theorem dX11_wayLine_97 : decode cX11_wayLine 97 = .ok (.aload_n 0, 1) := by decide +kernel
theorem dX11_wayLine_98 : decode cX11_wayLine 98 = .ok (.getfield 23, 3) := by decide +kernel
theorem dX11_wayLine_101 : decode cX11_wayLine 101 = .ok (.bipush 38, 2) := by decide +kernel
theorem dX11_wayLine_103 : decode cX11_wayLine 103 = .ok (.bipush 9, 2) := by decide +kernel
theorem dX11_wayLine_105 : decode cX11_wayLine 105 = .ok (.aload_n 0, 1) := by decide +kernel
theorem dX11_wayLine_106 : decode cX11_wayLine 106 = .ok (.getfield 23, 3) := by decide +kernel
theorem dX11_wayLine_109 : decode cX11_wayLine 109 = .ok (.sipush 200, 3) := by decide +kernel
theorem dX11_wayLine_112 : decode cX11_wayLine 112 = .ok (.iload_n 1, 1) := by decide +kernel
theorem dX11_wayLine_113 : decode cX11_wayLine 113 = .ok (.iadd, 1) := by decide +kernel
theorem dX11_wayLine_114 : decode cX11_wayLine 114 = .ok (.iconst 1, 1) := by decide +kernel
theorem dX11_wayLine_115 : decode cX11_wayLine 115 = .ok (.isub, 1) := by decide +kernel
theorem dX11_wayLine_116 : decode cX11_wayLine 116 = .ok (.iaload, 1) := by decide +kernel
theorem dX11_wayLine_117 : decode cX11_wayLine 117 = .ok (.imul, 1) := by decide +kernel
theorem dX11_wayLine_118 : decode cX11_wayLine 118 = .ok (.iadd, 1) := by decide +kernel
theorem dX11_wayLine_119 : decode cX11_wayLine 119 = .ok (.iload_n 3, 1) := by decide +kernel
theorem dX11_wayLine_120 : decode cX11_wayLine 120 = .ok (.iadd, 1) := by decide +kernel
theorem dX11_wayLine_121 : decode cX11_wayLine 121 = .ok (.iaload, 1) := by decide +kernel
theorem dX11_wayLine_122 : decode cX11_wayLine 122 = .ok (.ifCond .ne 13, 3) := by decide +kernel
theorem dX11_wayLine_125 : decode cX11_wayLine 125 = .ok (.aload_n 0, 1) := by decide +kernel
theorem dX11_wayLine_126 : decode cX11_wayLine 126 = .ok (.bipush 7, 2) := by decide +kernel
theorem dX11_wayLine_128 : decode cX11_wayLine 128 = .ok (.aload_n 0, 1) := by decide +kernel
theorem dX11_wayLine_129 : decode cX11_wayLine 129 = .ok (.getfield 89, 3) := by decide +kernel
theorem dX11_wayLine_132 : decode cX11_wayLine 132 = .ok (.invokevirtual 135, 3) := by decide +kernel
theorem dX11_wayLine_135 : decode cX11_wayLine 135 = .ok (.aload_n 0, 1) := by decide +kernel
theorem dX11_wayLine_136 : decode cX11_wayLine 136 = .ok (.getfield 108, 3) := by decide +kernel
theorem dX11_wayLine_139 : decode cX11_wayLine 139 = .ok (.ifCond .eq 4, 3) := by decide +kernel
theorem dX11_wayLine_142 : decode cX11_wayLine 142 = .ok (.return_, 1) := by decide +kernel
theorem dX11_wayLine_143 : decode cX11_wayLine 143 = .ok (.aload_n 0, 1) := by decide +kernel
theorem dX11_wayLine_144 : decode cX11_wayLine 144 = .ok (.getfield 23, 3) := by decide +kernel
theorem dX11_wayLine_147 : decode cX11_wayLine 147 = .ok (.sipush 200, 3) := by decide +kernel
theorem dX11_wayLine_150 : decode cX11_wayLine 150 = .ok (.iload_n 1, 1) := by decide +kernel
theorem dX11_wayLine_151 : decode cX11_wayLine 151 = .ok (.iadd, 1) := by decide +kernel
theorem dX11_wayLine_152 : decode cX11_wayLine 152 = .ok (.iload_n 3, 1) := by decide +kernel
theorem dX11_wayLine_153 : decode cX11_wayLine 153 = .ok (.iastore, 1) := by decide +kernel
theorem dX11_wayLine_154 : decode cX11_wayLine 154 = .ok (.iinc 1 1, 3) := by decide +kernel
theorem dX11_wayLine_157 : decode cX11_wayLine 157 = .ok (.aload_n 0, 1) := by decide +kernel
theorem dX11_wayLine_158 : decode cX11_wayLine 158 = .ok (.invokevirtual 129, 3) := by decide +kernel
theorem dX11_wayLine_161 : decode cX11_wayLine 161 = .ok (.aload_n 0, 1) := by decide +kernel
theorem dX11_wayLine_162 : decode cX11_wayLine 162 = .ok (.invokevirtual 234, 3) := by decide +kernel
theorem dX11_wayLine_165 : decode cX11_wayLine 165 = .ok (.istore_n 2, 1) := by decide +kernel
theorem dX11_wayLine_166 : decode cX11_wayLine 166 = .ok (.goto (-111), 3) := by decide +kernel
theorem dX11_wayLine_169 : decode cX11_wayLine 169 = .ok (.aload_n 0, 1) := by decide +kernel
theorem dX11_wayLine_170 : decode cX11_wayLine 170 = .ok (.getfield 108, 3) := by decide +kernel
theorem dX11_wayLine_173 : decode cX11_wayLine 173 = .ok (.ifCond .ne 38, 3) := by decide +kernel
theorem dX11_wayLine_176 : decode cX11_wayLine 176 = .ok (.iload_n 1, 1) := by decide +kernel
theorem dX11_wayLine_177 : decode cX11_wayLine 177 = .ok (.iconst 2, 1) := by decide +kernel
theorem dX11_wayLine_178 : decode cX11_wayLine 178 = .ok (.if_icmp .ge 33, 3) := by decide +kernel
theorem dX11_wayLine_181 : decode cX11_wayLine 181 = .ok (.aload_n 0, 1) := by decide +kernel
theorem dX11_wayLine_182 : decode cX11_wayLine 182 = .ok (.aload_n 0, 1) := by decide +kernel
theorem dX11_wayLine_183 : decode cX11_wayLine 183 = .ok (.getfield 98, 3) := by decide +kernel
theorem dX11_wayLine_186 : decode cX11_wayLine 186 = .ok (.bipush 59, 2) := by decide +kernel
theorem dX11_wayLine_188 : decode cX11_wayLine 188 = .ok (.if_icmp .eq 10, 3) := by decide +kernel
theorem dX11_wayLine_191 : decode cX11_wayLine 191 = .ok (.aload_n 0, 1) := by decide +kernel
theorem dX11_wayLine_192 : decode cX11_wayLine 192 = .ok (.getfield 98, 3) := by decide +kernel
theorem dX11_wayLine_195 : decode cX11_wayLine 195 = .ok (.ifCond .ne 8, 3) := by decide +kernel
theorem dX11_wayLine_198 : decode cX11_wayLine 198 = .ok (.bipush 6, 2) := by decide +kernel
theorem dX11_wayLine_200 : decode cX11_wayLine 200 = .ok (.goto 4, 3) := by decide +kernel
theorem dX11_wayLine_203 : decode cX11_wayLine 203 = .ok (.iconst 1, 1) := by decide +kernel
theorem dX11_wayLine_204 : decode cX11_wayLine 204 = .ok (.aload_n 0, 1) := by decide +kernel
theorem dX11_wayLine_205 : decode cX11_wayLine 205 = .ok (.getfield 89, 3) := by decide +kernel
theorem dX11_wayLine_208 : decode cX11_wayLine 208 = .ok (.invokevirtual 135, 3) := by decide +kernel
theorem dX11_wayLine_211 : decode cX11_wayLine 211 = .ok (.aload_n 0, 1) := by decide +kernel
theorem dX11_wayLine_212 : decode cX11_wayLine 212 = .ok (.getfield 108, 3) := by decide +kernel
theorem dX11_wayLine_215 : decode cX11_wayLine 215 = .ok (.ifCond .ne 11, 3) := by decide +kernel
theorem dX11_wayLine_218 : decode cX11_wayLine 218 = .ok (.aload_n 0, 1) := by decide +kernel
theorem dX11_wayLine_219 : decode cX11_wayLine 219 = .ok (.getfield 23, 3) := by decide +kernel
theorem dX11_wayLine_222 : decode cX11_wayLine 222 = .ok (.bipush 8, 2) := by decide +kernel
theorem dX11_wayLine_224 : decode cX11_wayLine 224 = .ok (.iload_n 1, 1) := by decide +kernel
theorem dX11_wayLine_225 : decode cX11_wayLine 225 = .ok (.iastore, 1) := by decide +kernel
theorem dX11_wayLine_226 : decode cX11_wayLine 226 = .ok (.return_, 1) := by decide +kernel
theorem dX11_receiptLine_0 : decode cX11_receiptLine 0 = .ok (.aload_n 0, 1) := by decide +kernel
theorem dX11_receiptLine_1 : decode cX11_receiptLine 1 = .ok (.getfield 108, 3) := by decide +kernel
theorem dX11_receiptLine_4 : decode cX11_receiptLine 4 = .ok (.ifCond .eq 4, 3) := by decide +kernel
theorem dX11_receiptLine_7 : decode cX11_receiptLine 7 = .ok (.return_, 1) := by decide +kernel
theorem dX11_receiptLine_8 : decode cX11_receiptLine 8 = .ok (.sipush 209, 3) := by decide +kernel
theorem dX11_receiptLine_11 : decode cX11_receiptLine 11 = .ok (.iconst 2, 1) := by decide +kernel
theorem dX11_receiptLine_12 : decode cX11_receiptLine 12 = .ok (.aload_n 0, 1) := by decide +kernel
theorem dX11_receiptLine_13 : decode cX11_receiptLine 13 = .ok (.getfield 23, 3) := by decide +kernel
theorem dX11_receiptLine_16 : decode cX11_receiptLine 16 = .ok (.bipush 9, 2) := by decide +kernel
theorem dX11_receiptLine_18 : decode cX11_receiptLine 18 = .ok (.iaload, 1) := by decide +kernel
theorem dX11_receiptLine_19 : decode cX11_receiptLine 19 = .ok (.imul, 1) := by decide +kernel
theorem dX11_receiptLine_20 : decode cX11_receiptLine 20 = .ok (.iadd, 1) := by decide +kernel
theorem dX11_receiptLine_21 : decode cX11_receiptLine 21 = .ok (.istore_n 1, 1) := by decide +kernel
theorem dX11_receiptLine_22 : decode cX11_receiptLine 22 = .ok (.aload_n 0, 1) := by decide +kernel
theorem dX11_receiptLine_23 : decode cX11_receiptLine 23 = .ok (.invokevirtual 158, 3) := by decide +kernel
theorem dX11_receiptLine_26 : decode cX11_receiptLine 26 = .ok (.istore_n 2, 1) := by decide +kernel
theorem dX11_receiptLine_27 : decode cX11_receiptLine 27 = .ok (.aload_n 0, 1) := by decide +kernel
theorem dX11_receiptLine_28 : decode cX11_receiptLine 28 = .ok (.getfield 108, 3) := by decide +kernel
theorem dX11_receiptLine_31 : decode cX11_receiptLine 31 = .ok (.ifCond .ne 27, 3) := by decide +kernel
theorem dX11_receiptLine_34 : decode cX11_receiptLine 34 = .ok (.aload_n 0, 1) := by decide +kernel
theorem dX11_receiptLine_35 : decode cX11_receiptLine 35 = .ok (.getfield 23, 3) := by decide +kernel
theorem dX11_receiptLine_38 : decode cX11_receiptLine 38 = .ok (.bipush 11, 2) := by decide +kernel
theorem dX11_receiptLine_40 : decode cX11_receiptLine 40 = .ok (.iconst 3, 1) := by decide +kernel
theorem dX11_receiptLine_41 : decode cX11_receiptLine 41 = .ok (.iload_n 2, 1) := by decide +kernel
theorem dX11_receiptLine_42 : decode cX11_receiptLine 42 = .ok (.imul, 1) := by decide +kernel
theorem dX11_receiptLine_43 : decode cX11_receiptLine 43 = .ok (.iadd, 1) := by decide +kernel
theorem dX11_receiptLine_44 : decode cX11_receiptLine 44 = .ok (.iaload, 1) := by decide +kernel
theorem dX11_receiptLine_45 : decode cX11_receiptLine 45 = .ok (.ifCond .ne 13, 3) := by decide +kernel
theorem dX11_receiptLine_48 : decode cX11_receiptLine 48 = .ok (.aload_n 0, 1) := by decide +kernel
theorem dX11_receiptLine_49 : decode cX11_receiptLine 49 = .ok (.bipush 7, 2) := by decide +kernel
theorem dX11_receiptLine_51 : decode cX11_receiptLine 51 = .ok (.aload_n 0, 1) := by decide +kernel
theorem dX11_receiptLine_52 : decode cX11_receiptLine 52 = .ok (.getfield 89, 3) := by decide +kernel
theorem dX11_receiptLine_55 : decode cX11_receiptLine 55 = .ok (.invokevirtual 135, 3) := by decide +kernel
theorem dX11_receiptLine_58 : decode cX11_receiptLine 58 = .ok (.aload_n 0, 1) := by decide +kernel
theorem dX11_receiptLine_59 : decode cX11_receiptLine 59 = .ok (.getfield 108, 3) := by decide +kernel
theorem dX11_receiptLine_62 : decode cX11_receiptLine 62 = .ok (.ifCond .eq 4, 3) := by decide +kernel
theorem dX11_receiptLine_65 : decode cX11_receiptLine 65 = .ok (.return_, 1) := by decide +kernel
theorem dX11_receiptLine_66 : decode cX11_receiptLine 66 = .ok (.aload_n 0, 1) := by decide +kernel
theorem dX11_receiptLine_67 : decode cX11_receiptLine 67 = .ok (.invokevirtual 129, 3) := by decide +kernel
theorem dX11_receiptLine_70 : decode cX11_receiptLine 70 = .ok (.aload_n 0, 1) := by decide +kernel
theorem dX11_receiptLine_71 : decode cX11_receiptLine 71 = .ok (.getfield 23, 3) := by decide +kernel
theorem dX11_receiptLine_74 : decode cX11_receiptLine 74 = .ok (.iload_n 1, 1) := by decide +kernel
theorem dX11_receiptLine_75 : decode cX11_receiptLine 75 = .ok (.iload_n 2, 1) := by decide +kernel
theorem dX11_receiptLine_76 : decode cX11_receiptLine 76 = .ok (.iastore, 1) := by decide +kernel
theorem dX11_receiptLine_77 : decode cX11_receiptLine 77 = .ok (.aload_n 0, 1) := by decide +kernel
theorem dX11_receiptLine_78 : decode cX11_receiptLine 78 = .ok (.getfield 23, 3) := by decide +kernel
theorem dX11_receiptLine_81 : decode cX11_receiptLine 81 = .ok (.iload_n 1, 1) := by decide +kernel
theorem dX11_receiptLine_82 : decode cX11_receiptLine 82 = .ok (.iconst 1, 1) := by decide +kernel
theorem dX11_receiptLine_83 : decode cX11_receiptLine 83 = .ok (.iadd, 1) := by decide +kernel
theorem dX11_receiptLine_84 : decode cX11_receiptLine 84 = .ok (.aload_n 0, 1) := by decide +kernel
theorem dX11_receiptLine_85 : decode cX11_receiptLine 85 = .ok (.iconst 1, 1) := by decide +kernel
theorem dX11_receiptLine_86 : decode cX11_receiptLine 86 = .ok (.sipush 999, 3) := by decide +kernel
theorem dX11_receiptLine_89 : decode cX11_receiptLine 89 = .ok (.invokevirtual 173, 3) := by decide +kernel
theorem dX11_receiptLine_92 : decode cX11_receiptLine 92 = .ok (.iastore, 1) := by decide +kernel
theorem dX11_receiptLine_93 : decode cX11_receiptLine 93 = .ok (.aload_n 0, 1) := by decide +kernel
theorem dX11_receiptLine_94 : decode cX11_receiptLine 94 = .ok (.getfield 108, 3) := by decide +kernel
theorem dX11_receiptLine_97 : decode cX11_receiptLine 97 = .ok (.ifCond .ne 14, 3) := by decide +kernel
theorem dX11_receiptLine_100 : decode cX11_receiptLine 100 = .ok (.aload_n 0, 1) := by decide +kernel
theorem dX11_receiptLine_101 : decode cX11_receiptLine 101 = .ok (.getfield 23, 3) := by decide +kernel
theorem dX11_receiptLine_104 : decode cX11_receiptLine 104 = .ok (.bipush 9, 2) := by decide +kernel
theorem dX11_receiptLine_106 : decode cX11_receiptLine 106 = .ok (.dup2, 1) := by decide +kernel
theorem dX11_receiptLine_107 : decode cX11_receiptLine 107 = .ok (.iaload, 1) := by decide +kernel
theorem dX11_receiptLine_108 : decode cX11_receiptLine 108 = .ok (.iconst 1, 1) := by decide +kernel
theorem dX11_receiptLine_109 : decode cX11_receiptLine 109 = .ok (.iadd, 1) := by decide +kernel
theorem dX11_receiptLine_110 : decode cX11_receiptLine 110 = .ok (.iastore, 1) := by decide +kernel
theorem dX11_receiptLine_111 : decode cX11_receiptLine 111 = .ok (.return_, 1) := by decide +kernel
theorem dX11_fault_0 : decode cX11_fault 0 = .ok (.aload_n 0, 1) := by decide +kernel
theorem dX11_fault_1 : decode cX11_fault 1 = .ok (.iconst 0, 1) := by decide +kernel
theorem dX11_fault_2 : decode cX11_fault 2 = .ok (.putfield 66, 3) := by decide +kernel
theorem dX11_fault_5 : decode cX11_fault 5 = .ok (.aload_n 0, 1) := by decide +kernel
theorem dX11_fault_6 : decode cX11_fault 6 = .ok (.getfield 112, 3) := by decide +kernel
theorem dX11_fault_9 : decode cX11_fault 9 = .ok (.ireturn, 1) := by decide +kernel
theorem dX11_where_0 : decode cX11_where 0 = .ok (.aload_n 0, 1) := by decide +kernel
theorem dX11_where_1 : decode cX11_where 1 = .ok (.iconst 0, 1) := by decide +kernel
theorem dX11_where_2 : decode cX11_where 2 = .ok (.putfield 66, 3) := by decide +kernel
theorem dX11_where_5 : decode cX11_where 5 = .ok (.aload_n 0, 1) := by decide +kernel
theorem dX11_where_6 : decode cX11_where 6 = .ok (.getfield 69, 3) := by decide +kernel
theorem dX11_where_9 : decode cX11_where 9 = .ok (.iconst 4, 1) := by decide +kernel
theorem dX11_where_10 : decode cX11_where 10 = .ok (.if_icmp .ne 10, 3) := by decide +kernel
theorem dX11_where_13 : decode cX11_where 13 = .ok (.aload_n 0, 1) := by decide +kernel
theorem dX11_where_14 : decode cX11_where 14 = .ok (.getfield 13, 3) := by decide +kernel
theorem dX11_where_17 : decode cX11_where 17 = .ok (.goto 4, 3) := by decide +kernel
theorem dX11_where_20 : decode cX11_where 20 = .ok (.iconst (-1), 1) := by decide +kernel
theorem dX11_where_21 : decode cX11_where 21 = .ok (.ireturn, 1) := by decide +kernel
theorem dX11_isPlace_0 : decode cX11_isPlace 0 = .ok (.aload_n 0, 1) := by decide +kernel
theorem dX11_isPlace_1 : decode cX11_isPlace 1 = .ok (.getfield 189, 3) := by decide +kernel
theorem dX11_isPlace_4 : decode cX11_isPlace 4 = .ok (.ifCond .eq 23, 3) := by decide +kernel
theorem dX11_isPlace_7 : decode cX11_isPlace 7 = .ok (.iload_n 1, 1) := by decide +kernel
theorem dX11_isPlace_8 : decode cX11_isPlace 8 = .ok (.iconst 0, 1) := by decide +kernel
theorem dX11_isPlace_9 : decode cX11_isPlace 9 = .ok (.aload_n 0, 1) := by decide +kernel
theorem dX11_isPlace_10 : decode cX11_isPlace 10 = .ok (.getfield 20, 3) := by decide +kernel
theorem dX11_isPlace_13 : decode cX11_isPlace 13 = .ok (.iconst 5, 1) := by decide +kernel
theorem dX11_isPlace_14 : decode cX11_isPlace 14 = .ok (.iaload, 1) := by decide +kernel
theorem dX11_isPlace_15 : decode cX11_isPlace 15 = .ok (.iconst 1, 1) := by decide +kernel
theorem dX11_isPlace_16 : decode cX11_isPlace 16 = .ok (.isub, 1) := by decide +kernel
theorem dX11_isPlace_17 : decode cX11_isPlace 17 = .ok (.invokestatic 161, 3) := by decide +kernel
theorem dX11_isPlace_20 : decode cX11_isPlace 20 = .ok (.ifCond .eq 7, 3) := by decide +kernel
theorem dX11_isPlace_23 : decode cX11_isPlace 23 = .ok (.iconst 1, 1) := by decide +kernel
theorem dX11_isPlace_24 : decode cX11_isPlace 24 = .ok (.goto 4, 3) := by decide +kernel
theorem dX11_isPlace_27 : decode cX11_isPlace 27 = .ok (.iconst 0, 1) := by decide +kernel
theorem dX11_isPlace_28 : decode cX11_isPlace 28 = .ok (.ireturn, 1) := by decide +kernel
theorem dX11_isStation_0 : decode cX11_isStation 0 = .ok (.aload_n 0, 1) := by decide +kernel
theorem dX11_isStation_1 : decode cX11_isStation 1 = .ok (.getfield 189, 3) := by decide +kernel
theorem dX11_isStation_4 : decode cX11_isStation 4 = .ok (.ifCond .eq 24, 3) := by decide +kernel
theorem dX11_isStation_7 : decode cX11_isStation 7 = .ok (.iload_n 1, 1) := by decide +kernel
theorem dX11_isStation_8 : decode cX11_isStation 8 = .ok (.iconst 0, 1) := by decide +kernel
theorem dX11_isStation_9 : decode cX11_isStation 9 = .ok (.aload_n 0, 1) := by decide +kernel
theorem dX11_isStation_10 : decode cX11_isStation 10 = .ok (.getfield 20, 3) := by decide +kernel
theorem dX11_isStation_13 : decode cX11_isStation 13 = .ok (.bipush 8, 2) := by decide +kernel
theorem dX11_isStation_15 : decode cX11_isStation 15 = .ok (.iaload, 1) := by decide +kernel
theorem dX11_isStation_16 : decode cX11_isStation 16 = .ok (.iconst 1, 1) := by decide +kernel
theorem dX11_isStation_17 : decode cX11_isStation 17 = .ok (.isub, 1) := by decide +kernel
theorem dX11_isStation_18 : decode cX11_isStation 18 = .ok (.invokestatic 161, 3) := by decide +kernel
theorem dX11_isStation_21 : decode cX11_isStation 21 = .ok (.ifCond .eq 7, 3) := by decide +kernel
theorem dX11_isStation_24 : decode cX11_isStation 24 = .ok (.iconst 1, 1) := by decide +kernel
theorem dX11_isStation_25 : decode cX11_isStation 25 = .ok (.goto 4, 3) := by decide +kernel
theorem dX11_isStation_28 : decode cX11_isStation 28 = .ok (.iconst 0, 1) := by decide +kernel
theorem dX11_isStation_29 : decode cX11_isStation 29 = .ok (.ireturn, 1) := by decide +kernel
theorem dX11_isStop_0 : decode cX11_isStop 0 = .ok (.aload_n 0, 1) := by decide +kernel
theorem dX11_isStop_1 : decode cX11_isStop 1 = .ok (.iload_n 1, 1) := by decide +kernel
theorem dX11_isStop_2 : decode cX11_isStop 2 = .ok (.invokevirtual 251, 3) := by decide +kernel
theorem dX11_isStop_5 : decode cX11_isStop 5 = .ok (.ifCond .eq 15, 3) := by decide +kernel
theorem dX11_isStop_8 : decode cX11_isStop 8 = .ok (.iload_n 1, 1) := by decide +kernel
theorem dX11_isStop_9 : decode cX11_isStop 9 = .ok (.aload_n 0, 1) := by decide +kernel
theorem dX11_isStop_10 : decode cX11_isStop 10 = .ok (.invokevirtual 254, 3) := by decide +kernel
theorem dX11_isStop_13 : decode cX11_isStop 13 = .ok (.if_icmp .ge 7, 3) := by decide +kernel
theorem dX11_isStop_16 : decode cX11_isStop 16 = .ok (.iconst 1, 1) := by decide +kernel
theorem dX11_isStop_17 : decode cX11_isStop 17 = .ok (.goto 4, 3) := by decide +kernel
theorem dX11_isStop_20 : decode cX11_isStop 20 = .ok (.iconst 0, 1) := by decide +kernel
theorem dX11_isStop_21 : decode cX11_isStop 21 = .ok (.ireturn, 1) := by decide +kernel
theorem dX11_lastStation_0 : decode cX11_lastStation 0 = .ok (.aload_n 0, 1) := by decide +kernel
theorem dX11_lastStation_1 : decode cX11_lastStation 1 = .ok (.getfield 20, 3) := by decide +kernel
theorem dX11_lastStation_4 : decode cX11_lastStation 4 = .ok (.bipush 8, 2) := by decide +kernel
theorem dX11_lastStation_6 : decode cX11_lastStation 6 = .ok (.iaload, 1) := by decide +kernel
theorem dX11_lastStation_7 : decode cX11_lastStation 7 = .ok (.iconst 1, 1) := by decide +kernel
theorem dX11_lastStation_8 : decode cX11_lastStation 8 = .ok (.isub, 1) := by decide +kernel
theorem dX11_lastStation_9 : decode cX11_lastStation 9 = .ok (.ireturn, 1) := by decide +kernel
theorem dX11_isRule_0 : decode cX11_isRule 0 = .ok (.aload_n 0, 1) := by decide +kernel
theorem dX11_isRule_1 : decode cX11_isRule 1 = .ok (.getfield 189, 3) := by decide +kernel
theorem dX11_isRule_4 : decode cX11_isRule 4 = .ok (.ifCond .eq 16, 3) := by decide +kernel
theorem dX11_isRule_7 : decode cX11_isRule 7 = .ok (.iload_n 1, 1) := by decide +kernel
theorem dX11_isRule_8 : decode cX11_isRule 8 = .ok (.iconst 0, 1) := by decide +kernel
theorem dX11_isRule_9 : decode cX11_isRule 9 = .ok (.iconst 3, 1) := by decide +kernel
theorem dX11_isRule_10 : decode cX11_isRule 10 = .ok (.invokestatic 161, 3) := by decide +kernel
theorem dX11_isRule_13 : decode cX11_isRule 13 = .ok (.ifCond .eq 7, 3) := by decide +kernel
theorem dX11_isRule_16 : decode cX11_isRule 16 = .ok (.iconst 1, 1) := by decide +kernel
theorem dX11_isRule_17 : decode cX11_isRule 17 = .ok (.goto 4, 3) := by decide +kernel
theorem dX11_isRule_20 : decode cX11_isRule 20 = .ok (.iconst 0, 1) := by decide +kernel
theorem dX11_isRule_21 : decode cX11_isRule 21 = .ok (.ireturn, 1) := by decide +kernel
theorem dX11_roadOf_0 : decode cX11_roadOf 0 = .ok (.aload_n 0, 1) := by decide +kernel
theorem dX11_roadOf_1 : decode cX11_roadOf 1 = .ok (.getfield 20, 3) := by decide +kernel
theorem dX11_roadOf_4 : decode cX11_roadOf 4 = .ok (.bipush 38, 2) := by decide +kernel
theorem dX11_roadOf_6 : decode cX11_roadOf 6 = .ok (.bipush 9, 2) := by decide +kernel
theorem dX11_roadOf_8 : decode cX11_roadOf 8 = .ok (.iload_n 1, 1) := by decide +kernel
theorem dX11_roadOf_9 : decode cX11_roadOf 9 = .ok (.imul, 1) := by decide +kernel
theorem dX11_roadOf_10 : decode cX11_roadOf 10 = .ok (.iadd, 1) := by decide +kernel
theorem dX11_roadOf_11 : decode cX11_roadOf 11 = .ok (.iload_n 2, 1) := by decide +kernel
theorem dX11_roadOf_12 : decode cX11_roadOf 12 = .ok (.iadd, 1) := by decide +kernel
theorem dX11_roadOf_13 : decode cX11_roadOf 13 = .ok (.iaload, 1) := by decide +kernel
theorem dX11_roadOf_14 : decode cX11_roadOf 14 = .ok (.ireturn, 1) := by decide +kernel
theorem dX11_pumpOf_0 : decode cX11_pumpOf 0 = .ok (.aload_n 0, 1) := by decide +kernel
theorem dX11_pumpOf_1 : decode cX11_pumpOf 1 = .ok (.getfield 20, 3) := by decide +kernel
theorem dX11_pumpOf_4 : decode cX11_pumpOf 4 = .ok (.bipush 11, 2) := by decide +kernel
theorem dX11_pumpOf_6 : decode cX11_pumpOf 6 = .ok (.iconst 3, 1) := by decide +kernel
theorem dX11_pumpOf_7 : decode cX11_pumpOf 7 = .ok (.iload_n 1, 1) := by decide +kernel
theorem dX11_pumpOf_8 : decode cX11_pumpOf 8 = .ok (.imul, 1) := by decide +kernel
theorem dX11_pumpOf_9 : decode cX11_pumpOf 9 = .ok (.iadd, 1) := by decide +kernel
theorem dX11_pumpOf_10 : decode cX11_pumpOf 10 = .ok (.iload_n 2, 1) := by decide +kernel
theorem dX11_pumpOf_11 : decode cX11_pumpOf 11 = .ok (.iadd, 1) := by decide +kernel
theorem dX11_pumpOf_12 : decode cX11_pumpOf 12 = .ok (.iaload, 1) := by decide +kernel
theorem dX11_pumpOf_13 : decode cX11_pumpOf 13 = .ok (.ireturn, 1) := by decide +kernel
theorem dX11_placeOf_0 : decode cX11_placeOf 0 = .ok (.aload_n 0, 1) := by decide +kernel
theorem dX11_placeOf_1 : decode cX11_placeOf 1 = .ok (.getfield 20, 3) := by decide +kernel
theorem dX11_placeOf_4 : decode cX11_placeOf 4 = .ok (.sipush 200, 3) := by decide +kernel
theorem dX11_placeOf_7 : decode cX11_placeOf 7 = .ok (.iload_n 1, 1) := by decide +kernel
theorem dX11_placeOf_8 : decode cX11_placeOf 8 = .ok (.iadd, 1) := by decide +kernel
theorem dX11_placeOf_9 : decode cX11_placeOf 9 = .ok (.iaload, 1) := by decide +kernel
theorem dX11_placeOf_10 : decode cX11_placeOf 10 = .ok (.ireturn, 1) := by decide +kernel
theorem dX11_priceAt_0 : decode cX11_priceAt 0 = .ok (.aload_n 0, 1) := by decide +kernel
theorem dX11_priceAt_1 : decode cX11_priceAt 1 = .ok (.aload_n 0, 1) := by decide +kernel
theorem dX11_priceAt_2 : decode cX11_priceAt 2 = .ok (.iload_n 1, 1) := by decide +kernel
theorem dX11_priceAt_3 : decode cX11_priceAt 3 = .ok (.invokevirtual 257, 3) := by decide +kernel
theorem dX11_priceAt_6 : decode cX11_priceAt 6 = .ok (.iconst 0, 1) := by decide +kernel
theorem dX11_priceAt_7 : decode cX11_priceAt 7 = .ok (.invokevirtual 260, 3) := by decide +kernel
theorem dX11_priceAt_10 : decode cX11_priceAt 10 = .ok (.ireturn, 1) := by decide +kernel
theorem dX11_leg_0 : decode cX11_leg 0 = .ok (.aload_n 0, 1) := by decide +kernel
theorem dX11_leg_1 : decode cX11_leg 1 = .ok (.aload_n 0, 1) := by decide +kernel
theorem dX11_leg_2 : decode cX11_leg 2 = .ok (.iload_n 1, 1) := by decide +kernel
theorem dX11_leg_3 : decode cX11_leg 3 = .ok (.invokevirtual 257, 3) := by decide +kernel
theorem dX11_leg_6 : decode cX11_leg 6 = .ok (.aload_n 0, 1) := by decide +kernel
theorem dX11_leg_7 : decode cX11_leg 7 = .ok (.iload_n 1, 1) := by decide +kernel
theorem dX11_leg_8 : decode cX11_leg 8 = .ok (.iconst 1, 1) := by decide +kernel
theorem dX11_leg_9 : decode cX11_leg 9 = .ok (.iadd, 1) := by decide +kernel
theorem dX11_leg_10 : decode cX11_leg 10 = .ok (.invokevirtual 257, 3) := by decide +kernel
theorem dX11_leg_13 : decode cX11_leg 13 = .ok (.invokevirtual 263, 3) := by decide +kernel
theorem dX11_leg_16 : decode cX11_leg 16 = .ok (.ireturn, 1) := by decide +kernel
theorem dX11_legsOf_0 : decode cX11_legsOf 0 = .ok (.iconst 0, 1) := by decide +kernel
theorem dX11_legsOf_1 : decode cX11_legsOf 1 = .ok (.istore_n 3, 1) := by decide +kernel
theorem dX11_legsOf_2 : decode cX11_legsOf 2 = .ok (.iload_n 1, 1) := by decide +kernel
theorem dX11_legsOf_3 : decode cX11_legsOf 3 = .ok (.istore 4, 2) := by decide +kernel
theorem dX11_legsOf_5 : decode cX11_legsOf 5 = .ok (.iload 4, 2) := by decide +kernel
theorem dX11_legsOf_7 : decode cX11_legsOf 7 = .ok (.iload_n 2, 1) := by decide +kernel
theorem dX11_legsOf_8 : decode cX11_legsOf 8 = .ok (.if_icmp .ge 18, 3) := by decide +kernel
theorem dX11_legsOf_11 : decode cX11_legsOf 11 = .ok (.iload_n 3, 1) := by decide +kernel
theorem dX11_legsOf_12 : decode cX11_legsOf 12 = .ok (.aload_n 0, 1) := by decide +kernel
theorem dX11_legsOf_13 : decode cX11_legsOf 13 = .ok (.iload 4, 2) := by decide +kernel
theorem dX11_legsOf_15 : decode cX11_legsOf 15 = .ok (.invokevirtual 266, 3) := by decide +kernel
theorem dX11_legsOf_18 : decode cX11_legsOf 18 = .ok (.iadd, 1) := by decide +kernel
theorem dX11_legsOf_19 : decode cX11_legsOf 19 = .ok (.istore_n 3, 1) := by decide +kernel
theorem dX11_legsOf_20 : decode cX11_legsOf 20 = .ok (.iinc 4 1, 3) := by decide +kernel
theorem dX11_legsOf_23 : decode cX11_legsOf 23 = .ok (.goto (-18), 3) := by decide +kernel
theorem dX11_legsOf_26 : decode cX11_legsOf 26 = .ok (.iload_n 3, 1) := by decide +kernel
theorem dX11_legsOf_27 : decode cX11_legsOf 27 = .ok (.ireturn, 1) := by decide +kernel
theorem dX11_takes_0 : decode cX11_takes 0 = .ok (.aload_n 0, 1) := by decide +kernel
theorem dX11_takes_1 : decode cX11_takes 1 = .ok (.invokevirtual 176, 3) := by decide +kernel
theorem dX11_takes_4 : decode cX11_takes 4 = .ok (.aload_n 0, 1) := by decide +kernel
theorem dX11_takes_5 : decode cX11_takes 5 = .ok (.iload_n 1, 1) := by decide +kernel
theorem dX11_takes_6 : decode cX11_takes 6 = .ok (.invokevirtual 269, 3) := by decide +kernel
theorem dX11_takes_9 : decode cX11_takes 9 = .ok (.ifCond .eq 16, 3) := by decide +kernel
theorem dX11_takes_12 : decode cX11_takes 12 = .ok (.aload_n 0, 1) := by decide +kernel
theorem dX11_takes_13 : decode cX11_takes 13 = .ok (.iload_n 2, 1) := by decide +kernel
theorem dX11_takes_14 : decode cX11_takes 14 = .ok (.invokevirtual 269, 3) := by decide +kernel
theorem dX11_takes_17 : decode cX11_takes 17 = .ok (.ifCond .eq 8, 3) := by decide +kernel
theorem dX11_takes_20 : decode cX11_takes 20 = .ok (.iload_n 1, 1) := by decide +kernel
theorem dX11_takes_21 : decode cX11_takes 21 = .ok (.iload_n 2, 1) := by decide +kernel
theorem dX11_takes_22 : decode cX11_takes 22 = .ok (.if_icmp .ne 9, 3) := by decide +kernel
theorem dX11_takes_25 : decode cX11_takes 25 = .ok (.aload_n 0, 1) := by decide +kernel
theorem dX11_takes_26 : decode cX11_takes 26 = .ok (.iconst 1, 1) := by decide +kernel
theorem dX11_takes_27 : decode cX11_takes 27 = .ok (.invokevirtual 179, 3) := by decide +kernel
theorem dX11_takes_30 : decode cX11_takes 30 = .ok (.ireturn, 1) := by decide +kernel
theorem dX11_takes_31 : decode cX11_takes 31 = .ok (.aload_n 0, 1) := by decide +kernel
theorem dX11_takes_32 : decode cX11_takes 32 = .ok (.iload_n 1, 1) := by decide +kernel
theorem dX11_takes_33 : decode cX11_takes 33 = .ok (.iload_n 2, 1) := by decide +kernel
theorem dX11_takes_34 : decode cX11_takes 34 = .ok (.invokevirtual 263, 3) := by decide +kernel
theorem dX11_takes_37 : decode cX11_takes 37 = .ok (.ifCond .ne 8, 3) := by decide +kernel
theorem dX11_takes_40 : decode cX11_takes 40 = .ok (.bipush (-2), 2) := by decide +kernel
theorem dX11_takes_42 : decode cX11_takes 42 = .ok (.goto 30, 3) := by decide +kernel
theorem dX11_takes_45 : decode cX11_takes 45 = .ok (.iload_n 3, 1) := by decide +kernel
theorem dX11_takes_46 : decode cX11_takes 46 = .ok (.ifCond .eq 20, 3) := by decide +kernel
theorem dX11_takes_49 : decode cX11_takes 49 = .ok (.aload_n 0, 1) := by decide +kernel
theorem dX11_takes_50 : decode cX11_takes 50 = .ok (.getfield 20, 3) := by decide +kernel
theorem dX11_takes_53 : decode cX11_takes 53 = .ok (.bipush 119, 2) := by decide +kernel
theorem dX11_takes_55 : decode cX11_takes 55 = .ok (.bipush 9, 2) := by decide +kernel
theorem dX11_takes_57 : decode cX11_takes 57 = .ok (.iload_n 1, 1) := by decide +kernel
theorem dX11_takes_58 : decode cX11_takes 58 = .ok (.imul, 1) := by decide +kernel
theorem dX11_takes_59 : decode cX11_takes 59 = .ok (.iadd, 1) := by decide +kernel
theorem dX11_takes_60 : decode cX11_takes 60 = .ok (.iload_n 2, 1) := by decide +kernel
theorem dX11_takes_61 : decode cX11_takes 61 = .ok (.iadd, 1) := by decide +kernel
theorem dX11_takes_62 : decode cX11_takes 62 = .ok (.iaload, 1) := by decide +kernel
theorem dX11_takes_63 : decode cX11_takes 63 = .ok (.goto 9, 3) := by decide +kernel
theorem dX11_takes_66 : decode cX11_takes 66 = .ok (.aload_n 0, 1) := by decide +kernel
theorem dX11_takes_67 : decode cX11_takes 67 = .ok (.iload_n 1, 1) := by decide +kernel
theorem dX11_takes_68 : decode cX11_takes 68 = .ok (.iload_n 2, 1) := by decide +kernel
theorem dX11_takes_69 : decode cX11_takes 69 = .ok (.invokevirtual 263, 3) := by decide +kernel
theorem dX11_takes_72 : decode cX11_takes 72 = .ok (.ireturn, 1) := by decide +kernel
theorem dX11_pump_0 : decode cX11_pump 0 = .ok (.aload_n 0, 1) := by decide +kernel
theorem dX11_pump_1 : decode cX11_pump 1 = .ok (.invokevirtual 176, 3) := by decide +kernel
theorem dX11_pump_4 : decode cX11_pump 4 = .ok (.aload_n 0, 1) := by decide +kernel
theorem dX11_pump_5 : decode cX11_pump 5 = .ok (.iload_n 1, 1) := by decide +kernel
theorem dX11_pump_6 : decode cX11_pump 6 = .ok (.invokevirtual 269, 3) := by decide +kernel
theorem dX11_pump_9 : decode cX11_pump 9 = .ok (.ifCond .eq 12, 3) := by decide +kernel
theorem dX11_pump_12 : decode cX11_pump 12 = .ok (.iload_n 2, 1) := by decide +kernel
theorem dX11_pump_13 : decode cX11_pump 13 = .ok (.iconst 0, 1) := by decide +kernel
theorem dX11_pump_14 : decode cX11_pump 14 = .ok (.iconst 2, 1) := by decide +kernel
theorem dX11_pump_15 : decode cX11_pump 15 = .ok (.invokestatic 161, 3) := by decide +kernel
theorem dX11_pump_18 : decode cX11_pump 18 = .ok (.ifCond .ne 9, 3) := by decide +kernel
theorem dX11_pump_21 : decode cX11_pump 21 = .ok (.aload_n 0, 1) := by decide +kernel
theorem dX11_pump_22 : decode cX11_pump 22 = .ok (.iconst 1, 1) := by decide +kernel
theorem dX11_pump_23 : decode cX11_pump 23 = .ok (.invokevirtual 179, 3) := by decide +kernel
theorem dX11_pump_26 : decode cX11_pump 26 = .ok (.ireturn, 1) := by decide +kernel
theorem dX11_pump_27 : decode cX11_pump 27 = .ok (.aload_n 0, 1) := by decide +kernel
theorem dX11_pump_28 : decode cX11_pump 28 = .ok (.iload_n 1, 1) := by decide +kernel
theorem dX11_pump_29 : decode cX11_pump 29 = .ok (.iconst 0, 1) := by decide +kernel
theorem dX11_pump_30 : decode cX11_pump 30 = .ok (.invokevirtual 260, 3) := by decide +kernel
theorem dX11_pump_33 : decode cX11_pump 33 = .ok (.ifCond .ne 10, 3) := by decide +kernel
theorem dX11_pump_36 : decode cX11_pump 36 = .ok (.aload_n 0, 1) := by decide +kernel
theorem dX11_pump_37 : decode cX11_pump 37 = .ok (.bipush 6, 2) := by decide +kernel
theorem dX11_pump_39 : decode cX11_pump 39 = .ok (.invokevirtual 179, 3) := by decide +kernel
theorem dX11_pump_42 : decode cX11_pump 42 = .ok (.ireturn, 1) := by decide +kernel
theorem dX11_pump_43 : decode cX11_pump 43 = .ok (.iload_n 2, 1) := by decide +kernel
theorem dX11_pump_44 : decode cX11_pump 44 = .ok (.iconst 1, 1) := by decide +kernel
theorem dX11_pump_45 : decode cX11_pump 45 = .ok (.if_icmp .ne 17, 3) := by decide +kernel
theorem dX11_pump_48 : decode cX11_pump 48 = .ok (.aload_n 0, 1) := by decide +kernel
theorem dX11_pump_49 : decode cX11_pump 49 = .ok (.iload_n 1, 1) := by decide +kernel
theorem dX11_pump_50 : decode cX11_pump 50 = .ok (.iconst 1, 1) := by decide +kernel
theorem dX11_pump_51 : decode cX11_pump 51 = .ok (.invokevirtual 260, 3) := by decide +kernel
theorem dX11_pump_54 : decode cX11_pump 54 = .ok (.ifCond .ne 8, 3) := by decide +kernel
theorem dX11_pump_57 : decode cX11_pump 57 = .ok (.bipush (-2), 2) := by decide +kernel
theorem dX11_pump_59 : decode cX11_pump 59 = .ok (.goto 9, 3) := by decide +kernel
theorem dX11_pump_62 : decode cX11_pump 62 = .ok (.aload_n 0, 1) := by decide +kernel
theorem dX11_pump_63 : decode cX11_pump 63 = .ok (.iload_n 1, 1) := by decide +kernel
theorem dX11_pump_64 : decode cX11_pump 64 = .ok (.iload_n 2, 1) := by decide +kernel
theorem dX11_pump_65 : decode cX11_pump 65 = .ok (.invokevirtual 260, 3) := by decide +kernel
theorem dX11_pump_68 : decode cX11_pump 68 = .ok (.ireturn, 1) := by decide +kernel
theorem dX11_station_0 : decode cX11_station 0 = .ok (.aload_n 0, 1) := by decide +kernel
theorem dX11_station_1 : decode cX11_station 1 = .ok (.invokevirtual 176, 3) := by decide +kernel
theorem dX11_station_4 : decode cX11_station 4 = .ok (.aload_n 0, 1) := by decide +kernel
theorem dX11_station_5 : decode cX11_station 5 = .ok (.iload_n 1, 1) := by decide +kernel
theorem dX11_station_6 : decode cX11_station 6 = .ok (.invokevirtual 251, 3) := by decide +kernel
theorem dX11_station_9 : decode cX11_station 9 = .ok (.ifCond .eq 11, 3) := by decide +kernel
theorem dX11_station_12 : decode cX11_station 12 = .ok (.aload_n 0, 1) := by decide +kernel
theorem dX11_station_13 : decode cX11_station 13 = .ok (.iload_n 1, 1) := by decide +kernel
theorem dX11_station_14 : decode cX11_station 14 = .ok (.invokevirtual 257, 3) := by decide +kernel
theorem dX11_station_17 : decode cX11_station 17 = .ok (.goto 8, 3) := by decide +kernel
theorem dX11_station_20 : decode cX11_station 20 = .ok (.aload_n 0, 1) := by decide +kernel
theorem dX11_station_21 : decode cX11_station 21 = .ok (.iconst 1, 1) := by decide +kernel
theorem dX11_station_22 : decode cX11_station 22 = .ok (.invokevirtual 179, 3) := by decide +kernel
theorem dX11_station_25 : decode cX11_station 25 = .ok (.ireturn, 1) := by decide +kernel
theorem dX11_legs_0 : decode cX11_legs 0 = .ok (.aload_n 0, 1) := by decide +kernel
theorem dX11_legs_1 : decode cX11_legs 1 = .ok (.invokevirtual 176, 3) := by decide +kernel
theorem dX11_legs_4 : decode cX11_legs 4 = .ok (.aload_n 0, 1) := by decide +kernel
theorem dX11_legs_5 : decode cX11_legs 5 = .ok (.iload_n 1, 1) := by decide +kernel
theorem dX11_legs_6 : decode cX11_legs 6 = .ok (.invokevirtual 251, 3) := by decide +kernel
theorem dX11_legs_9 : decode cX11_legs 9 = .ok (.ifCond .eq 25, 3) := by decide +kernel
theorem dX11_legs_12 : decode cX11_legs 12 = .ok (.aload_n 0, 1) := by decide +kernel
theorem dX11_legs_13 : decode cX11_legs 13 = .ok (.iload_n 2, 1) := by decide +kernel
theorem dX11_legs_14 : decode cX11_legs 14 = .ok (.invokevirtual 251, 3) := by decide +kernel
theorem dX11_legs_17 : decode cX11_legs 17 = .ok (.ifCond .eq 17, 3) := by decide +kernel
theorem dX11_legs_20 : decode cX11_legs 20 = .ok (.iload_n 1, 1) := by decide +kernel
theorem dX11_legs_21 : decode cX11_legs 21 = .ok (.iload_n 2, 1) := by decide +kernel
theorem dX11_legs_22 : decode cX11_legs 22 = .ok (.if_icmp .ge 12, 3) := by decide +kernel
theorem dX11_legs_25 : decode cX11_legs 25 = .ok (.aload_n 0, 1) := by decide +kernel
theorem dX11_legs_26 : decode cX11_legs 26 = .ok (.iload_n 1, 1) := by decide +kernel
theorem dX11_legs_27 : decode cX11_legs 27 = .ok (.iload_n 2, 1) := by decide +kernel
theorem dX11_legs_28 : decode cX11_legs 28 = .ok (.invokevirtual 272, 3) := by decide +kernel
theorem dX11_legs_31 : decode cX11_legs 31 = .ok (.goto 8, 3) := by decide +kernel
theorem dX11_legs_34 : decode cX11_legs 34 = .ok (.aload_n 0, 1) := by decide +kernel
theorem dX11_legs_35 : decode cX11_legs 35 = .ok (.iconst 1, 1) := by decide +kernel
theorem dX11_legs_36 : decode cX11_legs 36 = .ok (.invokevirtual 179, 3) := by decide +kernel
theorem dX11_legs_39 : decode cX11_legs 39 = .ok (.ireturn, 1) := by decide +kernel
theorem dX11_lasts_0 : decode cX11_lasts 0 = .ok (.aload_n 0, 1) := by decide +kernel
theorem dX11_lasts_1 : decode cX11_lasts 1 = .ok (.invokevirtual 176, 3) := by decide +kernel
theorem dX11_lasts_4 : decode cX11_lasts 4 = .ok (.aload_n 0, 1) := by decide +kernel
theorem dX11_lasts_5 : decode cX11_lasts 5 = .ok (.iload_n 1, 1) := by decide +kernel
theorem dX11_lasts_6 : decode cX11_lasts 6 = .ok (.invokevirtual 251, 3) := by decide +kernel
theorem dX11_lasts_9 : decode cX11_lasts 9 = .ok (.ifCond .ne 9, 3) := by decide +kernel
theorem dX11_lasts_12 : decode cX11_lasts 12 = .ok (.aload_n 0, 1) := by decide +kernel
theorem dX11_lasts_13 : decode cX11_lasts 13 = .ok (.iconst 1, 1) := by decide +kernel
theorem dX11_lasts_14 : decode cX11_lasts 14 = .ok (.invokevirtual 179, 3) := by decide +kernel
theorem dX11_lasts_17 : decode cX11_lasts 17 = .ok (.ireturn, 1) := by decide +kernel
theorem dX11_lasts_18 : decode cX11_lasts 18 = .ok (.iload_n 2, 1) := by decide +kernel
theorem dX11_lasts_19 : decode cX11_lasts 19 = .ok (.iconst 0, 1) := by decide +kernel
theorem dX11_lasts_20 : decode cX11_lasts 20 = .ok (.aload_n 0, 1) := by decide +kernel
theorem dX11_lasts_21 : decode cX11_lasts 21 = .ok (.getfield 20, 3) := by decide +kernel
theorem dX11_lasts_24 : decode cX11_lasts 24 = .ok (.iconst 0, 1) := by decide +kernel
theorem dX11_lasts_25 : decode cX11_lasts 25 = .ok (.iaload, 1) := by decide +kernel
theorem dX11_lasts_26 : decode cX11_lasts 26 = .ok (.invokestatic 161, 3) := by decide +kernel
theorem dX11_lasts_29 : decode cX11_lasts 29 = .ok (.ifCond .ne 9, 3) := by decide +kernel
theorem dX11_lasts_32 : decode cX11_lasts 32 = .ok (.aload_n 0, 1) := by decide +kernel
theorem dX11_lasts_33 : decode cX11_lasts 33 = .ok (.iconst 2, 1) := by decide +kernel
theorem dX11_lasts_34 : decode cX11_lasts 34 = .ok (.invokevirtual 179, 3) := by decide +kernel
theorem dX11_lasts_37 : decode cX11_lasts 37 = .ok (.ireturn, 1) := by decide +kernel
theorem dX11_lasts_38 : decode cX11_lasts 38 = .ok (.iload_n 1, 1) := by decide +kernel
theorem dX11_lasts_39 : decode cX11_lasts 39 = .ok (.istore_n 3, 1) := by decide +kernel
theorem dX11_lasts_40 : decode cX11_lasts 40 = .ok (.iload_n 3, 1) := by decide +kernel
theorem dX11_lasts_41 : decode cX11_lasts 41 = .ok (.aload_n 0, 1) := by decide +kernel
theorem dX11_lasts_42 : decode cX11_lasts 42 = .ok (.invokevirtual 254, 3) := by decide +kernel
theorem dX11_lasts_45 : decode cX11_lasts 45 = .ok (.if_icmp .ge 21, 3) := by decide +kernel
theorem dX11_lasts_48 : decode cX11_lasts 48 = .ok (.aload_n 0, 1) := by decide +kernel
theorem dX11_lasts_49 : decode cX11_lasts 49 = .ok (.iload_n 1, 1) := by decide +kernel
theorem dX11_lasts_50 : decode cX11_lasts 50 = .ok (.iload_n 3, 1) := by decide +kernel
theorem dX11_lasts_51 : decode cX11_lasts 51 = .ok (.iconst 1, 1) := by decide +kernel
theorem dX11_lasts_52 : decode cX11_lasts 52 = .ok (.iadd, 1) := by decide +kernel
theorem dX11_lasts_53 : decode cX11_lasts 53 = .ok (.invokevirtual 272, 3) := by decide +kernel
theorem dX11_lasts_56 : decode cX11_lasts 56 = .ok (.iload_n 2, 1) := by decide +kernel
theorem dX11_lasts_57 : decode cX11_lasts 57 = .ok (.if_icmp .gt 9, 3) := by decide +kernel
theorem dX11_lasts_60 : decode cX11_lasts 60 = .ok (.iinc 3 1, 3) := by decide +kernel
theorem dX11_lasts_63 : decode cX11_lasts 63 = .ok (.goto (-23), 3) := by decide +kernel
theorem dX11_lasts_66 : decode cX11_lasts 66 = .ok (.iload_n 3, 1) := by decide +kernel
theorem dX11_lasts_67 : decode cX11_lasts 67 = .ok (.ireturn, 1) := by decide +kernel
theorem dX11_plan_0 : decode cX11_plan 0 = .ok (.aload_n 0, 1) := by decide +kernel
theorem dX11_plan_1 : decode cX11_plan 1 = .ok (.invokevirtual 176, 3) := by decide +kernel
theorem dX11_plan_4 : decode cX11_plan 4 = .ok (.aload_n 0, 1) := by decide +kernel
theorem dX11_plan_5 : decode cX11_plan 5 = .ok (.iload_n 1, 1) := by decide +kernel
theorem dX11_plan_6 : decode cX11_plan 6 = .ok (.invokevirtual 275, 3) := by decide +kernel
theorem dX11_plan_9 : decode cX11_plan 9 = .ok (.ifCond .ne 9, 3) := by decide +kernel
theorem dX11_plan_12 : decode cX11_plan 12 = .ok (.aload_n 0, 1) := by decide +kernel
theorem dX11_plan_13 : decode cX11_plan 13 = .ok (.iconst 1, 1) := by decide +kernel
theorem dX11_plan_14 : decode cX11_plan 14 = .ok (.invokevirtual 278, 3) := by decide +kernel
theorem dX11_plan_17 : decode cX11_plan 17 = .ok (.ireturn, 1) := by decide +kernel
theorem dX11_plan_18 : decode cX11_plan 18 = .ok (.iload_n 2, 1) := by decide +kernel
theorem dX11_plan_19 : decode cX11_plan 19 = .ok (.iconst 0, 1) := by decide +kernel
theorem dX11_plan_20 : decode cX11_plan 20 = .ok (.aload_n 0, 1) := by decide +kernel
theorem dX11_plan_21 : decode cX11_plan 21 = .ok (.getfield 20, 3) := by decide +kernel
theorem dX11_plan_24 : decode cX11_plan 24 = .ok (.iconst 0, 1) := by decide +kernel
theorem dX11_plan_25 : decode cX11_plan 25 = .ok (.iaload, 1) := by decide +kernel
theorem dX11_plan_26 : decode cX11_plan 26 = .ok (.invokestatic 161, 3) := by decide +kernel
theorem dX11_plan_29 : decode cX11_plan 29 = .ok (.ifCond .ne 9, 3) := by decide +kernel
theorem dX11_plan_32 : decode cX11_plan 32 = .ok (.aload_n 0, 1) := by decide +kernel
theorem dX11_plan_33 : decode cX11_plan 33 = .ok (.iconst 2, 1) := by decide +kernel
theorem dX11_plan_34 : decode cX11_plan 34 = .ok (.invokevirtual 278, 3) := by decide +kernel
theorem dX11_plan_37 : decode cX11_plan 37 = .ok (.ireturn, 1) := by decide +kernel
theorem dX11_plan_38 : decode cX11_plan 38 = .ok (.aload_n 0, 1) := by decide +kernel
theorem dX11_plan_39 : decode cX11_plan 39 = .ok (.getfield 26, 3) := by decide +kernel
theorem dX11_plan_42 : decode cX11_plan 42 = .ok (.iload_n 1, 1) := by decide +kernel
theorem dX11_plan_43 : decode cX11_plan 43 = .ok (.iload_n 2, 1) := by decide +kernel
theorem dX11_plan_44 : decode cX11_plan 44 = .ok (.iastore, 1) := by decide +kernel
theorem dX11_plan_45 : decode cX11_plan 45 = .ok (.iconst 1, 1) := by decide +kernel
theorem dX11_plan_46 : decode cX11_plan 46 = .ok (.ireturn, 1) := by decide +kernel
theorem dX11_judged_0 : decode cX11_judged 0 = .ok (.aload_n 0, 1) := by decide +kernel
theorem dX11_judged_1 : decode cX11_judged 1 = .ok (.getfield 20, 3) := by decide +kernel
theorem dX11_judged_4 : decode cX11_judged 4 = .ok (.iconst 1, 1) := by decide +kernel
theorem dX11_judged_5 : decode cX11_judged 5 = .ok (.iaload, 1) := by decide +kernel
theorem dX11_judged_6 : decode cX11_judged 6 = .ok (.istore_n 1, 1) := by decide +kernel
theorem dX11_judged_7 : decode cX11_judged 7 = .ok (.iconst 0, 1) := by decide +kernel
theorem dX11_judged_8 : decode cX11_judged 8 = .ok (.istore_n 2, 1) := by decide +kernel
theorem dX11_judged_9 : decode cX11_judged 9 = .ok (.iload_n 2, 1) := by decide +kernel
theorem dX11_judged_10 : decode cX11_judged 10 = .ok (.aload_n 0, 1) := by decide +kernel
theorem dX11_judged_11 : decode cX11_judged 11 = .ok (.invokevirtual 254, 3) := by decide +kernel
theorem dX11_judged_14 : decode cX11_judged 14 = .ok (.if_icmp .ge 66, 3) := by decide +kernel
theorem dX11_judged_17 : decode cX11_judged 17 = .ok (.aload_n 0, 1) := by decide +kernel
theorem dX11_judged_18 : decode cX11_judged 18 = .ok (.getfield 26, 3) := by decide +kernel
theorem dX11_judged_21 : decode cX11_judged 21 = .ok (.iload_n 2, 1) := by decide +kernel
theorem dX11_judged_22 : decode cX11_judged 22 = .ok (.iaload, 1) := by decide +kernel
theorem dX11_judged_23 : decode cX11_judged 23 = .ok (.ifCond .le 11, 3) := by decide +kernel
theorem dX11_judged_26 : decode cX11_judged 26 = .ok (.aload_n 0, 1) := by decide +kernel
theorem dX11_judged_27 : decode cX11_judged 27 = .ok (.iload_n 2, 1) := by decide +kernel
theorem dX11_judged_28 : decode cX11_judged 28 = .ok (.invokevirtual 281, 3) := by decide +kernel
theorem dX11_judged_31 : decode cX11_judged 31 = .ok (.ifCond .eq 20, 3) := by decide +kernel
theorem dX11_judged_34 : decode cX11_judged 34 = .ok (.iload_n 1, 1) := by decide +kernel
theorem dX11_judged_35 : decode cX11_judged 35 = .ok (.aload_n 0, 1) := by decide +kernel
theorem dX11_judged_36 : decode cX11_judged 36 = .ok (.getfield 26, 3) := by decide +kernel
theorem dX11_judged_39 : decode cX11_judged 39 = .ok (.iload_n 2, 1) := by decide +kernel
theorem dX11_judged_40 : decode cX11_judged 40 = .ok (.iaload, 1) := by decide +kernel
theorem dX11_judged_41 : decode cX11_judged 41 = .ok (.iadd, 1) := by decide +kernel
theorem dX11_judged_42 : decode cX11_judged 42 = .ok (.aload_n 0, 1) := by decide +kernel
theorem dX11_judged_43 : decode cX11_judged 43 = .ok (.getfield 20, 3) := by decide +kernel
theorem dX11_judged_46 : decode cX11_judged 46 = .ok (.iconst 0, 1) := by decide +kernel
theorem dX11_judged_47 : decode cX11_judged 47 = .ok (.iaload, 1) := by decide +kernel
theorem dX11_judged_48 : decode cX11_judged 48 = .ok (.if_icmp .le 5, 3) := by decide +kernel
theorem dX11_judged_51 : decode cX11_judged 51 = .ok (.iload_n 2, 1) := by decide +kernel
theorem dX11_judged_52 : decode cX11_judged 52 = .ok (.ireturn, 1) := by decide +kernel
theorem dX11_judged_53 : decode cX11_judged 53 = .ok (.iload_n 1, 1) := by decide +kernel
theorem dX11_judged_54 : decode cX11_judged 54 = .ok (.aload_n 0, 1) := by decide +kernel
theorem dX11_judged_55 : decode cX11_judged 55 = .ok (.getfield 26, 3) := by decide +kernel
theorem dX11_judged_58 : decode cX11_judged 58 = .ok (.iload_n 2, 1) := by decide +kernel
theorem dX11_judged_59 : decode cX11_judged 59 = .ok (.iaload, 1) := by decide +kernel
theorem dX11_judged_60 : decode cX11_judged 60 = .ok (.aload_n 0, 1) := by decide +kernel
theorem dX11_judged_61 : decode cX11_judged 61 = .ok (.iload_n 2, 1) := by decide +kernel
theorem dX11_judged_62 : decode cX11_judged 62 = .ok (.invokevirtual 266, 3) := by decide +kernel
theorem dX11_judged_65 : decode cX11_judged 65 = .ok (.isub, 1) := by decide +kernel
theorem dX11_judged_66 : decode cX11_judged 66 = .ok (.iadd, 1) := by decide +kernel
theorem dX11_judged_67 : decode cX11_judged 67 = .ok (.istore_n 1, 1) := by decide +kernel
theorem dX11_judged_68 : decode cX11_judged 68 = .ok (.iload_n 1, 1) := by decide +kernel
theorem dX11_judged_69 : decode cX11_judged 69 = .ok (.ifCond .ge 5, 3) := by decide +kernel
theorem dX11_judged_72 : decode cX11_judged 72 = .ok (.iload_n 2, 1) := by decide +kernel
theorem dX11_judged_73 : decode cX11_judged 73 = .ok (.ireturn, 1) := by decide +kernel
theorem dX11_judged_74 : decode cX11_judged 74 = .ok (.iinc 2 1, 3) := by decide +kernel
theorem dX11_judged_77 : decode cX11_judged 77 = .ok (.goto (-68), 3) := by decide +kernel
theorem dX11_judged_80 : decode cX11_judged 80 = .ok (.bipush (-2), 2) := by decide +kernel
theorem dX11_judged_82 : decode cX11_judged 82 = .ok (.ireturn, 1) := by decide +kernel
theorem dX11_judge_0 : decode cX11_judge 0 = .ok (.aload_n 0, 1) := by decide +kernel
theorem dX11_judge_1 : decode cX11_judge 1 = .ok (.invokevirtual 176, 3) := by decide +kernel
theorem dX11_judge_4 : decode cX11_judge 4 = .ok (.aload_n 0, 1) := by decide +kernel
theorem dX11_judge_5 : decode cX11_judge 5 = .ok (.getfield 189, 3) := by decide +kernel
theorem dX11_judge_8 : decode cX11_judge 8 = .ok (.ifCond .eq 10, 3) := by decide +kernel
theorem dX11_judge_11 : decode cX11_judge 11 = .ok (.aload_n 0, 1) := by decide +kernel
theorem dX11_judge_12 : decode cX11_judge 12 = .ok (.invokevirtual 284, 3) := by decide +kernel
theorem dX11_judge_15 : decode cX11_judge 15 = .ok (.goto 8, 3) := by decide +kernel
theorem dX11_judge_18 : decode cX11_judge 18 = .ok (.aload_n 0, 1) := by decide +kernel
theorem dX11_judge_19 : decode cX11_judge 19 = .ok (.iconst 1, 1) := by decide +kernel
theorem dX11_judge_20 : decode cX11_judge 20 = .ok (.invokevirtual 179, 3) := by decide +kernel
theorem dX11_judge_23 : decode cX11_judge 23 = .ok (.ireturn, 1) := by decide +kernel
theorem dX11_cost_0 : decode cX11_cost 0 = .ok (.aload_n 0, 1) := by decide +kernel
theorem dX11_cost_1 : decode cX11_cost 1 = .ok (.invokevirtual 176, 3) := by decide +kernel
theorem dX11_cost_4 : decode cX11_cost 4 = .ok (.aload_n 0, 1) := by decide +kernel
theorem dX11_cost_5 : decode cX11_cost 5 = .ok (.getfield 189, 3) := by decide +kernel
theorem dX11_cost_8 : decode cX11_cost 8 = .ok (.ifCond .ne 9, 3) := by decide +kernel
theorem dX11_cost_11 : decode cX11_cost 11 = .ok (.aload_n 0, 1) := by decide +kernel
theorem dX11_cost_12 : decode cX11_cost 12 = .ok (.iconst 1, 1) := by decide +kernel
theorem dX11_cost_13 : decode cX11_cost 13 = .ok (.invokevirtual 179, 3) := by decide +kernel
theorem dX11_cost_16 : decode cX11_cost 16 = .ok (.ireturn, 1) := by decide +kernel
theorem dX11_cost_17 : decode cX11_cost 17 = .ok (.aload_n 0, 1) := by decide +kernel
theorem dX11_cost_18 : decode cX11_cost 18 = .ok (.invokevirtual 284, 3) := by decide +kernel
theorem dX11_cost_21 : decode cX11_cost 21 = .ok (.bipush (-2), 2) := by decide +kernel
theorem dX11_cost_23 : decode cX11_cost 23 = .ok (.if_icmp .eq 9, 3) := by decide +kernel
theorem dX11_cost_26 : decode cX11_cost 26 = .ok (.aload_n 0, 1) := by decide +kernel
theorem dX11_cost_27 : decode cX11_cost 27 = .ok (.iconst 5, 1) := by decide +kernel
theorem dX11_cost_28 : decode cX11_cost 28 = .ok (.invokevirtual 179, 3) := by decide +kernel
theorem dX11_cost_31 : decode cX11_cost 31 = .ok (.ireturn, 1) := by decide +kernel
theorem dX11_cost_32 : decode cX11_cost 32 = .ok (.iconst 0, 1) := by decide +kernel
theorem dX11_cost_33 : decode cX11_cost 33 = .ok (.istore_n 1, 1) := by decide +kernel
theorem dX11_cost_34 : decode cX11_cost 34 = .ok (.iconst 0, 1) := by decide +kernel
theorem dX11_cost_35 : decode cX11_cost 35 = .ok (.istore_n 2, 1) := by decide +kernel
theorem dX11_cost_36 : decode cX11_cost 36 = .ok (.iload_n 2, 1) := by decide +kernel
theorem dX11_cost_37 : decode cX11_cost 37 = .ok (.aload_n 0, 1) := by decide +kernel
theorem dX11_cost_38 : decode cX11_cost 38 = .ok (.invokevirtual 254, 3) := by decide +kernel
theorem dX11_cost_41 : decode cX11_cost 41 = .ok (.if_icmp .ge 44, 3) := by decide +kernel
theorem dX11_cost_44 : decode cX11_cost 44 = .ok (.iload_n 1, 1) := by decide +kernel
theorem dX11_cost_45 : decode cX11_cost 45 = .ok (.aload_n 0, 1) := by decide +kernel
theorem dX11_cost_46 : decode cX11_cost 46 = .ok (.getfield 26, 3) := by decide +kernel
theorem dX11_cost_49 : decode cX11_cost 49 = .ok (.iload_n 2, 1) := by decide +kernel
theorem dX11_cost_50 : decode cX11_cost 50 = .ok (.iaload, 1) := by decide +kernel
theorem dX11_cost_51 : decode cX11_cost 51 = .ok (.ifCond .ne 7, 3) := by decide +kernel
theorem dX11_cost_54 : decode cX11_cost 54 = .ok (.iconst 0, 1) := by decide +kernel
theorem dX11_cost_55 : decode cX11_cost 55 = .ok (.goto 22, 3) := by decide +kernel
theorem dX11_cost_58 : decode cX11_cost 58 = .ok (.aload_n 0, 1) := by decide +kernel
theorem dX11_cost_59 : decode cX11_cost 59 = .ok (.getfield 26, 3) := by decide +kernel
theorem dX11_cost_62 : decode cX11_cost 62 = .ok (.iload_n 2, 1) := by decide +kernel
theorem dX11_cost_63 : decode cX11_cost 63 = .ok (.iaload, 1) := by decide +kernel
theorem dX11_cost_64 : decode cX11_cost 64 = .ok (.aload_n 0, 1) := by decide +kernel
theorem dX11_cost_65 : decode cX11_cost 65 = .ok (.iload_n 2, 1) := by decide +kernel
theorem dX11_cost_66 : decode cX11_cost 66 = .ok (.invokevirtual 281, 3) := by decide +kernel
theorem dX11_cost_69 : decode cX11_cost 69 = .ok (.imul, 1) := by decide +kernel
theorem dX11_cost_70 : decode cX11_cost 70 = .ok (.aload_n 0, 1) := by decide +kernel
theorem dX11_cost_71 : decode cX11_cost 71 = .ok (.getfield 20, 3) := by decide +kernel
theorem dX11_cost_74 : decode cX11_cost 74 = .ok (.iconst 2, 1) := by decide +kernel
theorem dX11_cost_75 : decode cX11_cost 75 = .ok (.iaload, 1) := by decide +kernel
theorem dX11_cost_76 : decode cX11_cost 76 = .ok (.iadd, 1) := by decide +kernel
theorem dX11_cost_77 : decode cX11_cost 77 = .ok (.iadd, 1) := by decide +kernel
theorem dX11_cost_78 : decode cX11_cost 78 = .ok (.istore_n 1, 1) := by decide +kernel
theorem dX11_cost_79 : decode cX11_cost 79 = .ok (.iinc 2 1, 3) := by decide +kernel
theorem dX11_cost_82 : decode cX11_cost 82 = .ok (.goto (-46), 3) := by decide +kernel
theorem dX11_cost_85 : decode cX11_cost 85 = .ok (.iload_n 1, 1) := by decide +kernel
theorem dX11_cost_86 : decode cX11_cost 86 = .ok (.ireturn, 1) := by decide +kernel
theorem dX11_time_0 : decode cX11_time 0 = .ok (.aload_n 0, 1) := by decide +kernel
theorem dX11_time_1 : decode cX11_time 1 = .ok (.invokevirtual 176, 3) := by decide +kernel
theorem dX11_time_4 : decode cX11_time 4 = .ok (.aload_n 0, 1) := by decide +kernel
theorem dX11_time_5 : decode cX11_time 5 = .ok (.getfield 189, 3) := by decide +kernel
theorem dX11_time_8 : decode cX11_time 8 = .ok (.ifCond .ne 9, 3) := by decide +kernel
theorem dX11_time_11 : decode cX11_time 11 = .ok (.aload_n 0, 1) := by decide +kernel
theorem dX11_time_12 : decode cX11_time 12 = .ok (.iconst 1, 1) := by decide +kernel
theorem dX11_time_13 : decode cX11_time 13 = .ok (.invokevirtual 179, 3) := by decide +kernel
theorem dX11_time_16 : decode cX11_time 16 = .ok (.ireturn, 1) := by decide +kernel
theorem dX11_time_17 : decode cX11_time 17 = .ok (.aload_n 0, 1) := by decide +kernel
theorem dX11_time_18 : decode cX11_time 18 = .ok (.invokevirtual 284, 3) := by decide +kernel
theorem dX11_time_21 : decode cX11_time 21 = .ok (.bipush (-2), 2) := by decide +kernel
theorem dX11_time_23 : decode cX11_time 23 = .ok (.if_icmp .eq 9, 3) := by decide +kernel
theorem dX11_time_26 : decode cX11_time 26 = .ok (.aload_n 0, 1) := by decide +kernel
theorem dX11_time_27 : decode cX11_time 27 = .ok (.iconst 5, 1) := by decide +kernel
theorem dX11_time_28 : decode cX11_time 28 = .ok (.invokevirtual 179, 3) := by decide +kernel
theorem dX11_time_31 : decode cX11_time 31 = .ok (.ireturn, 1) := by decide +kernel
theorem dX11_time_32 : decode cX11_time 32 = .ok (.iconst 0, 1) := by decide +kernel
theorem dX11_time_33 : decode cX11_time 33 = .ok (.istore_n 1, 1) := by decide +kernel
theorem dX11_time_34 : decode cX11_time 34 = .ok (.iconst 0, 1) := by decide +kernel
theorem dX11_time_35 : decode cX11_time 35 = .ok (.istore_n 2, 1) := by decide +kernel
theorem dX11_time_36 : decode cX11_time 36 = .ok (.iload_n 2, 1) := by decide +kernel
theorem dX11_time_37 : decode cX11_time 37 = .ok (.aload_n 0, 1) := by decide +kernel
theorem dX11_time_38 : decode cX11_time 38 = .ok (.invokevirtual 254, 3) := by decide +kernel
theorem dX11_time_41 : decode cX11_time 41 = .ok (.if_icmp .ge 56, 3) := by decide +kernel
theorem dX11_time_44 : decode cX11_time 44 = .ok (.iload_n 1, 1) := by decide +kernel
theorem dX11_time_45 : decode cX11_time 45 = .ok (.aload_n 0, 1) := by decide +kernel
theorem dX11_time_46 : decode cX11_time 46 = .ok (.getfield 20, 3) := by decide +kernel
theorem dX11_time_49 : decode cX11_time 49 = .ok (.bipush 119, 2) := by decide +kernel
theorem dX11_time_51 : decode cX11_time 51 = .ok (.bipush 9, 2) := by decide +kernel
theorem dX11_time_53 : decode cX11_time 53 = .ok (.aload_n 0, 1) := by decide +kernel
theorem dX11_time_54 : decode cX11_time 54 = .ok (.iload_n 2, 1) := by decide +kernel
theorem dX11_time_55 : decode cX11_time 55 = .ok (.invokevirtual 257, 3) := by decide +kernel
theorem dX11_time_58 : decode cX11_time 58 = .ok (.imul, 1) := by decide +kernel
theorem dX11_time_59 : decode cX11_time 59 = .ok (.iadd, 1) := by decide +kernel
theorem dX11_time_60 : decode cX11_time 60 = .ok (.aload_n 0, 1) := by decide +kernel
theorem dX11_time_61 : decode cX11_time 61 = .ok (.iload_n 2, 1) := by decide +kernel
theorem dX11_time_62 : decode cX11_time 62 = .ok (.iconst 1, 1) := by decide +kernel
theorem dX11_time_63 : decode cX11_time 63 = .ok (.iadd, 1) := by decide +kernel
theorem dX11_time_64 : decode cX11_time 64 = .ok (.invokevirtual 257, 3) := by decide +kernel
theorem dX11_time_67 : decode cX11_time 67 = .ok (.iadd, 1) := by decide +kernel
theorem dX11_time_68 : decode cX11_time 68 = .ok (.iaload, 1) := by decide +kernel
theorem dX11_time_69 : decode cX11_time 69 = .ok (.aload_n 0, 1) := by decide +kernel
theorem dX11_time_70 : decode cX11_time 70 = .ok (.getfield 26, 3) := by decide +kernel
theorem dX11_time_73 : decode cX11_time 73 = .ok (.iload_n 2, 1) := by decide +kernel
theorem dX11_time_74 : decode cX11_time 74 = .ok (.iaload, 1) := by decide +kernel
theorem dX11_time_75 : decode cX11_time 75 = .ok (.ifCond .le 12, 3) := by decide +kernel
theorem dX11_time_78 : decode cX11_time 78 = .ok (.aload_n 0, 1) := by decide +kernel
theorem dX11_time_79 : decode cX11_time 79 = .ok (.getfield 20, 3) := by decide +kernel
theorem dX11_time_82 : decode cX11_time 82 = .ok (.iconst 3, 1) := by decide +kernel
theorem dX11_time_83 : decode cX11_time 83 = .ok (.iaload, 1) := by decide +kernel
theorem dX11_time_84 : decode cX11_time 84 = .ok (.goto 4, 3) := by decide +kernel
theorem dX11_time_87 : decode cX11_time 87 = .ok (.iconst 0, 1) := by decide +kernel
theorem dX11_time_88 : decode cX11_time 88 = .ok (.iadd, 1) := by decide +kernel
theorem dX11_time_89 : decode cX11_time 89 = .ok (.iadd, 1) := by decide +kernel
theorem dX11_time_90 : decode cX11_time 90 = .ok (.istore_n 1, 1) := by decide +kernel
theorem dX11_time_91 : decode cX11_time 91 = .ok (.iinc 2 1, 3) := by decide +kernel
theorem dX11_time_94 : decode cX11_time 94 = .ok (.goto (-58), 3) := by decide +kernel
theorem dX11_time_97 : decode cX11_time 97 = .ok (.iload_n 1, 1) := by decide +kernel
theorem dX11_time_98 : decode cX11_time 98 = .ok (.ireturn, 1) := by decide +kernel
theorem dX11_layPlans_0 : decode cX11_layPlans 0 = .ok (.iconst 0, 1) := by decide +kernel
theorem dX11_layPlans_1 : decode cX11_layPlans 1 = .ok (.istore_n 3, 1) := by decide +kernel
theorem dX11_layPlans_2 : decode cX11_layPlans 2 = .ok (.iload_n 3, 1) := by decide +kernel
theorem dX11_layPlans_3 : decode cX11_layPlans 3 = .ok (.aload_n 0, 1) := by decide +kernel
theorem dX11_layPlans_4 : decode cX11_layPlans 4 = .ok (.getfield 20, 3) := by decide +kernel
theorem dX11_layPlans_7 : decode cX11_layPlans 7 = .ok (.iconst 0, 1) := by decide +kernel
theorem dX11_layPlans_8 : decode cX11_layPlans 8 = .ok (.iaload, 1) := by decide +kernel
theorem dX11_layPlans_9 : decode cX11_layPlans 9 = .ok (.if_icmp .gt 24, 3) := by decide +kernel
theorem dX11_layPlans_12 : decode cX11_layPlans 12 = .ok (.aload_n 0, 1) := by decide +kernel
theorem dX11_layPlans_13 : decode cX11_layPlans 13 = .ok (.getfield 38, 3) := by decide +kernel
theorem dX11_layPlans_16 : decode cX11_layPlans 16 = .ok (.bipush 41, 2) := by decide +kernel
theorem dX11_layPlans_18 : decode cX11_layPlans 18 = .ok (.aload_n 0, 1) := by decide +kernel
theorem dX11_layPlans_19 : decode cX11_layPlans 19 = .ok (.invokevirtual 254, 3) := by decide +kernel
theorem dX11_layPlans_22 : decode cX11_layPlans 22 = .ok (.imul, 1) := by decide +kernel
theorem dX11_layPlans_23 : decode cX11_layPlans 23 = .ok (.iload_n 3, 1) := by decide +kernel
theorem dX11_layPlans_24 : decode cX11_layPlans 24 = .ok (.iadd, 1) := by decide +kernel
theorem dX11_layPlans_25 : decode cX11_layPlans 25 = .ok (.iconst 0, 1) := by decide +kernel
theorem dX11_layPlans_26 : decode cX11_layPlans 26 = .ok (.iastore, 1) := by decide +kernel
theorem dX11_layPlans_27 : decode cX11_layPlans 27 = .ok (.iinc 3 1, 3) := by decide +kernel
theorem dX11_layPlans_30 : decode cX11_layPlans 30 = .ok (.goto (-28), 3) := by decide +kernel
theorem dX11_layPlans_33 : decode cX11_layPlans 33 = .ok (.aload_n 0, 1) := by decide +kernel
theorem dX11_layPlans_34 : decode cX11_layPlans 34 = .ok (.invokevirtual 254, 3) := by decide +kernel
theorem dX11_layPlans_37 : decode cX11_layPlans 37 = .ok (.iconst 1, 1) := by decide +kernel
theorem dX11_layPlans_38 : decode cX11_layPlans 38 = .ok (.isub, 1) := by decide +kernel
theorem dX11_layPlans_39 : decode cX11_layPlans 39 = .ok (.istore_n 3, 1) := by decide +kernel
theorem dX11_layPlans_40 : decode cX11_layPlans 40 = .ok (.iload_n 3, 1) := by decide +kernel
theorem dX11_layPlans_41 : decode cX11_layPlans 41 = .ok (.ifCond .lt 234, 3) := by decide +kernel
theorem dX11_layPlans_44 : decode cX11_layPlans 44 = .ok (.aload_n 0, 1) := by decide +kernel
theorem dX11_layPlans_45 : decode cX11_layPlans 45 = .ok (.iload_n 3, 1) := by decide +kernel
theorem dX11_layPlans_46 : decode cX11_layPlans 46 = .ok (.invokevirtual 281, 3) := by decide +kernel
theorem dX11_layPlans_49 : decode cX11_layPlans 49 = .ok (.ifCond .le 12, 3) := by decide +kernel
theorem dX11_layPlans_52 : decode cX11_layPlans 52 = .ok (.iload_n 3, 1) := by decide +kernel
theorem dX11_layPlans_53 : decode cX11_layPlans 53 = .ok (.iload_n 2, 1) := by decide +kernel
theorem dX11_layPlans_54 : decode cX11_layPlans 54 = .ok (.if_icmp .eq 7, 3) := by decide +kernel
theorem dX11_layPlans_57 : decode cX11_layPlans 57 = .ok (.iconst 1, 1) := by decide +kernel
theorem dX11_layPlans_58 : decode cX11_layPlans 58 = .ok (.goto 4, 3) := by decide +kernel
theorem dX11_layPlans_61 : decode cX11_layPlans 61 = .ok (.iconst 0, 1) := by decide +kernel
theorem dX11_layPlans_62 : decode cX11_layPlans 62 = .ok (.istore 4, 2) := by decide +kernel
theorem dX11_layPlans_64 : decode cX11_layPlans 64 = .ok (.iconst 0, 1) := by decide +kernel
theorem dX11_layPlans_65 : decode cX11_layPlans 65 = .ok (.istore 5, 2) := by decide +kernel
theorem dX11_layPlans_67 : decode cX11_layPlans 67 = .ok (.iload 5, 2) := by decide +kernel
theorem dX11_layPlans_69 : decode cX11_layPlans 69 = .ok (.aload_n 0, 1) := by decide +kernel
theorem dX11_layPlans_70 : decode cX11_layPlans 70 = .ok (.getfield 20, 3) := by decide +kernel
theorem dX11_layPlans_73 : decode cX11_layPlans 73 = .ok (.iconst 0, 1) := by decide +kernel
theorem dX11_layPlans_74 : decode cX11_layPlans 74 = .ok (.iaload, 1) := by decide +kernel
theorem dX11_layPlans_75 : decode cX11_layPlans 75 = .ok (.if_icmp .gt 194, 3) := by decide +kernel
theorem dX11_layPlans_78 : decode cX11_layPlans 78 = .ok (.bipush 41, 2) := by decide +kernel
theorem dX11_layPlans_80 : decode cX11_layPlans 80 = .ok (.iload_n 3, 1) := by decide +kernel
theorem dX11_layPlans_81 : decode cX11_layPlans 81 = .ok (.imul, 1) := by decide +kernel
theorem dX11_layPlans_82 : decode cX11_layPlans 82 = .ok (.iload 5, 2) := by decide +kernel
theorem dX11_layPlans_84 : decode cX11_layPlans 84 = .ok (.iadd, 1) := by decide +kernel
theorem dX11_layPlans_85 : decode cX11_layPlans 85 = .ok (.istore 6, 2) := by decide +kernel
theorem dX11_layPlans_87 : decode cX11_layPlans 87 = .ok (.aload_n 0, 1) := by decide +kernel
theorem dX11_layPlans_88 : decode cX11_layPlans 88 = .ok (.getfield 38, 3) := by decide +kernel
theorem dX11_layPlans_91 : decode cX11_layPlans 91 = .ok (.iload 6, 2) := by decide +kernel
theorem dX11_layPlans_93 : decode cX11_layPlans 93 = .ok (.ldc_w 287, 3) := by decide +kernel
theorem dX11_layPlans_96 : decode cX11_layPlans 96 = .ok (.iastore, 1) := by decide +kernel
theorem dX11_layPlans_97 : decode cX11_layPlans 97 = .ok (.aload_n 0, 1) := by decide +kernel
theorem dX11_layPlans_98 : decode cX11_layPlans 98 = .ok (.getfield 41, 3) := by decide +kernel
theorem dX11_layPlans_101 : decode cX11_layPlans 101 = .ok (.iload 6, 2) := by decide +kernel
theorem dX11_layPlans_103 : decode cX11_layPlans 103 = .ok (.iconst 0, 1) := by decide +kernel
theorem dX11_layPlans_104 : decode cX11_layPlans 104 = .ok (.iastore, 1) := by decide +kernel
theorem dX11_layPlans_105 : decode cX11_layPlans 105 = .ok (.iconst 0, 1) := by decide +kernel
theorem dX11_layPlans_106 : decode cX11_layPlans 106 = .ok (.istore 7, 2) := by decide +kernel
theorem dX11_layPlans_108 : decode cX11_layPlans 108 = .ok (.iload 5, 2) := by decide +kernel
theorem dX11_layPlans_110 : decode cX11_layPlans 110 = .ok (.iload 7, 2) := by decide +kernel
theorem dX11_layPlans_112 : decode cX11_layPlans 112 = .ok (.iadd, 1) := by decide +kernel
theorem dX11_layPlans_113 : decode cX11_layPlans 113 = .ok (.aload_n 0, 1) := by decide +kernel
theorem dX11_layPlans_114 : decode cX11_layPlans 114 = .ok (.getfield 20, 3) := by decide +kernel
theorem dX11_layPlans_117 : decode cX11_layPlans 117 = .ok (.iconst 0, 1) := by decide +kernel
theorem dX11_layPlans_118 : decode cX11_layPlans 118 = .ok (.iaload, 1) := by decide +kernel
theorem dX11_layPlans_119 : decode cX11_layPlans 119 = .ok (.if_icmp .gt 144, 3) := by decide +kernel
theorem dX11_layPlans_122 : decode cX11_layPlans 122 = .ok (.iload 7, 2) := by decide +kernel
theorem dX11_layPlans_124 : decode cX11_layPlans 124 = .ok (.ifCond .eq 8, 3) := by decide +kernel
theorem dX11_layPlans_127 : decode cX11_layPlans 127 = .ok (.iload 4, 2) := by decide +kernel
theorem dX11_layPlans_129 : decode cX11_layPlans 129 = .ok (.ifCond .eq 134, 3) := by decide +kernel
theorem dX11_layPlans_132 : decode cX11_layPlans 132 = .ok (.iload 5, 2) := by decide +kernel
theorem dX11_layPlans_134 : decode cX11_layPlans 134 = .ok (.iload 7, 2) := by decide +kernel
theorem dX11_layPlans_136 : decode cX11_layPlans 136 = .ok (.iadd, 1) := by decide +kernel
theorem dX11_layPlans_137 : decode cX11_layPlans 137 = .ok (.aload_n 0, 1) := by decide +kernel
theorem dX11_layPlans_138 : decode cX11_layPlans 138 = .ok (.iload_n 3, 1) := by decide +kernel
theorem dX11_layPlans_139 : decode cX11_layPlans 139 = .ok (.invokevirtual 266, 3) := by decide +kernel
theorem dX11_layPlans_142 : decode cX11_layPlans 142 = .ok (.isub, 1) := by decide +kernel
theorem dX11_layPlans_143 : decode cX11_layPlans 143 = .ok (.istore 8, 2) := by decide +kernel
theorem dX11_layPlans_145 : decode cX11_layPlans 145 = .ok (.iload 8, 2) := by decide +kernel
theorem dX11_layPlans_147 : decode cX11_layPlans 147 = .ok (.ifCond .lt 110, 3) := by decide +kernel
theorem dX11_layPlans_150 : decode cX11_layPlans 150 = .ok (.aload_n 0, 1) := by decide +kernel
theorem dX11_layPlans_151 : decode cX11_layPlans 151 = .ok (.getfield 38, 3) := by decide +kernel
theorem dX11_layPlans_154 : decode cX11_layPlans 154 = .ok (.iload 6, 2) := by decide +kernel
theorem dX11_layPlans_156 : decode cX11_layPlans 156 = .ok (.bipush 41, 2) := by decide +kernel
theorem dX11_layPlans_158 : decode cX11_layPlans 158 = .ok (.iadd, 1) := by decide +kernel
theorem dX11_layPlans_159 : decode cX11_layPlans 159 = .ok (.iload 8, 2) := by decide +kernel
theorem dX11_layPlans_161 : decode cX11_layPlans 161 = .ok (.iadd, 1) := by decide +kernel
theorem dX11_layPlans_162 : decode cX11_layPlans 162 = .ok (.iload 5, 2) := by decide +kernel
theorem dX11_layPlans_164 : decode cX11_layPlans 164 = .ok (.isub, 1) := by decide +kernel
theorem dX11_layPlans_165 : decode cX11_layPlans 165 = .ok (.iaload, 1) := by decide +kernel
theorem dX11_layPlans_166 : decode cX11_layPlans 166 = .ok (.ldc_w 287, 3) := by decide +kernel
theorem dX11_layPlans_169 : decode cX11_layPlans 169 = .ok (.if_icmp .ne 6, 3) := by decide +kernel
theorem dX11_layPlans_172 : decode cX11_layPlans 172 = .ok (.goto 85, 3) := by decide +kernel
theorem dX11_layPlans_175 : decode cX11_layPlans 175 = .ok (.aload_n 0, 1) := by decide +kernel
theorem dX11_layPlans_176 : decode cX11_layPlans 176 = .ok (.getfield 38, 3) := by decide +kernel
theorem dX11_layPlans_179 : decode cX11_layPlans 179 = .ok (.bipush 41, 2) := by decide +kernel
theorem dX11_layPlans_181 : decode cX11_layPlans 181 = .ok (.iload_n 3, 1) := by decide +kernel
theorem dX11_layPlans_182 : decode cX11_layPlans 182 = .ok (.iconst 1, 1) := by decide +kernel
theorem dX11_layPlans_183 : decode cX11_layPlans 183 = .ok (.iadd, 1) := by decide +kernel
theorem dX11_layPlans_184 : decode cX11_layPlans 184 = .ok (.imul, 1) := by decide +kernel
theorem dX11_layPlans_185 : decode cX11_layPlans 185 = .ok (.iload 8, 2) := by decide +kernel
theorem dX11_layPlans_187 : decode cX11_layPlans 187 = .ok (.iadd, 1) := by decide +kernel
theorem dX11_layPlans_188 : decode cX11_layPlans 188 = .ok (.iaload, 1) := by decide +kernel
theorem dX11_layPlans_189 : decode cX11_layPlans 189 = .ok (.iload 7, 2) := by decide +kernel
theorem dX11_layPlans_191 : decode cX11_layPlans 191 = .ok (.ifCond .ne 7, 3) := by decide +kernel
theorem dX11_layPlans_194 : decode cX11_layPlans 194 = .ok (.iconst 0, 1) := by decide +kernel
theorem dX11_layPlans_195 : decode cX11_layPlans 195 = .ok (.goto 26, 3) := by decide +kernel
theorem dX11_layPlans_198 : decode cX11_layPlans 198 = .ok (.iload_n 1, 1) := by decide +kernel
theorem dX11_layPlans_199 : decode cX11_layPlans 199 = .ok (.ifCond .eq 7, 3) := by decide +kernel
theorem dX11_layPlans_202 : decode cX11_layPlans 202 = .ok (.iconst 1, 1) := by decide +kernel
theorem dX11_layPlans_203 : decode cX11_layPlans 203 = .ok (.goto 18, 3) := by decide +kernel
theorem dX11_layPlans_206 : decode cX11_layPlans 206 = .ok (.iload 7, 2) := by decide +kernel
theorem dX11_layPlans_208 : decode cX11_layPlans 208 = .ok (.aload_n 0, 1) := by decide +kernel
theorem dX11_layPlans_209 : decode cX11_layPlans 209 = .ok (.iload_n 3, 1) := by decide +kernel
theorem dX11_layPlans_210 : decode cX11_layPlans 210 = .ok (.invokevirtual 281, 3) := by decide +kernel
theorem dX11_layPlans_213 : decode cX11_layPlans 213 = .ok (.imul, 1) := by decide +kernel
theorem dX11_layPlans_214 : decode cX11_layPlans 214 = .ok (.aload_n 0, 1) := by decide +kernel
theorem dX11_layPlans_215 : decode cX11_layPlans 215 = .ok (.getfield 20, 3) := by decide +kernel
theorem dX11_layPlans_218 : decode cX11_layPlans 218 = .ok (.iconst 2, 1) := by decide +kernel
theorem dX11_layPlans_219 : decode cX11_layPlans 219 = .ok (.iaload, 1) := by decide +kernel
theorem dX11_layPlans_220 : decode cX11_layPlans 220 = .ok (.iadd, 1) := by decide +kernel
theorem dX11_layPlans_221 : decode cX11_layPlans 221 = .ok (.iadd, 1) := by decide +kernel
theorem dX11_layPlans_222 : decode cX11_layPlans 222 = .ok (.istore 9, 2) := by decide +kernel
theorem dX11_layPlans_224 : decode cX11_layPlans 224 = .ok (.iload 9, 2) := by decide +kernel
theorem dX11_layPlans_226 : decode cX11_layPlans 226 = .ok (.aload_n 0, 1) := by decide +kernel
theorem dX11_layPlans_227 : decode cX11_layPlans 227 = .ok (.getfield 38, 3) := by decide +kernel
theorem dX11_layPlans_230 : decode cX11_layPlans 230 = .ok (.iload 6, 2) := by decide +kernel
theorem dX11_layPlans_232 : decode cX11_layPlans 232 = .ok (.iaload, 1) := by decide +kernel
theorem dX11_layPlans_233 : decode cX11_layPlans 233 = .ok (.if_icmp .lt 6, 3) := by decide +kernel
theorem dX11_layPlans_236 : decode cX11_layPlans 236 = .ok (.goto 21, 3) := by decide +kernel
theorem dX11_layPlans_239 : decode cX11_layPlans 239 = .ok (.aload_n 0, 1) := by decide +kernel
theorem dX11_layPlans_240 : decode cX11_layPlans 240 = .ok (.getfield 38, 3) := by decide +kernel
theorem dX11_layPlans_243 : decode cX11_layPlans 243 = .ok (.iload 6, 2) := by decide +kernel
theorem dX11_layPlans_245 : decode cX11_layPlans 245 = .ok (.iload 9, 2) := by decide +kernel
theorem dX11_layPlans_247 : decode cX11_layPlans 247 = .ok (.iastore, 1) := by decide +kernel
theorem dX11_layPlans_248 : decode cX11_layPlans 248 = .ok (.aload_n 0, 1) := by decide +kernel
theorem dX11_layPlans_249 : decode cX11_layPlans 249 = .ok (.getfield 41, 3) := by decide +kernel
theorem dX11_layPlans_252 : decode cX11_layPlans 252 = .ok (.iload 6, 2) := by decide +kernel
theorem dX11_layPlans_254 : decode cX11_layPlans 254 = .ok (.iload 7, 2) := by decide +kernel
theorem dX11_layPlans_256 : decode cX11_layPlans 256 = .ok (.iastore, 1) := by decide +kernel
theorem dX11_layPlans_257 : decode cX11_layPlans 257 = .ok (.iinc 7 1, 3) := by decide +kernel
theorem dX11_layPlans_260 : decode cX11_layPlans 260 = .ok (.goto (-152), 3) := by decide +kernel
theorem dX11_layPlans_263 : decode cX11_layPlans 263 = .ok (.iinc 5 1, 3) := by decide +kernel
theorem dX11_layPlans_266 : decode cX11_layPlans 266 = .ok (.goto (-199), 3) := by decide +kernel
theorem dX11_layPlans_269 : decode cX11_layPlans 269 = .ok (.iinc 3 (-1), 3) := by decide +kernel
theorem dX11_layPlans_272 : decode cX11_layPlans 272 = .ok (.goto (-232), 3) := by decide +kernel
theorem dX11_layPlans_275 : decode cX11_layPlans 275 = .ok (.return_, 1) := by decide +kernel
theorem dX11_leastFrom_0 : decode cX11_leastFrom 0 = .ok (.aload_n 0, 1) := by decide +kernel
theorem dX11_leastFrom_1 : decode cX11_leastFrom 1 = .ok (.getfield 38, 3) := by decide +kernel
theorem dX11_leastFrom_4 : decode cX11_leastFrom 4 = .ok (.iload_n 1, 1) := by decide +kernel
theorem dX11_leastFrom_5 : decode cX11_leastFrom 5 = .ok (.iaload, 1) := by decide +kernel
theorem dX11_leastFrom_6 : decode cX11_leastFrom 6 = .ok (.ldc_w 287, 3) := by decide +kernel
theorem dX11_leastFrom_9 : decode cX11_leastFrom 9 = .ok (.if_icmp .ne 8, 3) := by decide +kernel
theorem dX11_leastFrom_12 : decode cX11_leastFrom 12 = .ok (.bipush (-2), 2) := by decide +kernel
theorem dX11_leastFrom_14 : decode cX11_leastFrom 14 = .ok (.goto 9, 3) := by decide +kernel
theorem dX11_leastFrom_17 : decode cX11_leastFrom 17 = .ok (.aload_n 0, 1) := by decide +kernel
theorem dX11_leastFrom_18 : decode cX11_leastFrom 18 = .ok (.getfield 38, 3) := by decide +kernel
theorem dX11_leastFrom_21 : decode cX11_leastFrom 21 = .ok (.iload_n 1, 1) := by decide +kernel
theorem dX11_leastFrom_22 : decode cX11_leastFrom 22 = .ok (.iaload, 1) := by decide +kernel
theorem dX11_leastFrom_23 : decode cX11_leastFrom 23 = .ok (.ireturn, 1) := by decide +kernel
theorem dX11_cheapest_0 : decode cX11_cheapest 0 = .ok (.aload_n 0, 1) := by decide +kernel
theorem dX11_cheapest_1 : decode cX11_cheapest 1 = .ok (.invokevirtual 176, 3) := by decide +kernel
theorem dX11_cheapest_4 : decode cX11_cheapest 4 = .ok (.aload_n 0, 1) := by decide +kernel
theorem dX11_cheapest_5 : decode cX11_cheapest 5 = .ok (.getfield 189, 3) := by decide +kernel
theorem dX11_cheapest_8 : decode cX11_cheapest 8 = .ok (.ifCond .ne 9, 3) := by decide +kernel
theorem dX11_cheapest_11 : decode cX11_cheapest 11 = .ok (.aload_n 0, 1) := by decide +kernel
theorem dX11_cheapest_12 : decode cX11_cheapest 12 = .ok (.iconst 1, 1) := by decide +kernel
theorem dX11_cheapest_13 : decode cX11_cheapest 13 = .ok (.invokevirtual 179, 3) := by decide +kernel
theorem dX11_cheapest_16 : decode cX11_cheapest 16 = .ok (.ireturn, 1) := by decide +kernel
theorem dX11_cheapest_17 : decode cX11_cheapest 17 = .ok (.aload_n 0, 1) := by decide +kernel
theorem dX11_cheapest_18 : decode cX11_cheapest 18 = .ok (.iconst 0, 1) := by decide +kernel
theorem dX11_cheapest_19 : decode cX11_cheapest 19 = .ok (.iconst (-1), 1) := by decide +kernel
theorem dX11_cheapest_20 : decode cX11_cheapest 20 = .ok (.invokevirtual 288, 3) := by decide +kernel
theorem dX11_cheapest_23 : decode cX11_cheapest 23 = .ok (.aload_n 0, 1) := by decide +kernel
theorem dX11_cheapest_24 : decode cX11_cheapest 24 = .ok (.aload_n 0, 1) := by decide +kernel
theorem dX11_cheapest_25 : decode cX11_cheapest 25 = .ok (.getfield 20, 3) := by decide +kernel
theorem dX11_cheapest_28 : decode cX11_cheapest 28 = .ok (.iconst 1, 1) := by decide +kernel
theorem dX11_cheapest_29 : decode cX11_cheapest 29 = .ok (.iaload, 1) := by decide +kernel
theorem dX11_cheapest_30 : decode cX11_cheapest 30 = .ok (.invokevirtual 292, 3) := by decide +kernel
theorem dX11_cheapest_33 : decode cX11_cheapest 33 = .ok (.ireturn, 1) := by decide +kernel
theorem dX11_how_0 : decode cX11_how 0 = .ok (.aload_n 0, 1) := by decide +kernel
theorem dX11_how_1 : decode cX11_how 1 = .ok (.invokevirtual 176, 3) := by decide +kernel
theorem dX11_how_4 : decode cX11_how 4 = .ok (.aload_n 0, 1) := by decide +kernel
theorem dX11_how_5 : decode cX11_how 5 = .ok (.iload_n 1, 1) := by decide +kernel
theorem dX11_how_6 : decode cX11_how 6 = .ok (.invokevirtual 275, 3) := by decide +kernel
theorem dX11_how_9 : decode cX11_how 9 = .ok (.ifCond .ne 9, 3) := by decide +kernel
theorem dX11_how_12 : decode cX11_how 12 = .ok (.aload_n 0, 1) := by decide +kernel
theorem dX11_how_13 : decode cX11_how 13 = .ok (.iconst 1, 1) := by decide +kernel
theorem dX11_how_14 : decode cX11_how 14 = .ok (.invokevirtual 179, 3) := by decide +kernel
theorem dX11_how_17 : decode cX11_how 17 = .ok (.ireturn, 1) := by decide +kernel
theorem dX11_how_18 : decode cX11_how 18 = .ok (.aload_n 0, 1) := by decide +kernel
theorem dX11_how_19 : decode cX11_how 19 = .ok (.iconst 0, 1) := by decide +kernel
theorem dX11_how_20 : decode cX11_how 20 = .ok (.iconst (-1), 1) := by decide +kernel
theorem dX11_how_21 : decode cX11_how 21 = .ok (.invokevirtual 288, 3) := by decide +kernel
theorem dX11_how_24 : decode cX11_how 24 = .ok (.aload_n 0, 1) := by decide +kernel
theorem dX11_how_25 : decode cX11_how 25 = .ok (.aload_n 0, 1) := by decide +kernel
theorem dX11_how_26 : decode cX11_how 26 = .ok (.getfield 20, 3) := by decide +kernel
theorem dX11_how_29 : decode cX11_how 29 = .ok (.iconst 1, 1) := by decide +kernel
theorem dX11_how_30 : decode cX11_how 30 = .ok (.iaload, 1) := by decide +kernel
theorem dX11_how_31 : decode cX11_how 31 = .ok (.invokevirtual 292, 3) := by decide +kernel
theorem dX11_how_34 : decode cX11_how 34 = .ok (.bipush (-2), 2) := by decide +kernel
theorem dX11_how_36 : decode cX11_how 36 = .ok (.if_icmp .ne 6, 3) := by decide +kernel
theorem dX11_how_39 : decode cX11_how 39 = .ok (.bipush (-2), 2) := by decide +kernel
theorem dX11_how_41 : decode cX11_how 41 = .ok (.ireturn, 1) := by decide +kernel
theorem dX11_how_42 : decode cX11_how 42 = .ok (.aload_n 0, 1) := by decide +kernel
theorem dX11_how_43 : decode cX11_how 43 = .ok (.getfield 20, 3) := by decide +kernel
theorem dX11_how_46 : decode cX11_how 46 = .ok (.iconst 1, 1) := by decide +kernel
theorem dX11_how_47 : decode cX11_how 47 = .ok (.iaload, 1) := by decide +kernel
theorem dX11_how_48 : decode cX11_how 48 = .ok (.istore_n 2, 1) := by decide +kernel
theorem dX11_how_49 : decode cX11_how 49 = .ok (.iconst 0, 1) := by decide +kernel
theorem dX11_how_50 : decode cX11_how 50 = .ok (.istore_n 3, 1) := by decide +kernel
theorem dX11_how_51 : decode cX11_how 51 = .ok (.iload_n 3, 1) := by decide +kernel
theorem dX11_how_52 : decode cX11_how 52 = .ok (.iload_n 1, 1) := by decide +kernel
theorem dX11_how_53 : decode cX11_how 53 = .ok (.if_icmp .ge 29, 3) := by decide +kernel
theorem dX11_how_56 : decode cX11_how 56 = .ok (.iload_n 2, 1) := by decide +kernel
theorem dX11_how_57 : decode cX11_how 57 = .ok (.aload_n 0, 1) := by decide +kernel
theorem dX11_how_58 : decode cX11_how 58 = .ok (.getfield 41, 3) := by decide +kernel
theorem dX11_how_61 : decode cX11_how 61 = .ok (.bipush 41, 2) := by decide +kernel
theorem dX11_how_63 : decode cX11_how 63 = .ok (.iload_n 3, 1) := by decide +kernel
theorem dX11_how_64 : decode cX11_how 64 = .ok (.imul, 1) := by decide +kernel
theorem dX11_how_65 : decode cX11_how 65 = .ok (.iload_n 2, 1) := by decide +kernel
theorem dX11_how_66 : decode cX11_how 66 = .ok (.iadd, 1) := by decide +kernel
theorem dX11_how_67 : decode cX11_how 67 = .ok (.iaload, 1) := by decide +kernel
theorem dX11_how_68 : decode cX11_how 68 = .ok (.aload_n 0, 1) := by decide +kernel
theorem dX11_how_69 : decode cX11_how 69 = .ok (.iload_n 3, 1) := by decide +kernel
theorem dX11_how_70 : decode cX11_how 70 = .ok (.invokevirtual 266, 3) := by decide +kernel
theorem dX11_how_73 : decode cX11_how 73 = .ok (.isub, 1) := by decide +kernel
theorem dX11_how_74 : decode cX11_how 74 = .ok (.iadd, 1) := by decide +kernel
theorem dX11_how_75 : decode cX11_how 75 = .ok (.istore_n 2, 1) := by decide +kernel
theorem dX11_how_76 : decode cX11_how 76 = .ok (.iinc 3 1, 3) := by decide +kernel
theorem dX11_how_79 : decode cX11_how 79 = .ok (.goto (-28), 3) := by decide +kernel
theorem dX11_how_82 : decode cX11_how 82 = .ok (.aload_n 0, 1) := by decide +kernel
theorem dX11_how_83 : decode cX11_how 83 = .ok (.getfield 41, 3) := by decide +kernel
theorem dX11_how_86 : decode cX11_how 86 = .ok (.bipush 41, 2) := by decide +kernel
theorem dX11_how_88 : decode cX11_how 88 = .ok (.iload_n 1, 1) := by decide +kernel
theorem dX11_how_89 : decode cX11_how 89 = .ok (.imul, 1) := by decide +kernel
theorem dX11_how_90 : decode cX11_how 90 = .ok (.iload_n 2, 1) := by decide +kernel
theorem dX11_how_91 : decode cX11_how 91 = .ok (.iadd, 1) := by decide +kernel
theorem dX11_how_92 : decode cX11_how 92 = .ok (.iaload, 1) := by decide +kernel
theorem dX11_how_93 : decode cX11_how 93 = .ok (.ireturn, 1) := by decide +kernel
theorem dX11_fewest_0 : decode cX11_fewest 0 = .ok (.aload_n 0, 1) := by decide +kernel
theorem dX11_fewest_1 : decode cX11_fewest 1 = .ok (.invokevirtual 176, 3) := by decide +kernel
theorem dX11_fewest_4 : decode cX11_fewest 4 = .ok (.aload_n 0, 1) := by decide +kernel
theorem dX11_fewest_5 : decode cX11_fewest 5 = .ok (.getfield 189, 3) := by decide +kernel
theorem dX11_fewest_8 : decode cX11_fewest 8 = .ok (.ifCond .ne 9, 3) := by decide +kernel
theorem dX11_fewest_11 : decode cX11_fewest 11 = .ok (.aload_n 0, 1) := by decide +kernel
theorem dX11_fewest_12 : decode cX11_fewest 12 = .ok (.iconst 1, 1) := by decide +kernel
theorem dX11_fewest_13 : decode cX11_fewest 13 = .ok (.invokevirtual 179, 3) := by decide +kernel
theorem dX11_fewest_16 : decode cX11_fewest 16 = .ok (.ireturn, 1) := by decide +kernel
theorem dX11_fewest_17 : decode cX11_fewest 17 = .ok (.aload_n 0, 1) := by decide +kernel
theorem dX11_fewest_18 : decode cX11_fewest 18 = .ok (.iconst 1, 1) := by decide +kernel
theorem dX11_fewest_19 : decode cX11_fewest 19 = .ok (.iconst (-1), 1) := by decide +kernel
theorem dX11_fewest_20 : decode cX11_fewest 20 = .ok (.invokevirtual 288, 3) := by decide +kernel
theorem dX11_fewest_23 : decode cX11_fewest 23 = .ok (.aload_n 0, 1) := by decide +kernel
theorem dX11_fewest_24 : decode cX11_fewest 24 = .ok (.aload_n 0, 1) := by decide +kernel
theorem dX11_fewest_25 : decode cX11_fewest 25 = .ok (.getfield 20, 3) := by decide +kernel
theorem dX11_fewest_28 : decode cX11_fewest 28 = .ok (.iconst 1, 1) := by decide +kernel
theorem dX11_fewest_29 : decode cX11_fewest 29 = .ok (.iaload, 1) := by decide +kernel
theorem dX11_fewest_30 : decode cX11_fewest 30 = .ok (.invokevirtual 292, 3) := by decide +kernel
theorem dX11_fewest_33 : decode cX11_fewest 33 = .ok (.ireturn, 1) := by decide +kernel
theorem dX11_without_0 : decode cX11_without 0 = .ok (.aload_n 0, 1) := by decide +kernel
theorem dX11_without_1 : decode cX11_without 1 = .ok (.invokevirtual 176, 3) := by decide +kernel
theorem dX11_without_4 : decode cX11_without 4 = .ok (.aload_n 0, 1) := by decide +kernel
theorem dX11_without_5 : decode cX11_without 5 = .ok (.iload_n 1, 1) := by decide +kernel
theorem dX11_without_6 : decode cX11_without 6 = .ok (.invokevirtual 275, 3) := by decide +kernel
theorem dX11_without_9 : decode cX11_without 9 = .ok (.ifCond .ne 9, 3) := by decide +kernel
theorem dX11_without_12 : decode cX11_without 12 = .ok (.aload_n 0, 1) := by decide +kernel
theorem dX11_without_13 : decode cX11_without 13 = .ok (.iconst 1, 1) := by decide +kernel
theorem dX11_without_14 : decode cX11_without 14 = .ok (.invokevirtual 179, 3) := by decide +kernel
theorem dX11_without_17 : decode cX11_without 17 = .ok (.ireturn, 1) := by decide +kernel
theorem dX11_without_18 : decode cX11_without 18 = .ok (.aload_n 0, 1) := by decide +kernel
theorem dX11_without_19 : decode cX11_without 19 = .ok (.iload_n 1, 1) := by decide +kernel
theorem dX11_without_20 : decode cX11_without 20 = .ok (.invokevirtual 281, 3) := by decide +kernel
theorem dX11_without_23 : decode cX11_without 23 = .ok (.ifCond .ne 10, 3) := by decide +kernel
theorem dX11_without_26 : decode cX11_without 26 = .ok (.aload_n 0, 1) := by decide +kernel
theorem dX11_without_27 : decode cX11_without 27 = .ok (.bipush 6, 2) := by decide +kernel
theorem dX11_without_29 : decode cX11_without 29 = .ok (.invokevirtual 179, 3) := by decide +kernel
theorem dX11_without_32 : decode cX11_without 32 = .ok (.ireturn, 1) := by decide +kernel
theorem dX11_without_33 : decode cX11_without 33 = .ok (.aload_n 0, 1) := by decide +kernel
theorem dX11_without_34 : decode cX11_without 34 = .ok (.iconst 0, 1) := by decide +kernel
theorem dX11_without_35 : decode cX11_without 35 = .ok (.iload_n 1, 1) := by decide +kernel
theorem dX11_without_36 : decode cX11_without 36 = .ok (.invokevirtual 288, 3) := by decide +kernel
theorem dX11_without_39 : decode cX11_without 39 = .ok (.aload_n 0, 1) := by decide +kernel
theorem dX11_without_40 : decode cX11_without 40 = .ok (.aload_n 0, 1) := by decide +kernel
theorem dX11_without_41 : decode cX11_without 41 = .ok (.getfield 20, 3) := by decide +kernel
theorem dX11_without_44 : decode cX11_without 44 = .ok (.iconst 1, 1) := by decide +kernel
theorem dX11_without_45 : decode cX11_without 45 = .ok (.iaload, 1) := by decide +kernel
theorem dX11_without_46 : decode cX11_without 46 = .ok (.invokevirtual 292, 3) := by decide +kernel
theorem dX11_without_49 : decode cX11_without 49 = .ok (.ireturn, 1) := by decide +kernel
theorem dX11_gap_0 : decode cX11_gap 0 = .ok (.aload_n 0, 1) := by decide +kernel
theorem dX11_gap_1 : decode cX11_gap 1 = .ok (.invokevirtual 176, 3) := by decide +kernel
theorem dX11_gap_4 : decode cX11_gap 4 = .ok (.aload_n 0, 1) := by decide +kernel
theorem dX11_gap_5 : decode cX11_gap 5 = .ok (.getfield 189, 3) := by decide +kernel
theorem dX11_gap_8 : decode cX11_gap 8 = .ok (.ifCond .ne 9, 3) := by decide +kernel
theorem dX11_gap_11 : decode cX11_gap 11 = .ok (.aload_n 0, 1) := by decide +kernel
theorem dX11_gap_12 : decode cX11_gap 12 = .ok (.iconst 1, 1) := by decide +kernel
theorem dX11_gap_13 : decode cX11_gap 13 = .ok (.invokevirtual 179, 3) := by decide +kernel
theorem dX11_gap_16 : decode cX11_gap 16 = .ok (.ireturn, 1) := by decide +kernel
theorem dX11_gap_17 : decode cX11_gap 17 = .ok (.aload_n 0, 1) := by decide +kernel
theorem dX11_gap_18 : decode cX11_gap 18 = .ok (.iconst 0, 1) := by decide +kernel
theorem dX11_gap_19 : decode cX11_gap 19 = .ok (.iconst (-1), 1) := by decide +kernel
theorem dX11_gap_20 : decode cX11_gap 20 = .ok (.invokevirtual 288, 3) := by decide +kernel
theorem dX11_gap_23 : decode cX11_gap 23 = .ok (.aload_n 0, 1) := by decide +kernel
theorem dX11_gap_24 : decode cX11_gap 24 = .ok (.aload_n 0, 1) := by decide +kernel
theorem dX11_gap_25 : decode cX11_gap 25 = .ok (.getfield 20, 3) := by decide +kernel
theorem dX11_gap_28 : decode cX11_gap 28 = .ok (.iconst 1, 1) := by decide +kernel
theorem dX11_gap_29 : decode cX11_gap 29 = .ok (.iaload, 1) := by decide +kernel
theorem dX11_gap_30 : decode cX11_gap 30 = .ok (.invokevirtual 292, 3) := by decide +kernel
theorem dX11_gap_33 : decode cX11_gap 33 = .ok (.bipush (-2), 2) := by decide +kernel
theorem dX11_gap_35 : decode cX11_gap 35 = .ok (.if_icmp .ne 10, 3) := by decide +kernel
theorem dX11_gap_38 : decode cX11_gap 38 = .ok (.aload_n 0, 1) := by decide +kernel
theorem dX11_gap_39 : decode cX11_gap 39 = .ok (.bipush 6, 2) := by decide +kernel
theorem dX11_gap_41 : decode cX11_gap 41 = .ok (.invokevirtual 179, 3) := by decide +kernel
theorem dX11_gap_44 : decode cX11_gap 44 = .ok (.ireturn, 1) := by decide +kernel
theorem dX11_gap_45 : decode cX11_gap 45 = .ok (.iconst (-1), 1) := by decide +kernel
theorem dX11_gap_46 : decode cX11_gap 46 = .ok (.istore_n 1, 1) := by decide +kernel
theorem dX11_gap_47 : decode cX11_gap 47 = .ok (.iconst (-1), 1) := by decide +kernel
theorem dX11_gap_48 : decode cX11_gap 48 = .ok (.istore_n 2, 1) := by decide +kernel
theorem dX11_gap_49 : decode cX11_gap 49 = .ok (.iconst 0, 1) := by decide +kernel
theorem dX11_gap_50 : decode cX11_gap 50 = .ok (.istore_n 3, 1) := by decide +kernel
theorem dX11_gap_51 : decode cX11_gap 51 = .ok (.iload_n 3, 1) := by decide +kernel
theorem dX11_gap_52 : decode cX11_gap 52 = .ok (.aload_n 0, 1) := by decide +kernel
theorem dX11_gap_53 : decode cX11_gap 53 = .ok (.invokevirtual 254, 3) := by decide +kernel
theorem dX11_gap_56 : decode cX11_gap 56 = .ok (.if_icmp .ge 61, 3) := by decide +kernel
theorem dX11_gap_59 : decode cX11_gap 59 = .ok (.aload_n 0, 1) := by decide +kernel
theorem dX11_gap_60 : decode cX11_gap 60 = .ok (.iload_n 3, 1) := by decide +kernel
theorem dX11_gap_61 : decode cX11_gap 61 = .ok (.invokevirtual 281, 3) := by decide +kernel
theorem dX11_gap_64 : decode cX11_gap 64 = .ok (.ifCond .ne 6, 3) := by decide +kernel
theorem dX11_gap_67 : decode cX11_gap 67 = .ok (.goto 44, 3) := by decide +kernel
theorem dX11_gap_70 : decode cX11_gap 70 = .ok (.aload_n 0, 1) := by decide +kernel
theorem dX11_gap_71 : decode cX11_gap 71 = .ok (.iconst 0, 1) := by decide +kernel
theorem dX11_gap_72 : decode cX11_gap 72 = .ok (.iload_n 3, 1) := by decide +kernel
theorem dX11_gap_73 : decode cX11_gap 73 = .ok (.invokevirtual 288, 3) := by decide +kernel
theorem dX11_gap_76 : decode cX11_gap 76 = .ok (.aload_n 0, 1) := by decide +kernel
theorem dX11_gap_77 : decode cX11_gap 77 = .ok (.aload_n 0, 1) := by decide +kernel
theorem dX11_gap_78 : decode cX11_gap 78 = .ok (.getfield 20, 3) := by decide +kernel
theorem dX11_gap_81 : decode cX11_gap 81 = .ok (.iconst 1, 1) := by decide +kernel
theorem dX11_gap_82 : decode cX11_gap 82 = .ok (.iaload, 1) := by decide +kernel
theorem dX11_gap_83 : decode cX11_gap 83 = .ok (.invokevirtual 292, 3) := by decide +kernel
theorem dX11_gap_86 : decode cX11_gap 86 = .ok (.istore 4, 2) := by decide +kernel
theorem dX11_gap_88 : decode cX11_gap 88 = .ok (.iload 4, 2) := by decide +kernel
theorem dX11_gap_90 : decode cX11_gap 90 = .ok (.bipush (-2), 2) := by decide +kernel
theorem dX11_gap_92 : decode cX11_gap 92 = .ok (.if_icmp .ne 5, 3) := by decide +kernel
theorem dX11_gap_95 : decode cX11_gap 95 = .ok (.iload_n 3, 1) := by decide +kernel
theorem dX11_gap_96 : decode cX11_gap 96 = .ok (.ireturn, 1) := by decide +kernel
theorem dX11_gap_97 : decode cX11_gap 97 = .ok (.iload 4, 2) := by decide +kernel
theorem dX11_gap_99 : decode cX11_gap 99 = .ok (.iload_n 2, 1) := by decide +kernel
theorem dX11_gap_100 : decode cX11_gap 100 = .ok (.if_icmp .gt 6, 3) := by decide +kernel
theorem dX11_gap_103 : decode cX11_gap 103 = .ok (.goto 8, 3) := by decide +kernel
theorem dX11_gap_106 : decode cX11_gap 106 = .ok (.iload_n 3, 1) := by decide +kernel
theorem dX11_gap_107 : decode cX11_gap 107 = .ok (.istore_n 1, 1) := by decide +kernel
theorem dX11_gap_108 : decode cX11_gap 108 = .ok (.iload 4, 2) := by decide +kernel
theorem dX11_gap_110 : decode cX11_gap 110 = .ok (.istore_n 2, 1) := by decide +kernel
theorem dX11_gap_111 : decode cX11_gap 111 = .ok (.iinc 3 1, 3) := by decide +kernel
theorem dX11_gap_114 : decode cX11_gap 114 = .ok (.goto (-63), 3) := by decide +kernel
theorem dX11_gap_117 : decode cX11_gap 117 = .ok (.iload_n 1, 1) := by decide +kernel
theorem dX11_gap_118 : decode cX11_gap 118 = .ok (.ifCond .ge 12, 3) := by decide +kernel
theorem dX11_gap_121 : decode cX11_gap 121 = .ok (.aload_n 0, 1) := by decide +kernel
theorem dX11_gap_122 : decode cX11_gap 122 = .ok (.bipush 6, 2) := by decide +kernel
theorem dX11_gap_124 : decode cX11_gap 124 = .ok (.invokevirtual 179, 3) := by decide +kernel
theorem dX11_gap_127 : decode cX11_gap 127 = .ok (.goto 4, 3) := by decide +kernel
theorem dX11_gap_130 : decode cX11_gap 130 = .ok (.iload_n 1, 1) := by decide +kernel
theorem dX11_gap_131 : decode cX11_gap 131 = .ok (.ireturn, 1) := by decide +kernel
theorem dX11_need_0 : decode cX11_need 0 = .ok (.aload_n 0, 1) := by decide +kernel
theorem dX11_need_1 : decode cX11_need 1 = .ok (.invokevirtual 176, 3) := by decide +kernel
theorem dX11_need_4 : decode cX11_need 4 = .ok (.aload_n 0, 1) := by decide +kernel
theorem dX11_need_5 : decode cX11_need 5 = .ok (.getfield 189, 3) := by decide +kernel
theorem dX11_need_8 : decode cX11_need 8 = .ok (.ifCond .ne 9, 3) := by decide +kernel
theorem dX11_need_11 : decode cX11_need 11 = .ok (.aload_n 0, 1) := by decide +kernel
theorem dX11_need_12 : decode cX11_need 12 = .ok (.iconst 1, 1) := by decide +kernel
theorem dX11_need_13 : decode cX11_need 13 = .ok (.invokevirtual 179, 3) := by decide +kernel
theorem dX11_need_16 : decode cX11_need 16 = .ok (.ireturn, 1) := by decide +kernel
theorem dX11_need_17 : decode cX11_need 17 = .ok (.aload_n 0, 1) := by decide +kernel
theorem dX11_need_18 : decode cX11_need 18 = .ok (.iconst 1, 1) := by decide +kernel
theorem dX11_need_19 : decode cX11_need 19 = .ok (.iconst (-1), 1) := by decide +kernel
theorem dX11_need_20 : decode cX11_need 20 = .ok (.invokevirtual 288, 3) := by decide +kernel
theorem dX11_need_23 : decode cX11_need 23 = .ok (.iconst 0, 1) := by decide +kernel
theorem dX11_need_24 : decode cX11_need 24 = .ok (.istore_n 1, 1) := by decide +kernel
theorem dX11_need_25 : decode cX11_need 25 = .ok (.iload_n 1, 1) := by decide +kernel
theorem dX11_need_26 : decode cX11_need 26 = .ok (.aload_n 0, 1) := by decide +kernel
theorem dX11_need_27 : decode cX11_need 27 = .ok (.getfield 20, 3) := by decide +kernel
theorem dX11_need_30 : decode cX11_need 30 = .ok (.iconst 0, 1) := by decide +kernel
theorem dX11_need_31 : decode cX11_need 31 = .ok (.iaload, 1) := by decide +kernel
theorem dX11_need_32 : decode cX11_need 32 = .ok (.if_icmp .gt 21, 3) := by decide +kernel
theorem dX11_need_35 : decode cX11_need 35 = .ok (.aload_n 0, 1) := by decide +kernel
theorem dX11_need_36 : decode cX11_need 36 = .ok (.iload_n 1, 1) := by decide +kernel
theorem dX11_need_37 : decode cX11_need 37 = .ok (.invokevirtual 292, 3) := by decide +kernel
theorem dX11_need_40 : decode cX11_need 40 = .ok (.bipush (-2), 2) := by decide +kernel
theorem dX11_need_42 : decode cX11_need 42 = .ok (.if_icmp .eq 5, 3) := by decide +kernel
theorem dX11_need_45 : decode cX11_need 45 = .ok (.iload_n 1, 1) := by decide +kernel
theorem dX11_need_46 : decode cX11_need 46 = .ok (.ireturn, 1) := by decide +kernel
theorem dX11_need_47 : decode cX11_need 47 = .ok (.iinc 1 1, 3) := by decide +kernel
theorem dX11_need_50 : decode cX11_need 50 = .ok (.goto (-25), 3) := by decide +kernel
theorem dX11_need_53 : decode cX11_need 53 = .ok (.bipush (-2), 2) := by decide +kernel
theorem dX11_need_55 : decode cX11_need 55 = .ok (.ireturn, 1) := by decide +kernel
theorem dX11_within_0 : decode cX11_within 0 = .ok (.aload_n 0, 1) := by decide +kernel
theorem dX11_within_1 : decode cX11_within 1 = .ok (.invokevirtual 176, 3) := by decide +kernel
theorem dX11_within_4 : decode cX11_within 4 = .ok (.aload_n 0, 1) := by decide +kernel
theorem dX11_within_5 : decode cX11_within 5 = .ok (.getfield 189, 3) := by decide +kernel
theorem dX11_within_8 : decode cX11_within 8 = .ok (.ifCond .ne 9, 3) := by decide +kernel
theorem dX11_within_11 : decode cX11_within 11 = .ok (.aload_n 0, 1) := by decide +kernel
theorem dX11_within_12 : decode cX11_within 12 = .ok (.iconst 1, 1) := by decide +kernel
theorem dX11_within_13 : decode cX11_within 13 = .ok (.invokevirtual 179, 3) := by decide +kernel
theorem dX11_within_16 : decode cX11_within 16 = .ok (.ireturn, 1) := by decide +kernel
theorem dX11_within_17 : decode cX11_within 17 = .ok (.iload_n 1, 1) := by decide +kernel
theorem dX11_within_18 : decode cX11_within 18 = .ok (.iconst 0, 1) := by decide +kernel
theorem dX11_within_19 : decode cX11_within 19 = .ok (.bipush 9, 2) := by decide +kernel
theorem dX11_within_21 : decode cX11_within 21 = .ok (.invokestatic 161, 3) := by decide +kernel
theorem dX11_within_24 : decode cX11_within 24 = .ok (.ifCond .ne 9, 3) := by decide +kernel
theorem dX11_within_27 : decode cX11_within 27 = .ok (.aload_n 0, 1) := by decide +kernel
theorem dX11_within_28 : decode cX11_within 28 = .ok (.iconst 2, 1) := by decide +kernel
theorem dX11_within_29 : decode cX11_within 29 = .ok (.invokevirtual 179, 3) := by decide +kernel
theorem dX11_within_32 : decode cX11_within 32 = .ok (.ireturn, 1) := by decide +kernel
theorem dX11_within_33 : decode cX11_within 33 = .ok (.iconst 0, 1) := by decide +kernel
theorem dX11_within_34 : decode cX11_within 34 = .ok (.istore_n 2, 1) := by decide +kernel
theorem dX11_within_35 : decode cX11_within 35 = .ok (.iload_n 2, 1) := by decide +kernel
theorem dX11_within_36 : decode cX11_within 36 = .ok (.iload_n 1, 1) := by decide +kernel
theorem dX11_within_37 : decode cX11_within 37 = .ok (.if_icmp .gt 48, 3) := by decide +kernel
theorem dX11_within_40 : decode cX11_within 40 = .ok (.iconst 0, 1) := by decide +kernel
theorem dX11_within_41 : decode cX11_within 41 = .ok (.istore_n 3, 1) := by decide +kernel
theorem dX11_within_42 : decode cX11_within 42 = .ok (.iload_n 3, 1) := by decide +kernel
theorem dX11_within_43 : decode cX11_within 43 = .ok (.aload_n 0, 1) := by decide +kernel
theorem dX11_within_44 : decode cX11_within 44 = .ok (.getfield 20, 3) := by decide +kernel
theorem dX11_within_47 : decode cX11_within 47 = .ok (.iconst 0, 1) := by decide +kernel
theorem dX11_within_48 : decode cX11_within 48 = .ok (.iaload, 1) := by decide +kernel
theorem dX11_within_49 : decode cX11_within 49 = .ok (.if_icmp .gt 30, 3) := by decide +kernel
theorem dX11_within_52 : decode cX11_within 52 = .ok (.aload_n 0, 1) := by decide +kernel
theorem dX11_within_53 : decode cX11_within 53 = .ok (.getfield 44, 3) := by decide +kernel
theorem dX11_within_56 : decode cX11_within 56 = .ok (.sipush 369, 3) := by decide +kernel
theorem dX11_within_59 : decode cX11_within 59 = .ok (.iload_n 2, 1) := by decide +kernel
theorem dX11_within_60 : decode cX11_within 60 = .ok (.imul, 1) := by decide +kernel
theorem dX11_within_61 : decode cX11_within 61 = .ok (.bipush 41, 2) := by decide +kernel
theorem dX11_within_63 : decode cX11_within 63 = .ok (.aload_n 0, 1) := by decide +kernel
theorem dX11_within_64 : decode cX11_within 64 = .ok (.invokevirtual 254, 3) := by decide +kernel
theorem dX11_within_67 : decode cX11_within 67 = .ok (.imul, 1) := by decide +kernel
theorem dX11_within_68 : decode cX11_within 68 = .ok (.iadd, 1) := by decide +kernel
theorem dX11_within_69 : decode cX11_within 69 = .ok (.iload_n 3, 1) := by decide +kernel
theorem dX11_within_70 : decode cX11_within 70 = .ok (.iadd, 1) := by decide +kernel
theorem dX11_within_71 : decode cX11_within 71 = .ok (.iconst 0, 1) := by decide +kernel
theorem dX11_within_72 : decode cX11_within 72 = .ok (.iastore, 1) := by decide +kernel
theorem dX11_within_73 : decode cX11_within 73 = .ok (.iinc 3 1, 3) := by decide +kernel
theorem dX11_within_76 : decode cX11_within 76 = .ok (.goto (-34), 3) := by decide +kernel
theorem dX11_within_79 : decode cX11_within 79 = .ok (.iinc 2 1, 3) := by decide +kernel
theorem dX11_within_82 : decode cX11_within 82 = .ok (.goto (-47), 3) := by decide +kernel
theorem dX11_within_85 : decode cX11_within 85 = .ok (.aload_n 0, 1) := by decide +kernel
theorem dX11_within_86 : decode cX11_within 86 = .ok (.invokevirtual 254, 3) := by decide +kernel
theorem dX11_within_89 : decode cX11_within 89 = .ok (.iconst 1, 1) := by decide +kernel
theorem dX11_within_90 : decode cX11_within 90 = .ok (.isub, 1) := by decide +kernel
theorem dX11_within_91 : decode cX11_within 91 = .ok (.istore_n 2, 1) := by decide +kernel
theorem dX11_within_92 : decode cX11_within 92 = .ok (.iload_n 2, 1) := by decide +kernel
theorem dX11_within_93 : decode cX11_within 93 = .ok (.ifCond .lt 68, 3) := by decide +kernel
theorem dX11_within_96 : decode cX11_within 96 = .ok (.iconst 0, 1) := by decide +kernel
theorem dX11_within_97 : decode cX11_within 97 = .ok (.istore_n 3, 1) := by decide +kernel
theorem dX11_within_98 : decode cX11_within 98 = .ok (.iload_n 3, 1) := by decide +kernel
theorem dX11_within_99 : decode cX11_within 99 = .ok (.iload_n 1, 1) := by decide +kernel
theorem dX11_within_100 : decode cX11_within 100 = .ok (.if_icmp .gt 55, 3) := by decide +kernel
theorem dX11_within_103 : decode cX11_within 103 = .ok (.iconst 0, 1) := by decide +kernel
theorem dX11_within_104 : decode cX11_within 104 = .ok (.istore 4, 2) := by decide +kernel
theorem dX11_within_106 : decode cX11_within 106 = .ok (.iload 4, 2) := by decide +kernel
theorem dX11_within_108 : decode cX11_within 108 = .ok (.aload_n 0, 1) := by decide +kernel
theorem dX11_within_109 : decode cX11_within 109 = .ok (.getfield 20, 3) := by decide +kernel
theorem dX11_within_112 : decode cX11_within 112 = .ok (.iconst 0, 1) := by decide +kernel
theorem dX11_within_113 : decode cX11_within 113 = .ok (.iaload, 1) := by decide +kernel
theorem dX11_within_114 : decode cX11_within 114 = .ok (.if_icmp .gt 35, 3) := by decide +kernel
theorem dX11_within_117 : decode cX11_within 117 = .ok (.aload_n 0, 1) := by decide +kernel
theorem dX11_within_118 : decode cX11_within 118 = .ok (.getfield 44, 3) := by decide +kernel
theorem dX11_within_121 : decode cX11_within 121 = .ok (.sipush 369, 3) := by decide +kernel
theorem dX11_within_124 : decode cX11_within 124 = .ok (.iload_n 3, 1) := by decide +kernel
theorem dX11_within_125 : decode cX11_within 125 = .ok (.imul, 1) := by decide +kernel
theorem dX11_within_126 : decode cX11_within 126 = .ok (.bipush 41, 2) := by decide +kernel
theorem dX11_within_128 : decode cX11_within 128 = .ok (.iload_n 2, 1) := by decide +kernel
theorem dX11_within_129 : decode cX11_within 129 = .ok (.imul, 1) := by decide +kernel
theorem dX11_within_130 : decode cX11_within 130 = .ok (.iadd, 1) := by decide +kernel
theorem dX11_within_131 : decode cX11_within 131 = .ok (.iload 4, 2) := by decide +kernel
theorem dX11_within_133 : decode cX11_within 133 = .ok (.iadd, 1) := by decide +kernel
theorem dX11_within_134 : decode cX11_within 134 = .ok (.aload_n 0, 1) := by decide +kernel
theorem dX11_within_135 : decode cX11_within 135 = .ok (.iload_n 2, 1) := by decide +kernel
theorem dX11_within_136 : decode cX11_within 136 = .ok (.iload_n 3, 1) := by decide +kernel
theorem dX11_within_137 : decode cX11_within 137 = .ok (.iload 4, 2) := by decide +kernel
theorem dX11_within_139 : decode cX11_within 139 = .ok (.invokevirtual 295, 3) := by decide +kernel
theorem dX11_within_142 : decode cX11_within 142 = .ok (.iastore, 1) := by decide +kernel
theorem dX11_within_143 : decode cX11_within 143 = .ok (.iinc 4 1, 3) := by decide +kernel
theorem dX11_within_146 : decode cX11_within 146 = .ok (.goto (-40), 3) := by decide +kernel
theorem dX11_within_149 : decode cX11_within 149 = .ok (.iinc 3 1, 3) := by decide +kernel
theorem dX11_within_152 : decode cX11_within 152 = .ok (.goto (-54), 3) := by decide +kernel
theorem dX11_within_155 : decode cX11_within 155 = .ok (.iinc 2 (-1), 3) := by decide +kernel
theorem dX11_within_158 : decode cX11_within 158 = .ok (.goto (-66), 3) := by decide +kernel
theorem dX11_within_161 : decode cX11_within 161 = .ok (.aload_n 0, 1) := by decide +kernel
theorem dX11_within_162 : decode cX11_within 162 = .ok (.getfield 44, 3) := by decide +kernel
theorem dX11_within_165 : decode cX11_within 165 = .ok (.sipush 369, 3) := by decide +kernel
theorem dX11_within_168 : decode cX11_within 168 = .ok (.iload_n 1, 1) := by decide +kernel
theorem dX11_within_169 : decode cX11_within 169 = .ok (.imul, 1) := by decide +kernel
theorem dX11_within_170 : decode cX11_within 170 = .ok (.aload_n 0, 1) := by decide +kernel
theorem dX11_within_171 : decode cX11_within 171 = .ok (.getfield 20, 3) := by decide +kernel
theorem dX11_within_174 : decode cX11_within 174 = .ok (.iconst 1, 1) := by decide +kernel
theorem dX11_within_175 : decode cX11_within 175 = .ok (.iaload, 1) := by decide +kernel
theorem dX11_within_176 : decode cX11_within 176 = .ok (.iadd, 1) := by decide +kernel
theorem dX11_within_177 : decode cX11_within 177 = .ok (.iaload, 1) := by decide +kernel
theorem dX11_within_178 : decode cX11_within 178 = .ok (.istore_n 2, 1) := by decide +kernel
theorem dX11_within_179 : decode cX11_within 179 = .ok (.iload_n 2, 1) := by decide +kernel
theorem dX11_within_180 : decode cX11_within 180 = .ok (.ldc_w 287, 3) := by decide +kernel
theorem dX11_within_183 : decode cX11_within 183 = .ok (.if_icmp .ne 8, 3) := by decide +kernel
theorem dX11_within_186 : decode cX11_within 186 = .ok (.bipush (-2), 2) := by decide +kernel
theorem dX11_within_188 : decode cX11_within 188 = .ok (.goto 4, 3) := by decide +kernel
theorem dX11_within_191 : decode cX11_within 191 = .ok (.iload_n 2, 1) := by decide +kernel
theorem dX11_within_192 : decode cX11_within 192 = .ok (.ireturn, 1) := by decide +kernel
theorem dX11_leastBy_0 : decode cX11_leastBy 0 = .ok (.ldc_w 287, 3) := by decide +kernel
theorem dX11_leastBy_3 : decode cX11_leastBy 3 = .ok (.istore 4, 2) := by decide +kernel
theorem dX11_leastBy_5 : decode cX11_leastBy 5 = .ok (.iconst 0, 1) := by decide +kernel
theorem dX11_leastBy_6 : decode cX11_leastBy 6 = .ok (.istore 5, 2) := by decide +kernel
theorem dX11_leastBy_8 : decode cX11_leastBy 8 = .ok (.iload_n 3, 1) := by decide +kernel
theorem dX11_leastBy_9 : decode cX11_leastBy 9 = .ok (.iload 5, 2) := by decide +kernel
theorem dX11_leastBy_11 : decode cX11_leastBy 11 = .ok (.iadd, 1) := by decide +kernel
theorem dX11_leastBy_12 : decode cX11_leastBy 12 = .ok (.aload_n 0, 1) := by decide +kernel
theorem dX11_leastBy_13 : decode cX11_leastBy 13 = .ok (.getfield 20, 3) := by decide +kernel
theorem dX11_leastBy_16 : decode cX11_leastBy 16 = .ok (.iconst 0, 1) := by decide +kernel
theorem dX11_leastBy_17 : decode cX11_leastBy 17 = .ok (.iaload, 1) := by decide +kernel
theorem dX11_leastBy_18 : decode cX11_leastBy 18 = .ok (.if_icmp .gt 138, 3) := by decide +kernel
theorem dX11_leastBy_21 : decode cX11_leastBy 21 = .ok (.iload 5, 2) := by decide +kernel
theorem dX11_leastBy_23 : decode cX11_leastBy 23 = .ok (.ifCond .eq 15, 3) := by decide +kernel
theorem dX11_leastBy_26 : decode cX11_leastBy 26 = .ok (.iload_n 2, 1) := by decide +kernel
theorem dX11_leastBy_27 : decode cX11_leastBy 27 = .ok (.ifCond .le 129, 3) := by decide +kernel
theorem dX11_leastBy_30 : decode cX11_leastBy 30 = .ok (.aload_n 0, 1) := by decide +kernel
theorem dX11_leastBy_31 : decode cX11_leastBy 31 = .ok (.iload_n 1, 1) := by decide +kernel
theorem dX11_leastBy_32 : decode cX11_leastBy 32 = .ok (.invokevirtual 281, 3) := by decide +kernel
theorem dX11_leastBy_35 : decode cX11_leastBy 35 = .ok (.ifCond .le 121, 3) := by decide +kernel
theorem dX11_leastBy_38 : decode cX11_leastBy 38 = .ok (.iload_n 3, 1) := by decide +kernel
theorem dX11_leastBy_39 : decode cX11_leastBy 39 = .ok (.iload 5, 2) := by decide +kernel
theorem dX11_leastBy_41 : decode cX11_leastBy 41 = .ok (.iadd, 1) := by decide +kernel
theorem dX11_leastBy_42 : decode cX11_leastBy 42 = .ok (.aload_n 0, 1) := by decide +kernel
theorem dX11_leastBy_43 : decode cX11_leastBy 43 = .ok (.iload_n 1, 1) := by decide +kernel
theorem dX11_leastBy_44 : decode cX11_leastBy 44 = .ok (.invokevirtual 266, 3) := by decide +kernel
theorem dX11_leastBy_47 : decode cX11_leastBy 47 = .ok (.isub, 1) := by decide +kernel
theorem dX11_leastBy_48 : decode cX11_leastBy 48 = .ok (.istore 6, 2) := by decide +kernel
theorem dX11_leastBy_50 : decode cX11_leastBy 50 = .ok (.iload 6, 2) := by decide +kernel
theorem dX11_leastBy_52 : decode cX11_leastBy 52 = .ok (.ifCond .ge 6, 3) := by decide +kernel
theorem dX11_leastBy_55 : decode cX11_leastBy 55 = .ok (.goto 95, 3) := by decide +kernel
theorem dX11_leastBy_58 : decode cX11_leastBy 58 = .ok (.aload_n 0, 1) := by decide +kernel
theorem dX11_leastBy_59 : decode cX11_leastBy 59 = .ok (.getfield 44, 3) := by decide +kernel
theorem dX11_leastBy_62 : decode cX11_leastBy 62 = .ok (.sipush 369, 3) := by decide +kernel
theorem dX11_leastBy_65 : decode cX11_leastBy 65 = .ok (.iload 5, 2) := by decide +kernel
theorem dX11_leastBy_67 : decode cX11_leastBy 67 = .ok (.ifCond .ne 7, 3) := by decide +kernel
theorem dX11_leastBy_70 : decode cX11_leastBy 70 = .ok (.iload_n 2, 1) := by decide +kernel
theorem dX11_leastBy_71 : decode cX11_leastBy 71 = .ok (.goto 6, 3) := by decide +kernel
theorem dX11_leastBy_74 : decode cX11_leastBy 74 = .ok (.iload_n 2, 1) := by decide +kernel
theorem dX11_leastBy_75 : decode cX11_leastBy 75 = .ok (.iconst 1, 1) := by decide +kernel
theorem dX11_leastBy_76 : decode cX11_leastBy 76 = .ok (.isub, 1) := by decide +kernel
theorem dX11_leastBy_77 : decode cX11_leastBy 77 = .ok (.imul, 1) := by decide +kernel
theorem dX11_leastBy_78 : decode cX11_leastBy 78 = .ok (.bipush 41, 2) := by decide +kernel
theorem dX11_leastBy_80 : decode cX11_leastBy 80 = .ok (.iload_n 1, 1) := by decide +kernel
theorem dX11_leastBy_81 : decode cX11_leastBy 81 = .ok (.iconst 1, 1) := by decide +kernel
theorem dX11_leastBy_82 : decode cX11_leastBy 82 = .ok (.iadd, 1) := by decide +kernel
theorem dX11_leastBy_83 : decode cX11_leastBy 83 = .ok (.imul, 1) := by decide +kernel
theorem dX11_leastBy_84 : decode cX11_leastBy 84 = .ok (.iadd, 1) := by decide +kernel
theorem dX11_leastBy_85 : decode cX11_leastBy 85 = .ok (.iload 6, 2) := by decide +kernel
theorem dX11_leastBy_87 : decode cX11_leastBy 87 = .ok (.iadd, 1) := by decide +kernel
theorem dX11_leastBy_88 : decode cX11_leastBy 88 = .ok (.iaload, 1) := by decide +kernel
theorem dX11_leastBy_89 : decode cX11_leastBy 89 = .ok (.istore 7, 2) := by decide +kernel
theorem dX11_leastBy_91 : decode cX11_leastBy 91 = .ok (.iload 7, 2) := by decide +kernel
theorem dX11_leastBy_93 : decode cX11_leastBy 93 = .ok (.ldc_w 287, 3) := by decide +kernel
theorem dX11_leastBy_96 : decode cX11_leastBy 96 = .ok (.if_icmp .ne 9, 3) := by decide +kernel
theorem dX11_leastBy_99 : decode cX11_leastBy 99 = .ok (.ldc_w 287, 3) := by decide +kernel
theorem dX11_leastBy_102 : decode cX11_leastBy 102 = .ok (.goto 30, 3) := by decide +kernel
theorem dX11_leastBy_105 : decode cX11_leastBy 105 = .ok (.iload 7, 2) := by decide +kernel
theorem dX11_leastBy_107 : decode cX11_leastBy 107 = .ok (.iload 5, 2) := by decide +kernel
theorem dX11_leastBy_109 : decode cX11_leastBy 109 = .ok (.ifCond .ne 7, 3) := by decide +kernel
theorem dX11_leastBy_112 : decode cX11_leastBy 112 = .ok (.iconst 0, 1) := by decide +kernel
theorem dX11_leastBy_113 : decode cX11_leastBy 113 = .ok (.goto 18, 3) := by decide +kernel
theorem dX11_leastBy_116 : decode cX11_leastBy 116 = .ok (.iload 5, 2) := by decide +kernel
theorem dX11_leastBy_118 : decode cX11_leastBy 118 = .ok (.aload_n 0, 1) := by decide +kernel
theorem dX11_leastBy_119 : decode cX11_leastBy 119 = .ok (.iload_n 1, 1) := by decide +kernel
theorem dX11_leastBy_120 : decode cX11_leastBy 120 = .ok (.invokevirtual 281, 3) := by decide +kernel
theorem dX11_leastBy_123 : decode cX11_leastBy 123 = .ok (.imul, 1) := by decide +kernel
theorem dX11_leastBy_124 : decode cX11_leastBy 124 = .ok (.aload_n 0, 1) := by decide +kernel
theorem dX11_leastBy_125 : decode cX11_leastBy 125 = .ok (.getfield 20, 3) := by decide +kernel
theorem dX11_leastBy_128 : decode cX11_leastBy 128 = .ok (.iconst 2, 1) := by decide +kernel
theorem dX11_leastBy_129 : decode cX11_leastBy 129 = .ok (.iaload, 1) := by decide +kernel
theorem dX11_leastBy_130 : decode cX11_leastBy 130 = .ok (.iadd, 1) := by decide +kernel
theorem dX11_leastBy_131 : decode cX11_leastBy 131 = .ok (.iadd, 1) := by decide +kernel
theorem dX11_leastBy_132 : decode cX11_leastBy 132 = .ok (.istore 8, 2) := by decide +kernel
theorem dX11_leastBy_134 : decode cX11_leastBy 134 = .ok (.iload 8, 2) := by decide +kernel
theorem dX11_leastBy_136 : decode cX11_leastBy 136 = .ok (.iload 4, 2) := by decide +kernel
theorem dX11_leastBy_138 : decode cX11_leastBy 138 = .ok (.if_icmp .ge 8, 3) := by decide +kernel
theorem dX11_leastBy_141 : decode cX11_leastBy 141 = .ok (.iload 8, 2) := by decide +kernel
theorem dX11_leastBy_143 : decode cX11_leastBy 143 = .ok (.goto 5, 3) := by decide +kernel
theorem dX11_leastBy_146 : decode cX11_leastBy 146 = .ok (.iload 4, 2) := by decide +kernel
theorem dX11_leastBy_148 : decode cX11_leastBy 148 = .ok (.istore 4, 2) := by decide +kernel
theorem dX11_leastBy_150 : decode cX11_leastBy 150 = .ok (.iinc 5 1, 3) := by decide +kernel
theorem dX11_leastBy_153 : decode cX11_leastBy 153 = .ok (.goto (-145), 3) := by decide +kernel
theorem dX11_leastBy_156 : decode cX11_leastBy 156 = .ok (.iload 4, 2) := by decide +kernel
theorem dX11_leastBy_158 : decode cX11_leastBy 158 = .ok (.ireturn, 1) := by decide +kernel
theorem dX11_rest_0 : decode cX11_rest 0 = .ok (.aload_n 0, 1) := by decide +kernel
theorem dX11_rest_1 : decode cX11_rest 1 = .ok (.invokevirtual 176, 3) := by decide +kernel
theorem dX11_rest_4 : decode cX11_rest 4 = .ok (.aload_n 0, 1) := by decide +kernel
theorem dX11_rest_5 : decode cX11_rest 5 = .ok (.getfield 189, 3) := by decide +kernel
theorem dX11_rest_8 : decode cX11_rest 8 = .ok (.ifCond .ne 9, 3) := by decide +kernel
theorem dX11_rest_11 : decode cX11_rest 11 = .ok (.aload_n 0, 1) := by decide +kernel
theorem dX11_rest_12 : decode cX11_rest 12 = .ok (.iconst 1, 1) := by decide +kernel
theorem dX11_rest_13 : decode cX11_rest 13 = .ok (.invokevirtual 179, 3) := by decide +kernel
theorem dX11_rest_16 : decode cX11_rest 16 = .ok (.ireturn, 1) := by decide +kernel
theorem dX11_rest_17 : decode cX11_rest 17 = .ok (.aload_n 0, 1) := by decide +kernel
theorem dX11_rest_18 : decode cX11_rest 18 = .ok (.iconst 0, 1) := by decide +kernel
theorem dX11_rest_19 : decode cX11_rest 19 = .ok (.iconst (-1), 1) := by decide +kernel
theorem dX11_rest_20 : decode cX11_rest 20 = .ok (.invokevirtual 288, 3) := by decide +kernel
theorem dX11_rest_23 : decode cX11_rest 23 = .ok (.aload_n 0, 1) := by decide +kernel
theorem dX11_rest_24 : decode cX11_rest 24 = .ok (.aload_n 0, 1) := by decide +kernel
theorem dX11_rest_25 : decode cX11_rest 25 = .ok (.getfield 20, 3) := by decide +kernel
theorem dX11_rest_28 : decode cX11_rest 28 = .ok (.iconst 1, 1) := by decide +kernel
theorem dX11_rest_29 : decode cX11_rest 29 = .ok (.iaload, 1) := by decide +kernel
theorem dX11_rest_30 : decode cX11_rest 30 = .ok (.invokevirtual 292, 3) := by decide +kernel
theorem dX11_rest_33 : decode cX11_rest 33 = .ok (.bipush (-2), 2) := by decide +kernel
theorem dX11_rest_35 : decode cX11_rest 35 = .ok (.if_icmp .ne 6, 3) := by decide +kernel
theorem dX11_rest_38 : decode cX11_rest 38 = .ok (.bipush (-2), 2) := by decide +kernel
theorem dX11_rest_40 : decode cX11_rest 40 = .ok (.ireturn, 1) := by decide +kernel
theorem dX11_rest_41 : decode cX11_rest 41 = .ok (.aload_n 0, 1) := by decide +kernel
theorem dX11_rest_42 : decode cX11_rest 42 = .ok (.getfield 20, 3) := by decide +kernel
theorem dX11_rest_45 : decode cX11_rest 45 = .ok (.iconst 1, 1) := by decide +kernel
theorem dX11_rest_46 : decode cX11_rest 46 = .ok (.iaload, 1) := by decide +kernel
theorem dX11_rest_47 : decode cX11_rest 47 = .ok (.istore_n 1, 1) := by decide +kernel
theorem dX11_rest_48 : decode cX11_rest 48 = .ok (.iconst 0, 1) := by decide +kernel
theorem dX11_rest_49 : decode cX11_rest 49 = .ok (.istore_n 2, 1) := by decide +kernel
theorem dX11_rest_50 : decode cX11_rest 50 = .ok (.iload_n 2, 1) := by decide +kernel
theorem dX11_rest_51 : decode cX11_rest 51 = .ok (.aload_n 0, 1) := by decide +kernel
theorem dX11_rest_52 : decode cX11_rest 52 = .ok (.invokevirtual 254, 3) := by decide +kernel
theorem dX11_rest_55 : decode cX11_rest 55 = .ok (.if_icmp .ge 29, 3) := by decide +kernel
theorem dX11_rest_58 : decode cX11_rest 58 = .ok (.iload_n 1, 1) := by decide +kernel
theorem dX11_rest_59 : decode cX11_rest 59 = .ok (.aload_n 0, 1) := by decide +kernel
theorem dX11_rest_60 : decode cX11_rest 60 = .ok (.getfield 41, 3) := by decide +kernel
theorem dX11_rest_63 : decode cX11_rest 63 = .ok (.bipush 41, 2) := by decide +kernel
theorem dX11_rest_65 : decode cX11_rest 65 = .ok (.iload_n 2, 1) := by decide +kernel
theorem dX11_rest_66 : decode cX11_rest 66 = .ok (.imul, 1) := by decide +kernel
theorem dX11_rest_67 : decode cX11_rest 67 = .ok (.iload_n 1, 1) := by decide +kernel
theorem dX11_rest_68 : decode cX11_rest 68 = .ok (.iadd, 1) := by decide +kernel
theorem dX11_rest_69 : decode cX11_rest 69 = .ok (.iaload, 1) := by decide +kernel
theorem dX11_rest_70 : decode cX11_rest 70 = .ok (.aload_n 0, 1) := by decide +kernel
theorem dX11_rest_71 : decode cX11_rest 71 = .ok (.iload_n 2, 1) := by decide +kernel
theorem dX11_rest_72 : decode cX11_rest 72 = .ok (.invokevirtual 266, 3) := by decide +kernel
theorem dX11_rest_75 : decode cX11_rest 75 = .ok (.isub, 1) := by decide +kernel
theorem dX11_rest_76 : decode cX11_rest 76 = .ok (.iadd, 1) := by decide +kernel
