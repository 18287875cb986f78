theorem dX5_word_109 : decode cX5_word 109 = .ok (.invokevirtual 151, 3) := by decide +kernel
theorem dX5_word_112 : decode cX5_word 112 = .ok (.lsub, 1) := by decide +kernel
theorem dX5_word_113 : decode cX5_word 113 = .ok (.lstore 6, 2) := by decide +kernel
theorem dX5_word_115 : decode cX5_word 115 = .ok (.iinc 8 1, 3) := by decide +kernel
theorem dX5_word_118 : decode cX5_word 118 = .ok (.goto (-42), 3) := by decide +kernel
theorem dX5_word_121 : decode cX5_word 121 = .ok (.aload_n 0, 1) := by decide +kernel
theorem dX5_word_122 : decode cX5_word 122 = .ok (.getfield 13, 3) := by decide +kernel
theorem dX5_word_125 : decode cX5_word 125 = .ok (.iconst 4, 1) := by decide +kernel
theorem dX5_word_126 : decode cX5_word 126 = .ok (.iload 5, 2) := by decide +kernel
theorem dX5_word_128 : decode cX5_word 128 = .ok (.imul, 1) := by decide +kernel
theorem dX5_word_129 : decode cX5_word 129 = .ok (.iload 8, 2) := by decide +kernel
theorem dX5_word_131 : decode cX5_word 131 = .ok (.iadd, 1) := by decide +kernel
theorem dX5_word_132 : decode cX5_word 132 = .ok (.iaload, 1) := by decide +kernel
theorem dX5_word_133 : decode cX5_word 133 = .ok (.istore 5, 2) := by decide +kernel
theorem dX5_word_135 : decode cX5_word 135 = .ok (.iinc 9 1, 3) := by decide +kernel
theorem dX5_word_138 : decode cX5_word 138 = .ok (.goto (-72), 3) := by decide +kernel
theorem dX5_word_141 : decode cX5_word 141 = .ok (.iload 8, 2) := by decide +kernel
theorem dX5_word_143 : decode cX5_word 143 = .ok (.ireturn, 1) := by decide +kernel
theorem dX5_goesOn_0 : decode cX5_goesOn 0 = .ok (.aload_n 0, 1) := by decide +kernel
theorem dX5_goesOn_1 : decode cX5_goesOn 1 = .ok (.getfield 13, 3) := by decide +kernel
theorem dX5_goesOn_4 : decode cX5_goesOn 4 = .ok (.iconst 4, 1) := by decide +kernel
theorem dX5_goesOn_5 : decode cX5_goesOn 5 = .ok (.iload_n 1, 1) := by decide +kernel
theorem dX5_goesOn_6 : decode cX5_goesOn 6 = .ok (.imul, 1) := by decide +kernel
theorem dX5_goesOn_7 : decode cX5_goesOn 7 = .ok (.iload_n 2, 1) := by decide +kernel
theorem dX5_goesOn_8 : decode cX5_goesOn 8 = .ok (.iadd, 1) := by decide +kernel
theorem dX5_goesOn_9 : decode cX5_goesOn 9 = .ok (.iaload, 1) := by decide +kernel
theorem dX5_goesOn_10 : decode cX5_goesOn 10 = .ok (.istore 4, 2) := by decide +kernel
theorem dX5_goesOn_12 : decode cX5_goesOn 12 = .ok (.iload 4, 2) := by decide +kernel
theorem dX5_goesOn_14 : decode cX5_goesOn 14 = .ok (.ifCond .ge 7, 3) := by decide +kernel
theorem dX5_goesOn_17 : decode cX5_goesOn 17 = .ok (.lconst 0, 1) := by decide +kernel
theorem dX5_goesOn_18 : decode cX5_goesOn 18 = .ok (.goto 15, 3) := by decide +kernel
theorem dX5_goesOn_21 : decode cX5_goesOn 21 = .ok (.aload_n 0, 1) := by decide +kernel
theorem dX5_goesOn_22 : decode cX5_goesOn 22 = .ok (.getfield 46, 3) := by decide +kernel
theorem dX5_goesOn_25 : decode cX5_goesOn 25 = .ok (.bipush 12, 2) := by decide +kernel
theorem dX5_goesOn_27 : decode cX5_goesOn 27 = .ok (.iload_n 3, 1) := by decide +kernel
theorem dX5_goesOn_28 : decode cX5_goesOn 28 = .ok (.imul, 1) := by decide +kernel
theorem dX5_goesOn_29 : decode cX5_goesOn 29 = .ok (.iload 4, 2) := by decide +kernel
theorem dX5_goesOn_31 : decode cX5_goesOn 31 = .ok (.iadd, 1) := by decide +kernel
theorem dX5_goesOn_32 : decode cX5_goesOn 32 = .ok (.laload, 1) := by decide +kernel
theorem dX5_goesOn_33 : decode cX5_goesOn 33 = .ok (.lreturn, 1) := by decide +kernel
set_option maxRecDepth 20000 in
theorem ggX5_rank_X5_in : GoodIn wsX5_rank wsX5_in := goodIn_r _ [10] (by decide +kernel) (by decide +kernel)
set_option maxRecDepth 20000 in
theorem gX5_rank_X5_in : GoodIn wsX5_rank (va_wsS RX5 67 yX5_in wsX5_in) := goodIn_app (goodIn_of _ (by decide +kernel)) ggX5_rank_X5_in
set_option maxRecDepth 20000 in
theorem ggX5_rank_X5_countWords : GoodIn wsX5_rank wsX5_countWords := goodIn_r _ [14, 15, 16, 6, 4, 21, 22, 23, 24, 25, 26, 27, 28, 29, 30, 31, 32, 33, 34, 35, 36, 37, 38, 39, 40] (by decide +kernel) (by decide +kernel)
set_option maxRecDepth 20000 in
theorem gX5_rank_X5_countWords : GoodIn wsX5_rank (wsV RX5 148 RX5 yX5_countWords wsX5_countWords) := goodIn_app (goodIn_of _ (by decide +kernel)) ggX5_rank_X5_countWords
set_option maxRecDepth 20000 in
theorem ggX5_rank_X5_goesOn : GoodIn wsX5_rank wsX5_goesOn := goodIn_r _ [20, 4, 16, 21, 22, 23, 24, 25, 26, 27, 28, 29, 30, 31, 32, 33, 34, 35, 36, 37, 38, 39, 40] (by decide +kernel) (by decide +kernel)
set_option maxRecDepth 20000 in
theorem gX5_rank_X5_goesOn : GoodIn wsX5_rank (wsV RX5 151 RX5 yX5_goesOn wsX5_goesOn) := goodIn_app (goodIn_of _ (by decide +kernel)) ggX5_rank_X5_goesOn
theorem dX5_rank_0 : decode cX5_rank 0 = .ok (.iload_n 1, 1) := by decide +kernel
theorem dX5_rank_1 : decode cX5_rank 1 = .ok (.i2l, 1) := by decide +kernel
theorem dX5_rank_2 : decode cX5_rank 2 = .ok (.lconst 0, 1) := by decide +kernel
theorem dX5_rank_3 : decode cX5_rank 3 = .ok (.ldc2_w 146, 3) := by decide +kernel
theorem dX5_rank_6 : decode cX5_rank 6 = .ok (.invokestatic 67, 3) := by decide +kernel
theorem dX5_rank_9 : decode cX5_rank 9 = .ok (.ifCond .ne 7, 3) := by decide +kernel
theorem dX5_rank_12 : decode cX5_rank 12 = .ok (.ldc2_w 89, 3) := by decide +kernel
theorem dX5_rank_15 : decode cX5_rank 15 = .ok (.lreturn, 1) := by decide +kernel
theorem dX5_rank_16 : decode cX5_rank 16 = .ok (.aload_n 0, 1) := by decide +kernel
theorem dX5_rank_17 : decode cX5_rank 17 = .ok (.iload_n 1, 1) := by decide +kernel
theorem dX5_rank_18 : decode cX5_rank 18 = .ok (.invokevirtual 148, 3) := by decide +kernel
theorem dX5_rank_21 : decode cX5_rank 21 = .ok (.iconst 0, 1) := by decide +kernel
theorem dX5_rank_22 : decode cX5_rank 22 = .ok (.istore 4, 2) := by decide +kernel
theorem dX5_rank_24 : decode cX5_rank 24 = .ok (.lconst 0, 1) := by decide +kernel
theorem dX5_rank_25 : decode cX5_rank 25 = .ok (.lstore 5, 2) := by decide +kernel
theorem dX5_rank_27 : decode cX5_rank 27 = .ok (.iconst 0, 1) := by decide +kernel
theorem dX5_rank_28 : decode cX5_rank 28 = .ok (.istore 7, 2) := by decide +kernel
theorem dX5_rank_30 : decode cX5_rank 30 = .ok (.iload 7, 2) := by decide +kernel
theorem dX5_rank_32 : decode cX5_rank 32 = .ok (.iload_n 1, 1) := by decide +kernel
theorem dX5_rank_33 : decode cX5_rank 33 = .ok (.if_icmp .ge 80, 3) := by decide +kernel
theorem dX5_rank_36 : decode cX5_rank 36 = .ok (.lload_n 2, 1) := by decide +kernel
theorem dX5_rank_37 : decode cX5_rank 37 = .ok (.iconst 2, 1) := by decide +kernel
theorem dX5_rank_38 : decode cX5_rank 38 = .ok (.iload 7, 2) := by decide +kernel
theorem dX5_rank_40 : decode cX5_rank 40 = .ok (.imul, 1) := by decide +kernel
theorem dX5_rank_41 : decode cX5_rank 41 = .ok (.lshr, 1) := by decide +kernel
theorem dX5_rank_42 : decode cX5_rank 42 = .ok (.ldc2_w 144, 3) := by decide +kernel
theorem dX5_rank_45 : decode cX5_rank 45 = .ok (.land, 1) := by decide +kernel
theorem dX5_rank_46 : decode cX5_rank 46 = .ok (.l2i, 1) := by decide +kernel
theorem dX5_rank_47 : decode cX5_rank 47 = .ok (.istore 8, 2) := by decide +kernel
theorem dX5_rank_49 : decode cX5_rank 49 = .ok (.iconst 0, 1) := by decide +kernel
theorem dX5_rank_50 : decode cX5_rank 50 = .ok (.istore 9, 2) := by decide +kernel
theorem dX5_rank_52 : decode cX5_rank 52 = .ok (.iload 9, 2) := by decide +kernel
theorem dX5_rank_54 : decode cX5_rank 54 = .ok (.iload 8, 2) := by decide +kernel
theorem dX5_rank_56 : decode cX5_rank 56 = .ok (.if_icmp .ge 28, 3) := by decide +kernel
theorem dX5_rank_59 : decode cX5_rank 59 = .ok (.lload 5, 2) := by decide +kernel
theorem dX5_rank_61 : decode cX5_rank 61 = .ok (.aload_n 0, 1) := by decide +kernel
theorem dX5_rank_62 : decode cX5_rank 62 = .ok (.iload 4, 2) := by decide +kernel
theorem dX5_rank_64 : decode cX5_rank 64 = .ok (.iload 9, 2) := by decide +kernel
theorem dX5_rank_66 : decode cX5_rank 66 = .ok (.iload_n 1, 1) := by decide +kernel
theorem dX5_rank_67 : decode cX5_rank 67 = .ok (.iload 7, 2) := by decide +kernel
theorem dX5_rank_69 : decode cX5_rank 69 = .ok (.isub, 1) := by decide +kernel
theorem dX5_rank_70 : decode cX5_rank 70 = .ok (.iconst 1, 1) := by decide +kernel
theorem dX5_rank_71 : decode cX5_rank 71 = .ok (.isub, 1) := by decide +kernel
theorem dX5_rank_72 : decode cX5_rank 72 = .ok (.invokevirtual 151, 3) := by decide +kernel
theorem dX5_rank_75 : decode cX5_rank 75 = .ok (.ladd, 1) := by decide +kernel
theorem dX5_rank_76 : decode cX5_rank 76 = .ok (.lstore 5, 2) := by decide +kernel
theorem dX5_rank_78 : decode cX5_rank 78 = .ok (.iinc 9 1, 3) := by decide +kernel
theorem dX5_rank_81 : decode cX5_rank 81 = .ok (.goto (-29), 3) := by decide +kernel
theorem dX5_rank_84 : decode cX5_rank 84 = .ok (.aload_n 0, 1) := by decide +kernel
theorem dX5_rank_85 : decode cX5_rank 85 = .ok (.getfield 13, 3) := by decide +kernel
theorem dX5_rank_88 : decode cX5_rank 88 = .ok (.iconst 4, 1) := by decide +kernel
theorem dX5_rank_89 : decode cX5_rank 89 = .ok (.iload 4, 2) := by decide +kernel
theorem dX5_rank_91 : decode cX5_rank 91 = .ok (.imul, 1) := by decide +kernel
theorem dX5_rank_92 : decode cX5_rank 92 = .ok (.iload 8, 2) := by decide +kernel
theorem dX5_rank_94 : decode cX5_rank 94 = .ok (.iadd, 1) := by decide +kernel
theorem dX5_rank_95 : decode cX5_rank 95 = .ok (.iaload, 1) := by decide +kernel
theorem dX5_rank_96 : decode cX5_rank 96 = .ok (.istore 4, 2) := by decide +kernel
theorem dX5_rank_98 : decode cX5_rank 98 = .ok (.iload 4, 2) := by decide +kernel
theorem dX5_rank_100 : decode cX5_rank 100 = .ok (.ifCond .ge 7, 3) := by decide +kernel
theorem dX5_rank_103 : decode cX5_rank 103 = .ok (.ldc2_w 155, 3) := by decide +kernel
theorem dX5_rank_106 : decode cX5_rank 106 = .ok (.lreturn, 1) := by decide +kernel
theorem dX5_rank_107 : decode cX5_rank 107 = .ok (.iinc 7 1, 3) := by decide +kernel
theorem dX5_rank_110 : decode cX5_rank 110 = .ok (.goto (-80), 3) := by decide +kernel
theorem dX5_rank_113 : decode cX5_rank 113 = .ok (.aload_n 0, 1) := by decide +kernel
theorem dX5_rank_114 : decode cX5_rank 114 = .ok (.getfield 16, 3) := by decide +kernel
theorem dX5_rank_117 : decode cX5_rank 117 = .ok (.iload 4, 2) := by decide +kernel
theorem dX5_rank_119 : decode cX5_rank 119 = .ok (.baload, 1) := by decide +kernel
theorem dX5_rank_120 : decode cX5_rank 120 = .ok (.ifCond .eq 8, 3) := by decide +kernel
theorem dX5_rank_123 : decode cX5_rank 123 = .ok (.lload 5, 2) := by decide +kernel
theorem dX5_rank_125 : decode cX5_rank 125 = .ok (.goto 6, 3) := by decide +kernel
theorem dX5_rank_128 : decode cX5_rank 128 = .ok (.ldc2_w 155, 3) := by decide +kernel
theorem dX5_rank_131 : decode cX5_rank 131 = .ok (.lreturn, 1) := by decide +kernel
set_option maxRecDepth 20000 in
theorem ggX5_allow_X5_in : GoodIn wsX5_allow wsX5_in := goodIn_r _ [6] (by decide +kernel) (by decide +kernel)
set_option maxRecDepth 20000 in
theorem gX5_allow_X5_in : GoodIn wsX5_allow (va_wsS RX5 67 yX5_in wsX5_in) := goodIn_app (goodIn_of _ (by decide +kernel)) ggX5_allow_X5_in
theorem dX5_allow_0 : decode cX5_allow 0 = .ok (.iload_n 1, 1) := by decide +kernel
theorem dX5_allow_1 : decode cX5_allow 1 = .ok (.i2l, 1) := by decide +kernel
theorem dX5_allow_2 : decode cX5_allow 2 = .ok (.lconst 0, 1) := by decide +kernel
theorem dX5_allow_3 : decode cX5_allow 3 = .ok (.ldc2_w 99, 3) := by decide +kernel
theorem dX5_allow_6 : decode cX5_allow 6 = .ok (.invokestatic 67, 3) := by decide +kernel
theorem dX5_allow_9 : decode cX5_allow 9 = .ok (.ifCond .eq 15, 3) := by decide +kernel
theorem dX5_allow_12 : decode cX5_allow 12 = .ok (.iload_n 2, 1) := by decide +kernel
theorem dX5_allow_13 : decode cX5_allow 13 = .ok (.i2l, 1) := by decide +kernel
theorem dX5_allow_14 : decode cX5_allow 14 = .ok (.lconst 0, 1) := by decide +kernel
theorem dX5_allow_15 : decode cX5_allow 15 = .ok (.ldc2_w 99, 3) := by decide +kernel
theorem dX5_allow_18 : decode cX5_allow 18 = .ok (.invokestatic 67, 3) := by decide +kernel
theorem dX5_allow_21 : decode cX5_allow 21 = .ok (.ifCond .ne 5, 3) := by decide +kernel
theorem dX5_allow_24 : decode cX5_allow 24 = .ok (.iconst (-1), 1) := by decide +kernel
theorem dX5_allow_25 : decode cX5_allow 25 = .ok (.ireturn, 1) := by decide +kernel
theorem dX5_allow_26 : decode cX5_allow 26 = .ok (.aload_n 0, 1) := by decide +kernel
theorem dX5_allow_27 : decode cX5_allow 27 = .ok (.getfield 20, 3) := by decide +kernel
theorem dX5_allow_30 : decode cX5_allow 30 = .ok (.bipush 8, 2) := by decide +kernel
theorem dX5_allow_32 : decode cX5_allow 32 = .ok (.iload_n 1, 1) := by decide +kernel
theorem dX5_allow_33 : decode cX5_allow 33 = .ok (.imul, 1) := by decide +kernel
theorem dX5_allow_34 : decode cX5_allow 34 = .ok (.iload_n 2, 1) := by decide +kernel
theorem dX5_allow_35 : decode cX5_allow 35 = .ok (.iadd, 1) := by decide +kernel
theorem dX5_allow_36 : decode cX5_allow 36 = .ok (.baload, 1) := by decide +kernel
theorem dX5_allow_37 : decode cX5_allow 37 = .ok (.istore 4, 2) := by decide +kernel
theorem dX5_allow_39 : decode cX5_allow 39 = .ok (.aload_n 0, 1) := by decide +kernel
theorem dX5_allow_40 : decode cX5_allow 40 = .ok (.getfield 20, 3) := by decide +kernel
theorem dX5_allow_43 : decode cX5_allow 43 = .ok (.bipush 8, 2) := by decide +kernel
theorem dX5_allow_45 : decode cX5_allow 45 = .ok (.iload_n 1, 1) := by decide +kernel
theorem dX5_allow_46 : decode cX5_allow 46 = .ok (.imul, 1) := by decide +kernel
theorem dX5_allow_47 : decode cX5_allow 47 = .ok (.iload_n 2, 1) := by decide +kernel
theorem dX5_allow_48 : decode cX5_allow 48 = .ok (.iadd, 1) := by decide +kernel
theorem dX5_allow_49 : decode cX5_allow 49 = .ok (.iload_n 3, 1) := by decide +kernel
theorem dX5_allow_50 : decode cX5_allow 50 = .ok (.bastore, 1) := by decide +kernel
theorem dX5_allow_51 : decode cX5_allow 51 = .ok (.iload 4, 2) := by decide +kernel
theorem dX5_allow_53 : decode cX5_allow 53 = .ok (.ifCond .eq 7, 3) := by decide +kernel
theorem dX5_allow_56 : decode cX5_allow 56 = .ok (.iconst 1, 1) := by decide +kernel
theorem dX5_allow_57 : decode cX5_allow 57 = .ok (.goto 4, 3) := by decide +kernel
theorem dX5_allow_60 : decode cX5_allow 60 = .ok (.iconst 0, 1) := by decide +kernel
theorem dX5_allow_61 : decode cX5_allow 61 = .ok (.ireturn, 1) := by decide +kernel
theorem dX5_countWays_0 : decode cX5_countWays 0 = .ok (.iconst 1, 1) := by decide +kernel
theorem dX5_countWays_1 : decode cX5_countWays 1 = .ok (.iload_n 1, 1) := by decide +kernel
theorem dX5_countWays_2 : decode cX5_countWays 2 = .ok (.ishl, 1) := by decide +kernel
theorem dX5_countWays_3 : decode cX5_countWays 3 = .ok (.iconst 1, 1) := by decide +kernel
theorem dX5_countWays_4 : decode cX5_countWays 4 = .ok (.isub, 1) := by decide +kernel
theorem dX5_countWays_5 : decode cX5_countWays 5 = .ok (.istore_n 2, 1) := by decide +kernel
theorem dX5_countWays_6 : decode cX5_countWays 6 = .ok (.iload_n 2, 1) := by decide +kernel
theorem dX5_countWays_7 : decode cX5_countWays 7 = .ok (.ifCond .lt 119, 3) := by decide +kernel
theorem dX5_countWays_10 : decode cX5_countWays 10 = .ok (.iconst 0, 1) := by decide +kernel
theorem dX5_countWays_11 : decode cX5_countWays 11 = .ok (.istore_n 3, 1) := by decide +kernel
theorem dX5_countWays_12 : decode cX5_countWays 12 = .ok (.iconst 0, 1) := by decide +kernel
theorem dX5_countWays_13 : decode cX5_countWays 13 = .ok (.istore 4, 2) := by decide +kernel
theorem dX5_countWays_15 : decode cX5_countWays 15 = .ok (.iload 4, 2) := by decide +kernel
theorem dX5_countWays_17 : decode cX5_countWays 17 = .ok (.iload_n 1, 1) := by decide +kernel
theorem dX5_countWays_18 : decode cX5_countWays 18 = .ok (.if_icmp .ge 18, 3) := by decide +kernel
theorem dX5_countWays_21 : decode cX5_countWays 21 = .ok (.iload_n 3, 1) := by decide +kernel
theorem dX5_countWays_22 : decode cX5_countWays 22 = .ok (.iload_n 2, 1) := by decide +kernel
theorem dX5_countWays_23 : decode cX5_countWays 23 = .ok (.iload 4, 2) := by decide +kernel
theorem dX5_countWays_25 : decode cX5_countWays 25 = .ok (.ishr, 1) := by decide +kernel
theorem dX5_countWays_26 : decode cX5_countWays 26 = .ok (.iconst 1, 1) := by decide +kernel
theorem dX5_countWays_27 : decode cX5_countWays 27 = .ok (.iand, 1) := by decide +kernel
theorem dX5_countWays_28 : decode cX5_countWays 28 = .ok (.iadd, 1) := by decide +kernel
theorem dX5_countWays_29 : decode cX5_countWays 29 = .ok (.istore_n 3, 1) := by decide +kernel
theorem dX5_countWays_30 : decode cX5_countWays 30 = .ok (.iinc 4 1, 3) := by decide +kernel
theorem dX5_countWays_33 : decode cX5_countWays 33 = .ok (.goto (-18), 3) := by decide +kernel
theorem dX5_countWays_36 : decode cX5_countWays 36 = .ok (.aload_n 0, 1) := by decide +kernel
theorem dX5_countWays_37 : decode cX5_countWays 37 = .ok (.getfield 49, 3) := by decide +kernel
theorem dX5_countWays_40 : decode cX5_countWays 40 = .ok (.iload_n 2, 1) := by decide +kernel
theorem dX5_countWays_41 : decode cX5_countWays 41 = .ok (.iload_n 3, 1) := by decide +kernel
theorem dX5_countWays_42 : decode cX5_countWays 42 = .ok (.iload_n 1, 1) := by decide +kernel
theorem dX5_countWays_43 : decode cX5_countWays 43 = .ok (.if_icmp .ne 7, 3) := by decide +kernel
theorem dX5_countWays_46 : decode cX5_countWays 46 = .ok (.iconst 1, 1) := by decide +kernel
theorem dX5_countWays_47 : decode cX5_countWays 47 = .ok (.goto 4, 3) := by decide +kernel
theorem dX5_countWays_50 : decode cX5_countWays 50 = .ok (.iconst 0, 1) := by decide +kernel
theorem dX5_countWays_51 : decode cX5_countWays 51 = .ok (.iastore, 1) := by decide +kernel
theorem dX5_countWays_52 : decode cX5_countWays 52 = .ok (.iconst 0, 1) := by decide +kernel
theorem dX5_countWays_53 : decode cX5_countWays 53 = .ok (.istore 4, 2) := by decide +kernel
theorem dX5_countWays_55 : decode cX5_countWays 55 = .ok (.iload 4, 2) := by decide +kernel
theorem dX5_countWays_57 : decode cX5_countWays 57 = .ok (.iload_n 1, 1) := by decide +kernel
theorem dX5_countWays_58 : decode cX5_countWays 58 = .ok (.if_icmp .ge 62, 3) := by decide +kernel
theorem dX5_countWays_61 : decode cX5_countWays 61 = .ok (.aload_n 0, 1) := by decide +kernel
theorem dX5_countWays_62 : decode cX5_countWays 62 = .ok (.getfield 49, 3) := by decide +kernel
theorem dX5_countWays_65 : decode cX5_countWays 65 = .ok (.iload_n 2, 1) := by decide +kernel
theorem dX5_countWays_66 : decode cX5_countWays 66 = .ok (.dup2, 1) := by decide +kernel
theorem dX5_countWays_67 : decode cX5_countWays 67 = .ok (.iaload, 1) := by decide +kernel
theorem dX5_countWays_68 : decode cX5_countWays 68 = .ok (.iload_n 3, 1) := by decide +kernel
theorem dX5_countWays_69 : decode cX5_countWays 69 = .ok (.iload_n 1, 1) := by decide +kernel
theorem dX5_countWays_70 : decode cX5_countWays 70 = .ok (.if_icmp .ge 41, 3) := by decide +kernel
theorem dX5_countWays_73 : decode cX5_countWays 73 = .ok (.iload_n 2, 1) := by decide +kernel
theorem dX5_countWays_74 : decode cX5_countWays 74 = .ok (.iload 4, 2) := by decide +kernel
theorem dX5_countWays_76 : decode cX5_countWays 76 = .ok (.ishr, 1) := by decide +kernel
theorem dX5_countWays_77 : decode cX5_countWays 77 = .ok (.iconst 1, 1) := by decide +kernel
theorem dX5_countWays_78 : decode cX5_countWays 78 = .ok (.iand, 1) := by decide +kernel
theorem dX5_countWays_79 : decode cX5_countWays 79 = .ok (.ifCond .ne 32, 3) := by decide +kernel
theorem dX5_countWays_82 : decode cX5_countWays 82 = .ok (.aload_n 0, 1) := by decide +kernel
theorem dX5_countWays_83 : decode cX5_countWays 83 = .ok (.getfield 20, 3) := by decide +kernel
theorem dX5_countWays_86 : decode cX5_countWays 86 = .ok (.bipush 8, 2) := by decide +kernel
theorem dX5_countWays_88 : decode cX5_countWays 88 = .ok (.iload_n 3, 1) := by decide +kernel
theorem dX5_countWays_89 : decode cX5_countWays 89 = .ok (.imul, 1) := by decide +kernel
theorem dX5_countWays_90 : decode cX5_countWays 90 = .ok (.iload 4, 2) := by decide +kernel
theorem dX5_countWays_92 : decode cX5_countWays 92 = .ok (.iadd, 1) := by decide +kernel
theorem dX5_countWays_93 : decode cX5_countWays 93 = .ok (.baload, 1) := by decide +kernel
theorem dX5_countWays_94 : decode cX5_countWays 94 = .ok (.ifCond .eq 17, 3) := by decide +kernel
theorem dX5_countWays_97 : decode cX5_countWays 97 = .ok (.aload_n 0, 1) := by decide +kernel
theorem dX5_countWays_98 : decode cX5_countWays 98 = .ok (.getfield 49, 3) := by decide +kernel
theorem dX5_countWays_101 : decode cX5_countWays 101 = .ok (.iload_n 2, 1) := by decide +kernel
theorem dX5_countWays_102 : decode cX5_countWays 102 = .ok (.iconst 1, 1) := by decide +kernel
theorem dX5_countWays_103 : decode cX5_countWays 103 = .ok (.iload 4, 2) := by decide +kernel
theorem dX5_countWays_105 : decode cX5_countWays 105 = .ok (.ishl, 1) := by decide +kernel
theorem dX5_countWays_106 : decode cX5_countWays 106 = .ok (.ior, 1) := by decide +kernel
theorem dX5_countWays_107 : decode cX5_countWays 107 = .ok (.iaload, 1) := by decide +kernel
theorem dX5_countWays_108 : decode cX5_countWays 108 = .ok (.goto 4, 3) := by decide +kernel
theorem dX5_countWays_111 : decode cX5_countWays 111 = .ok (.iconst 0, 1) := by decide +kernel
theorem dX5_countWays_112 : decode cX5_countWays 112 = .ok (.iadd, 1) := by decide +kernel
theorem dX5_countWays_113 : decode cX5_countWays 113 = .ok (.iastore, 1) := by decide +kernel
theorem dX5_countWays_114 : decode cX5_countWays 114 = .ok (.iinc 4 1, 3) := by decide +kernel
theorem dX5_countWays_117 : decode cX5_countWays 117 = .ok (.goto (-62), 3) := by decide +kernel
theorem dX5_countWays_120 : decode cX5_countWays 120 = .ok (.iinc 2 (-1), 3) := by decide +kernel
theorem dX5_countWays_123 : decode cX5_countWays 123 = .ok (.goto (-117), 3) := by decide +kernel
theorem dX5_countWays_126 : decode cX5_countWays 126 = .ok (.return_, 1) := by decide +kernel
theorem dX5_wayOn_0 : decode cX5_wayOn 0 = .ok (.iload_n 1, 1) := by decide +kernel
theorem dX5_wayOn_1 : decode cX5_wayOn 1 = .ok (.iload_n 3, 1) := by decide +kernel
theorem dX5_wayOn_2 : decode cX5_wayOn 2 = .ok (.ishr, 1) := by decide +kernel
theorem dX5_wayOn_3 : decode cX5_wayOn 3 = .ok (.iconst 1, 1) := by decide +kernel
theorem dX5_wayOn_4 : decode cX5_wayOn 4 = .ok (.iand, 1) := by decide +kernel
theorem dX5_wayOn_5 : decode cX5_wayOn 5 = .ok (.ifCond .ne 30, 3) := by decide +kernel
theorem dX5_wayOn_8 : decode cX5_wayOn 8 = .ok (.aload_n 0, 1) := by decide +kernel
theorem dX5_wayOn_9 : decode cX5_wayOn 9 = .ok (.getfield 20, 3) := by decide +kernel
theorem dX5_wayOn_12 : decode cX5_wayOn 12 = .ok (.bipush 8, 2) := by decide +kernel
theorem dX5_wayOn_14 : decode cX5_wayOn 14 = .ok (.iload_n 2, 1) := by decide +kernel
theorem dX5_wayOn_15 : decode cX5_wayOn 15 = .ok (.imul, 1) := by decide +kernel
theorem dX5_wayOn_16 : decode cX5_wayOn 16 = .ok (.iload_n 3, 1) := by decide +kernel
theorem dX5_wayOn_17 : decode cX5_wayOn 17 = .ok (.iadd, 1) := by decide +kernel
theorem dX5_wayOn_18 : decode cX5_wayOn 18 = .ok (.baload, 1) := by decide +kernel
theorem dX5_wayOn_19 : decode cX5_wayOn 19 = .ok (.ifCond .eq 16, 3) := by decide +kernel
theorem dX5_wayOn_22 : decode cX5_wayOn 22 = .ok (.aload_n 0, 1) := by decide +kernel
theorem dX5_wayOn_23 : decode cX5_wayOn 23 = .ok (.getfield 49, 3) := by decide +kernel
theorem dX5_wayOn_26 : decode cX5_wayOn 26 = .ok (.iload_n 1, 1) := by decide +kernel
theorem dX5_wayOn_27 : decode cX5_wayOn 27 = .ok (.iconst 1, 1) := by decide +kernel
theorem dX5_wayOn_28 : decode cX5_wayOn 28 = .ok (.iload_n 3, 1) := by decide +kernel
theorem dX5_wayOn_29 : decode cX5_wayOn 29 = .ok (.ishl, 1) := by decide +kernel
theorem dX5_wayOn_30 : decode cX5_wayOn 30 = .ok (.ior, 1) := by decide +kernel
theorem dX5_wayOn_31 : decode cX5_wayOn 31 = .ok (.iaload, 1) := by decide +kernel
theorem dX5_wayOn_32 : decode cX5_wayOn 32 = .ok (.goto 4, 3) := by decide +kernel
theorem dX5_wayOn_35 : decode cX5_wayOn 35 = .ok (.iconst 0, 1) := by decide +kernel
theorem dX5_wayOn_36 : decode cX5_wayOn 36 = .ok (.ireturn, 1) := by decide +kernel
set_option maxRecDepth 20000 in
theorem ggX5_permutations_X5_in : GoodIn wsX5_permutations wsX5_in := goodIn_r _ [6] (by decide +kernel) (by decide +kernel)
set_option maxRecDepth 20000 in
theorem gX5_permutations_X5_in : GoodIn wsX5_permutations (va_wsS RX5 67 yX5_in wsX5_in) := goodIn_app (goodIn_of _ (by decide +kernel)) ggX5_permutations_X5_in
set_option maxRecDepth 20000 in
theorem ggX5_permutations_X5_countWays : GoodIn wsX5_permutations wsX5_countWays := goodIn_r _ [10, 2, 11, 12, 13, 14, 15, 16, 17, 18, 19, 20, 21, 22, 23, 24, 25, 26, 27, 28, 29, 30, 31] (by decide +kernel) (by decide +kernel)
set_option maxRecDepth 20000 in
theorem gX5_permutations_X5_countWays : GoodIn wsX5_permutations (wsV RX5 159 RX5 yX5_countWays wsX5_countWays) := goodIn_app (goodIn_of _ (by decide +kernel)) ggX5_permutations_X5_countWays
theorem dX5_permutations_0 : decode cX5_permutations 0 = .ok (.iload_n 1, 1) := by decide +kernel
theorem dX5_permutations_1 : decode cX5_permutations 1 = .ok (.i2l, 1) := by decide +kernel
theorem dX5_permutations_2 : decode cX5_permutations 2 = .ok (.lconst 1, 1) := by decide +kernel
theorem dX5_permutations_3 : decode cX5_permutations 3 = .ok (.ldc2_w 157, 3) := by decide +kernel
theorem dX5_permutations_6 : decode cX5_permutations 6 = .ok (.invokestatic 67, 3) := by decide +kernel
theorem dX5_permutations_9 : decode cX5_permutations 9 = .ok (.ifCond .ne 5, 3) := by decide +kernel
theorem dX5_permutations_12 : decode cX5_permutations 12 = .ok (.iconst (-1), 1) := by decide +kernel
theorem dX5_permutations_13 : decode cX5_permutations 13 = .ok (.ireturn, 1) := by decide +kernel
theorem dX5_permutations_14 : decode cX5_permutations 14 = .ok (.aload_n 0, 1) := by decide +kernel
theorem dX5_permutations_15 : decode cX5_permutations 15 = .ok (.iload_n 1, 1) := by decide +kernel
theorem dX5_permutations_16 : decode cX5_permutations 16 = .ok (.invokevirtual 159, 3) := by decide +kernel
theorem dX5_permutations_19 : decode cX5_permutations 19 = .ok (.aload_n 0, 1) := by decide +kernel
theorem dX5_permutations_20 : decode cX5_permutations 20 = .ok (.getfield 49, 3) := by decide +kernel
theorem dX5_permutations_23 : decode cX5_permutations 23 = .ok (.iconst 0, 1) := by decide +kernel
theorem dX5_permutations_24 : decode cX5_permutations 24 = .ok (.iaload, 1) := by decide +kernel
theorem dX5_permutations_25 : decode cX5_permutations 25 = .ok (.ireturn, 1) := by decide +kernel
set_option maxRecDepth 20000 in
theorem ggX5_permutation_X5_in : GoodIn wsX5_permutation wsX5_in := goodIn_r _ [6] (by decide +kernel) (by decide +kernel)
set_option maxRecDepth 20000 in
theorem gX5_permutation_X5_in : GoodIn wsX5_permutation (va_wsS RX5 67 yX5_in wsX5_in) := goodIn_app (goodIn_of _ (by decide +kernel)) ggX5_permutation_X5_in
set_option maxRecDepth 20000 in
theorem ggX5_permutation_X5_countWays : GoodIn wsX5_permutation wsX5_countWays := goodIn_r _ [10, 2, 11, 16, 17, 18, 19, 20, 21, 22, 23, 24, 25, 26, 27, 28, 29, 30, 31, 32, 33, 34, 35] (by decide +kernel) (by decide +kernel)
set_option maxRecDepth 20000 in
theorem gX5_permutation_X5_countWays : GoodIn wsX5_permutation (wsV RX5 159 RX5 yX5_countWays wsX5_countWays) := goodIn_app (goodIn_of _ (by decide +kernel)) ggX5_permutation_X5_countWays
set_option maxRecDepth 20000 in
theorem ggX5_permutation_X5_wayOn : GoodIn wsX5_permutation wsX5_wayOn := goodIn_r _ [15, 11, 2, 16, 17, 18, 19, 20, 21, 22, 23, 24, 25, 26, 27, 28, 29, 30, 31, 32, 33, 34, 35] (by decide +kernel) (by decide +kernel)
set_option maxRecDepth 20000 in
theorem gX5_permutation_X5_wayOn : GoodIn wsX5_permutation (wsV RX5 162 RX5 yX5_wayOn wsX5_wayOn) := goodIn_app (goodIn_of _ (by decide +kernel)) ggX5_permutation_X5_wayOn
theorem dX5_permutation_0 : decode cX5_permutation 0 = .ok (.iload_n 1, 1) := by decide +kernel
theorem dX5_permutation_1 : decode cX5_permutation 1 = .ok (.i2l, 1) := by decide +kernel
theorem dX5_permutation_2 : decode cX5_permutation 2 = .ok (.lconst 1, 1) := by decide +kernel
theorem dX5_permutation_3 : decode cX5_permutation 3 = .ok (.ldc2_w 157, 3) := by decide +kernel
theorem dX5_permutation_6 : decode cX5_permutation 6 = .ok (.invokestatic 67, 3) := by decide +kernel
theorem dX5_permutation_9 : decode cX5_permutation 9 = .ok (.ifCond .eq 16, 3) := by decide +kernel
theorem dX5_permutation_12 : decode cX5_permutation 12 = .ok (.iload_n 3, 1) := by decide +kernel
theorem dX5_permutation_13 : decode cX5_permutation 13 = .ok (.i2l, 1) := by decide +kernel
theorem dX5_permutation_14 : decode cX5_permutation 14 = .ok (.lconst 0, 1) := by decide +kernel
theorem dX5_permutation_15 : decode cX5_permutation 15 = .ok (.iload_n 1, 1) := by decide +kernel
theorem dX5_permutation_16 : decode cX5_permutation 16 = .ok (.iconst 1, 1) := by decide +kernel
theorem dX5_permutation_17 : decode cX5_permutation 17 = .ok (.isub, 1) := by decide +kernel
theorem dX5_permutation_18 : decode cX5_permutation 18 = .ok (.i2l, 1) := by decide +kernel
theorem dX5_permutation_19 : decode cX5_permutation 19 = .ok (.invokestatic 67, 3) := by decide +kernel
theorem dX5_permutation_22 : decode cX5_permutation 22 = .ok (.ifCond .ne 5, 3) := by decide +kernel
theorem dX5_permutation_25 : decode cX5_permutation 25 = .ok (.iconst (-1), 1) := by decide +kernel
theorem dX5_permutation_26 : decode cX5_permutation 26 = .ok (.ireturn, 1) := by decide +kernel
theorem dX5_permutation_27 : decode cX5_permutation 27 = .ok (.aload_n 0, 1) := by decide +kernel
theorem dX5_permutation_28 : decode cX5_permutation 28 = .ok (.iload_n 1, 1) := by decide +kernel
theorem dX5_permutation_29 : decode cX5_permutation 29 = .ok (.invokevirtual 159, 3) := by decide +kernel
theorem dX5_permutation_32 : decode cX5_permutation 32 = .ok (.iload_n 2, 1) := by decide +kernel
theorem dX5_permutation_33 : decode cX5_permutation 33 = .ok (.i2l, 1) := by decide +kernel
theorem dX5_permutation_34 : decode cX5_permutation 34 = .ok (.lconst 0, 1) := by decide +kernel
theorem dX5_permutation_35 : decode cX5_permutation 35 = .ok (.aload_n 0, 1) := by decide +kernel
theorem dX5_permutation_36 : decode cX5_permutation 36 = .ok (.getfield 49, 3) := by decide +kernel
theorem dX5_permutation_39 : decode cX5_permutation 39 = .ok (.iconst 0, 1) := by decide +kernel
theorem dX5_permutation_40 : decode cX5_permutation 40 = .ok (.iaload, 1) := by decide +kernel
theorem dX5_permutation_41 : decode cX5_permutation 41 = .ok (.iconst 1, 1) := by decide +kernel
theorem dX5_permutation_42 : decode cX5_permutation 42 = .ok (.isub, 1) := by decide +kernel
theorem dX5_permutation_43 : decode cX5_permutation 43 = .ok (.i2l, 1) := by decide +kernel
theorem dX5_permutation_44 : decode cX5_permutation 44 = .ok (.invokestatic 67, 3) := by decide +kernel
theorem dX5_permutation_47 : decode cX5_permutation 47 = .ok (.ifCond .ne 5, 3) := by decide +kernel
theorem dX5_permutation_50 : decode cX5_permutation 50 = .ok (.iconst (-1), 1) := by decide +kernel
theorem dX5_permutation_51 : decode cX5_permutation 51 = .ok (.ireturn, 1) := by decide +kernel
theorem dX5_permutation_52 : decode cX5_permutation 52 = .ok (.iconst 0, 1) := by decide +kernel
theorem dX5_permutation_53 : decode cX5_permutation 53 = .ok (.istore 4, 2) := by decide +kernel
theorem dX5_permutation_55 : decode cX5_permutation 55 = .ok (.iload_n 2, 1) := by decide +kernel
theorem dX5_permutation_56 : decode cX5_permutation 56 = .ok (.istore 5, 2) := by decide +kernel
theorem dX5_permutation_58 : decode cX5_permutation 58 = .ok (.iconst 0, 1) := by decide +kernel
theorem dX5_permutation_59 : decode cX5_permutation 59 = .ok (.istore 6, 2) := by decide +kernel
theorem dX5_permutation_61 : decode cX5_permutation 61 = .ok (.iconst 0, 1) := by decide +kernel
theorem dX5_permutation_62 : decode cX5_permutation 62 = .ok (.istore 7, 2) := by decide +kernel
theorem dX5_permutation_64 : decode cX5_permutation 64 = .ok (.iload 7, 2) := by decide +kernel
theorem dX5_permutation_66 : decode cX5_permutation 66 = .ok (.iload_n 3, 1) := by decide +kernel
theorem dX5_permutation_67 : decode cX5_permutation 67 = .ok (.if_icmp .gt 57, 3) := by decide +kernel
theorem dX5_permutation_70 : decode cX5_permutation 70 = .ok (.iconst 0, 1) := by decide +kernel
theorem dX5_permutation_71 : decode cX5_permutation 71 = .ok (.istore 6, 2) := by decide +kernel
theorem dX5_permutation_73 : decode cX5_permutation 73 = .ok (.iload 5, 2) := by decide +kernel
theorem dX5_permutation_75 : decode cX5_permutation 75 = .ok (.aload_n 0, 1) := by decide +kernel
theorem dX5_permutation_76 : decode cX5_permutation 76 = .ok (.iload 4, 2) := by decide +kernel
theorem dX5_permutation_78 : decode cX5_permutation 78 = .ok (.iload 7, 2) := by decide +kernel
theorem dX5_permutation_80 : decode cX5_permutation 80 = .ok (.iload 6, 2) := by decide +kernel
theorem dX5_permutation_82 : decode cX5_permutation 82 = .ok (.invokevirtual 162, 3) := by decide +kernel
theorem dX5_permutation_85 : decode cX5_permutation 85 = .ok (.if_icmp .lt 24, 3) := by decide +kernel
theorem dX5_permutation_88 : decode cX5_permutation 88 = .ok (.iload 5, 2) := by decide +kernel
theorem dX5_permutation_90 : decode cX5_permutation 90 = .ok (.aload_n 0, 1) := by decide +kernel
theorem dX5_permutation_91 : decode cX5_permutation 91 = .ok (.iload 4, 2) := by decide +kernel
theorem dX5_permutation_93 : decode cX5_permutation 93 = .ok (.iload 7, 2) := by decide +kernel
theorem dX5_permutation_95 : decode cX5_permutation 95 = .ok (.iload 6, 2) := by decide +kernel
theorem dX5_permutation_97 : decode cX5_permutation 97 = .ok (.invokevirtual 162, 3) := by decide +kernel
theorem dX5_permutation_100 : decode cX5_permutation 100 = .ok (.isub, 1) := by decide +kernel
theorem dX5_permutation_101 : decode cX5_permutation 101 = .ok (.istore 5, 2) := by decide +kernel
theorem dX5_permutation_103 : decode cX5_permutation 103 = .ok (.iinc 6 1, 3) := by decide +kernel
theorem dX5_permutation_106 : decode cX5_permutation 106 = .ok (.goto (-33), 3) := by decide +kernel
theorem dX5_permutation_109 : decode cX5_permutation 109 = .ok (.iload 4, 2) := by decide +kernel
theorem dX5_permutation_111 : decode cX5_permutation 111 = .ok (.iconst 1, 1) := by decide +kernel
theorem dX5_permutation_112 : decode cX5_permutation 112 = .ok (.iload 6, 2) := by decide +kernel
theorem dX5_permutation_114 : decode cX5_permutation 114 = .ok (.ishl, 1) := by decide +kernel
theorem dX5_permutation_115 : decode cX5_permutation 115 = .ok (.ior, 1) := by decide +kernel
theorem dX5_permutation_116 : decode cX5_permutation 116 = .ok (.istore 4, 2) := by decide +kernel
theorem dX5_permutation_118 : decode cX5_permutation 118 = .ok (.iinc 7 1, 3) := by decide +kernel
theorem dX5_permutation_121 : decode cX5_permutation 121 = .ok (.goto (-57), 3) := by decide +kernel
theorem dX5_permutation_124 : decode cX5_permutation 124 = .ok (.iload 6, 2) := by decide +kernel
theorem dX5_permutation_126 : decode cX5_permutation 126 = .ok (.ireturn, 1) := by decide +kernel
set_option maxRecDepth 20000 in
theorem ggX5_place_X5_in : GoodIn wsX5_place wsX5_in := goodIn_r _ [6] (by decide +kernel) (by decide +kernel)
set_option maxRecDepth 20000 in
theorem gX5_place_X5_in : GoodIn wsX5_place (va_wsS RX5 67 yX5_in wsX5_in) := goodIn_app (goodIn_of _ (by decide +kernel)) ggX5_place_X5_in
set_option maxRecDepth 20000 in
theorem ggX5_place_X5_countWays : GoodIn wsX5_place wsX5_countWays := goodIn_r _ [10, 11, 2, 16, 17, 18, 19, 20, 21, 22, 23, 24, 25, 26, 27, 28, 29, 30, 31, 32, 33, 34, 35] (by decide +kernel) (by decide +kernel)
set_option maxRecDepth 20000 in
theorem gX5_place_X5_countWays : GoodIn wsX5_place (wsV RX5 159 RX5 yX5_countWays wsX5_countWays) := goodIn_app (goodIn_of _ (by decide +kernel)) ggX5_place_X5_countWays
set_option maxRecDepth 20000 in
theorem ggX5_place_X5_wayOn : GoodIn wsX5_place wsX5_wayOn := goodIn_r _ [15, 2, 11, 16, 17, 18, 19, 20, 21, 22, 23, 24, 25, 26, 27, 28, 29, 30, 31, 32, 33, 34, 35] (by decide +kernel) (by decide +kernel)
set_option maxRecDepth 20000 in
theorem gX5_place_X5_wayOn : GoodIn wsX5_place (wsV RX5 162 RX5 yX5_wayOn wsX5_wayOn) := goodIn_app (goodIn_of _ (by decide +kernel)) ggX5_place_X5_wayOn
theorem dX5_place_0 : decode cX5_place 0 = .ok (.iload_n 1, 1) := by decide +kernel
theorem dX5_place_1 : decode cX5_place 1 = .ok (.i2l, 1) := by decide +kernel
theorem dX5_place_2 : decode cX5_place 2 = .ok (.lconst 1, 1) := by decide +kernel
theorem dX5_place_3 : decode cX5_place 3 = .ok (.ldc2_w 157, 3) := by decide +kernel
theorem dX5_place_6 : decode cX5_place 6 = .ok (.invokestatic 67, 3) := by decide +kernel
theorem dX5_place_9 : decode cX5_place 9 = .ok (.ifCond .ne 5, 3) := by decide +kernel
theorem dX5_place_12 : decode cX5_place 12 = .ok (.iconst (-1), 1) := by decide +kernel
theorem dX5_place_13 : decode cX5_place 13 = .ok (.ireturn, 1) := by decide +kernel
theorem dX5_place_14 : decode cX5_place 14 = .ok (.aload_n 0, 1) := by decide +kernel
theorem dX5_place_15 : decode cX5_place 15 = .ok (.iload_n 1, 1) := by decide +kernel
theorem dX5_place_16 : decode cX5_place 16 = .ok (.invokevirtual 159, 3) := by decide +kernel
theorem dX5_place_19 : decode cX5_place 19 = .ok (.iconst 0, 1) := by decide +kernel
theorem dX5_place_20 : decode cX5_place 20 = .ok (.istore_n 3, 1) := by decide +kernel
theorem dX5_place_21 : decode cX5_place 21 = .ok (.iconst 0, 1) := by decide +kernel
theorem dX5_place_22 : decode cX5_place 22 = .ok (.istore 4, 2) := by decide +kernel
theorem dX5_place_24 : decode cX5_place 24 = .ok (.iconst 0, 1) := by decide +kernel
theorem dX5_place_25 : decode cX5_place 25 = .ok (.istore 5, 2) := by decide +kernel
theorem dX5_place_27 : decode cX5_place 27 = .ok (.iload 5, 2) := by decide +kernel
theorem dX5_place_29 : decode cX5_place 29 = .ok (.iload_n 1, 1) := by decide +kernel
theorem dX5_place_30 : decode cX5_place 30 = .ok (.if_icmp .ge 92, 3) := by decide +kernel
theorem dX5_place_33 : decode cX5_place 33 = .ok (.iload_n 2, 1) := by decide +kernel
theorem dX5_place_34 : decode cX5_place 34 = .ok (.iconst 3, 1) := by decide +kernel
theorem dX5_place_35 : decode cX5_place 35 = .ok (.iload 5, 2) := by decide +kernel
theorem dX5_place_37 : decode cX5_place 37 = .ok (.imul, 1) := by decide +kernel
theorem dX5_place_38 : decode cX5_place 38 = .ok (.ishr, 1) := by decide +kernel
theorem dX5_place_39 : decode cX5_place 39 = .ok (.bipush 7, 2) := by decide +kernel
theorem dX5_place_41 : decode cX5_place 41 = .ok (.iand, 1) := by decide +kernel
theorem dX5_place_42 : decode cX5_place 42 = .ok (.istore 6, 2) := by decide +kernel
theorem dX5_place_44 : decode cX5_place 44 = .ok (.iload 6, 2) := by decide +kernel
theorem dX5_place_46 : decode cX5_place 46 = .ok (.iload_n 1, 1) := by decide +kernel
theorem dX5_place_47 : decode cX5_place 47 = .ok (.if_icmp .ge 29, 3) := by decide +kernel
theorem dX5_place_50 : decode cX5_place 50 = .ok (.iload_n 3, 1) := by decide +kernel
theorem dX5_place_51 : decode cX5_place 51 = .ok (.iload 6, 2) := by decide +kernel
theorem dX5_place_53 : decode cX5_place 53 = .ok (.ishr, 1) := by decide +kernel
theorem dX5_place_54 : decode cX5_place 54 = .ok (.iconst 1, 1) := by decide +kernel
theorem dX5_place_55 : decode cX5_place 55 = .ok (.iand, 1) := by decide +kernel
theorem dX5_place_56 : decode cX5_place 56 = .ok (.iconst 1, 1) := by decide +kernel
theorem dX5_place_57 : decode cX5_place 57 = .ok (.if_icmp .eq 19, 3) := by decide +kernel
theorem dX5_place_60 : decode cX5_place 60 = .ok (.aload_n 0, 1) := by decide +kernel
theorem dX5_place_61 : decode cX5_place 61 = .ok (.getfield 20, 3) := by decide +kernel
theorem dX5_place_64 : decode cX5_place 64 = .ok (.bipush 8, 2) := by decide +kernel
theorem dX5_place_66 : decode cX5_place 66 = .ok (.iload 5, 2) := by decide +kernel
theorem dX5_place_68 : decode cX5_place 68 = .ok (.imul, 1) := by decide +kernel
theorem dX5_place_69 : decode cX5_place 69 = .ok (.iload 6, 2) := by decide +kernel
theorem dX5_place_71 : decode cX5_place 71 = .ok (.iadd, 1) := by decide +kernel
theorem dX5_place_72 : decode cX5_place 72 = .ok (.baload, 1) := by decide +kernel
theorem dX5_place_73 : decode cX5_place 73 = .ok (.ifCond .ne 6, 3) := by decide +kernel
theorem dX5_place_76 : decode cX5_place 76 = .ok (.bipush (-2), 2) := by decide +kernel
theorem dX5_place_78 : decode cX5_place 78 = .ok (.ireturn, 1) := by decide +kernel
theorem dX5_place_79 : decode cX5_place 79 = .ok (.iconst 0, 1) := by decide +kernel
theorem dX5_place_80 : decode cX5_place 80 = .ok (.istore 7, 2) := by decide +kernel
theorem dX5_place_82 : decode cX5_place 82 = .ok (.iload 7, 2) := by decide +kernel
theorem dX5_place_84 : decode cX5_place 84 = .ok (.iload 6, 2) := by decide +kernel
theorem dX5_place_86 : decode cX5_place 86 = .ok (.if_icmp .ge 23, 3) := by decide +kernel
theorem dX5_place_89 : decode cX5_place 89 = .ok (.iload 4, 2) := by decide +kernel
theorem dX5_place_91 : decode cX5_place 91 = .ok (.aload_n 0, 1) := by decide +kernel
theorem dX5_place_92 : decode cX5_place 92 = .ok (.iload_n 3, 1) := by decide +kernel
theorem dX5_place_93 : decode cX5_place 93 = .ok (.iload 5, 2) := by decide +kernel
theorem dX5_place_95 : decode cX5_place 95 = .ok (.iload 7, 2) := by decide +kernel
theorem dX5_place_97 : decode cX5_place 97 = .ok (.invokevirtual 162, 3) := by decide +kernel
theorem dX5_place_100 : decode cX5_place 100 = .ok (.iadd, 1) := by decide +kernel
theorem dX5_place_101 : decode cX5_place 101 = .ok (.istore 4, 2) := by decide +kernel
theorem dX5_place_103 : decode cX5_place 103 = .ok (.iinc 7 1, 3) := by decide +kernel
theorem dX5_place_106 : decode cX5_place 106 = .ok (.goto (-24), 3) := by decide +kernel
theorem dX5_place_109 : decode cX5_place 109 = .ok (.iload_n 3, 1) := by decide +kernel
theorem dX5_place_110 : decode cX5_place 110 = .ok (.iconst 1, 1) := by decide +kernel
theorem dX5_place_111 : decode cX5_place 111 = .ok (.iload 6, 2) := by decide +kernel
theorem dX5_place_113 : decode cX5_place 113 = .ok (.ishl, 1) := by decide +kernel
theorem dX5_place_114 : decode cX5_place 114 = .ok (.ior, 1) := by decide +kernel
theorem dX5_place_115 : decode cX5_place 115 = .ok (.istore_n 3, 1) := by decide +kernel
theorem dX5_place_116 : decode cX5_place 116 = .ok (.iinc 5 1, 3) := by decide +kernel
theorem dX5_place_119 : decode cX5_place 119 = .ok (.goto (-92), 3) := by decide +kernel
theorem dX5_place_122 : decode cX5_place 122 = .ok (.iload 4, 2) := by decide +kernel
theorem dX5_place_124 : decode cX5_place 124 = .ok (.ireturn, 1) := by decide +kernel
set_option maxRecDepth 20000 in
theorem ggX5_things_X5_in : GoodIn wsX5_things wsX5_in := goodIn_r _ [7] (by decide +kernel) (by decide +kernel)
set_option maxRecDepth 20000 in
theorem gX5_things_X5_in : GoodIn wsX5_things (va_wsS RX5 67 yX5_in wsX5_in) := goodIn_app (goodIn_of _ (by decide +kernel)) ggX5_things_X5_in
theorem dX5_things_0 : decode cX5_things 0 = .ok (.iload_n 1, 1) := by decide +kernel
theorem dX5_things_1 : decode cX5_things 1 = .ok (.i2l, 1) := by decide +kernel
theorem dX5_things_2 : decode cX5_things 2 = .ok (.lconst 1, 1) := by decide +kernel
theorem dX5_things_3 : decode cX5_things 3 = .ok (.ldc2_w 165, 3) := by decide +kernel
theorem dX5_things_6 : decode cX5_things 6 = .ok (.invokestatic 67, 3) := by decide +kernel
theorem dX5_things_9 : decode cX5_things 9 = .ok (.ifCond .ne 5, 3) := by decide +kernel
theorem dX5_things_12 : decode cX5_things 12 = .ok (.iconst (-1), 1) := by decide +kernel
theorem dX5_things_13 : decode cX5_things 13 = .ok (.ireturn, 1) := by decide +kernel
theorem dX5_things_14 : decode cX5_things 14 = .ok (.aload_n 0, 1) := by decide +kernel
theorem dX5_things_15 : decode cX5_things 15 = .ok (.getfield 23, 3) := by decide +kernel
theorem dX5_things_18 : decode cX5_things 18 = .ok (.istore_n 2, 1) := by decide +kernel
theorem dX5_things_19 : decode cX5_things 19 = .ok (.aload_n 0, 1) := by decide +kernel
theorem dX5_things_20 : decode cX5_things 20 = .ok (.iload_n 1, 1) := by decide +kernel
theorem dX5_things_21 : decode cX5_things 21 = .ok (.putfield 23, 3) := by decide +kernel
theorem dX5_things_24 : decode cX5_things 24 = .ok (.iconst 0, 1) := by decide +kernel
theorem dX5_things_25 : decode cX5_things 25 = .ok (.istore_n 3, 1) := by decide +kernel
theorem dX5_things_26 : decode cX5_things 26 = .ok (.iload_n 3, 1) := by decide +kernel
theorem dX5_things_27 : decode cX5_things 27 = .ok (.iload_n 1, 1) := by decide +kernel
theorem dX5_things_28 : decode cX5_things 28 = .ok (.if_icmp .ge 16, 3) := by decide +kernel
theorem dX5_things_31 : decode cX5_things 31 = .ok (.aload_n 0, 1) := by decide +kernel
theorem dX5_things_32 : decode cX5_things 32 = .ok (.getfield 27, 3) := by decide +kernel
theorem dX5_things_35 : decode cX5_things 35 = .ok (.iload_n 3, 1) := by decide +kernel
theorem dX5_things_36 : decode cX5_things 36 = .ok (.iconst 1, 1) := by decide +kernel
theorem dX5_things_37 : decode cX5_things 37 = .ok (.iastore, 1) := by decide +kernel
theorem dX5_things_38 : decode cX5_things 38 = .ok (.iinc 3 1, 3) := by decide +kernel
theorem dX5_things_41 : decode cX5_things 41 = .ok (.goto (-15), 3) := by decide +kernel
theorem dX5_things_44 : decode cX5_things 44 = .ok (.iload_n 2, 1) := by decide +kernel
theorem dX5_things_45 : decode cX5_things 45 = .ok (.ireturn, 1) := by decide +kernel
set_option maxRecDepth 20000 in
theorem ggX5_isThing_X5_in : GoodIn wsX5_isThing wsX5_in := goodIn_r _ [5] (by decide +kernel) (by decide +kernel)
set_option maxRecDepth 20000 in
theorem gX5_isThing_X5_in : GoodIn wsX5_isThing (va_wsS RX5 67 yX5_in wsX5_in) := goodIn_app (goodIn_of _ (by decide +kernel)) ggX5_isThing_X5_in
theorem dX5_isThing_0 : decode cX5_isThing 0 = .ok (.iload_n 1, 1) := by decide +kernel
theorem dX5_isThing_1 : decode cX5_isThing 1 = .ok (.i2l, 1) := by decide +kernel
theorem dX5_isThing_2 : decode cX5_isThing 2 = .ok (.lconst 0, 1) := by decide +kernel
theorem dX5_isThing_3 : decode cX5_isThing 3 = .ok (.aload_n 0, 1) := by decide +kernel
theorem dX5_isThing_4 : decode cX5_isThing 4 = .ok (.getfield 23, 3) := by decide +kernel
theorem dX5_isThing_7 : decode cX5_isThing 7 = .ok (.iconst 1, 1) := by decide +kernel
theorem dX5_isThing_8 : decode cX5_isThing 8 = .ok (.isub, 1) := by decide +kernel
theorem dX5_isThing_9 : decode cX5_isThing 9 = .ok (.i2l, 1) := by decide +kernel
theorem dX5_isThing_10 : decode cX5_isThing 10 = .ok (.invokestatic 67, 3) := by decide +kernel
theorem dX5_isThing_13 : decode cX5_isThing 13 = .ok (.ireturn, 1) := by decide +kernel
set_option maxRecDepth 20000 in
theorem ggX5_weight_X5_isThing : GoodIn wsX5_weight wsX5_isThing := goodIn_r _ [7, 8, 9, 10, 6, 11, 12, 13, 14, 15, 16, 17, 18, 19, 20, 21, 22, 23, 24, 25, 26, 27, 28, 29, 30, 31] (by decide +kernel) (by decide +kernel)
set_option maxRecDepth 20000 in
theorem gX5_weight_X5_isThing : GoodIn wsX5_weight (wsV RX5 167 RX5 yX5_isThing wsX5_isThing) := goodIn_app (goodIn_of _ (by decide +kernel)) ggX5_weight_X5_isThing
set_option maxRecDepth 20000 in
theorem ggX5_weight_X5_in : GoodIn wsX5_weight wsX5_in := goodIn_r _ [11] (by decide +kernel) (by decide +kernel)
set_option maxRecDepth 20000 in
theorem gX5_weight_X5_in : GoodIn wsX5_weight (va_wsS RX5 67 yX5_in wsX5_in) := goodIn_app (goodIn_of _ (by decide +kernel)) ggX5_weight_X5_in
theorem dX5_weight_0 : decode cX5_weight 0 = .ok (.aload_n 0, 1) := by decide +kernel
theorem dX5_weight_1 : decode cX5_weight 1 = .ok (.iload_n 1, 1) := by decide +kernel
theorem dX5_weight_2 : decode cX5_weight 2 = .ok (.invokevirtual 167, 3) := by decide +kernel
theorem dX5_weight_5 : decode cX5_weight 5 = .ok (.ifCond .eq 15, 3) := by decide +kernel
theorem dX5_weight_8 : decode cX5_weight 8 = .ok (.iload_n 2, 1) := by decide +kernel
theorem dX5_weight_9 : decode cX5_weight 9 = .ok (.i2l, 1) := by decide +kernel
theorem dX5_weight_10 : decode cX5_weight 10 = .ok (.lconst 0, 1) := by decide +kernel
theorem dX5_weight_11 : decode cX5_weight 11 = .ok (.ldc2_w 170, 3) := by decide +kernel
theorem dX5_weight_14 : decode cX5_weight 14 = .ok (.invokestatic 67, 3) := by decide +kernel
theorem dX5_weight_17 : decode cX5_weight 17 = .ok (.ifCond .ne 5, 3) := by decide +kernel
theorem dX5_weight_20 : decode cX5_weight 20 = .ok (.iconst (-1), 1) := by decide +kernel
theorem dX5_weight_21 : decode cX5_weight 21 = .ok (.ireturn, 1) := by decide +kernel
theorem dX5_weight_22 : decode cX5_weight 22 = .ok (.aload_n 0, 1) := by decide +kernel
theorem dX5_weight_23 : decode cX5_weight 23 = .ok (.getfield 27, 3) := by decide +kernel
theorem dX5_weight_26 : decode cX5_weight 26 = .ok (.iload_n 1, 1) := by decide +kernel
theorem dX5_weight_27 : decode cX5_weight 27 = .ok (.iaload, 1) := by decide +kernel
theorem dX5_weight_28 : decode cX5_weight 28 = .ok (.istore_n 3, 1) := by decide +kernel
theorem dX5_weight_29 : decode cX5_weight 29 = .ok (.aload_n 0, 1) := by decide +kernel
theorem dX5_weight_30 : decode cX5_weight 30 = .ok (.getfield 27, 3) := by decide +kernel
theorem dX5_weight_33 : decode cX5_weight 33 = .ok (.iload_n 1, 1) := by decide +kernel
theorem dX5_weight_34 : decode cX5_weight 34 = .ok (.iload_n 2, 1) := by decide +kernel
theorem dX5_weight_35 : decode cX5_weight 35 = .ok (.iastore, 1) := by decide +kernel
theorem dX5_weight_36 : decode cX5_weight 36 = .ok (.iload_n 3, 1) := by decide +kernel
theorem dX5_weight_37 : decode cX5_weight 37 = .ok (.ireturn, 1) := by decide +kernel
theorem dX5_sum_0 : decode cX5_sum 0 = .ok (.iconst 0, 1) := by decide +kernel
theorem dX5_sum_1 : decode cX5_sum 1 = .ok (.istore_n 1, 1) := by decide +kernel
theorem dX5_sum_2 : decode cX5_sum 2 = .ok (.iconst 0, 1) := by decide +kernel
theorem dX5_sum_3 : decode cX5_sum 3 = .ok (.istore_n 2, 1) := by decide +kernel
theorem dX5_sum_4 : decode cX5_sum 4 = .ok (.iload_n 2, 1) := by decide +kernel
theorem dX5_sum_5 : decode cX5_sum 5 = .ok (.aload_n 0, 1) := by decide +kernel
theorem dX5_sum_6 : decode cX5_sum 6 = .ok (.getfield 23, 3) := by decide +kernel
theorem dX5_sum_9 : decode cX5_sum 9 = .ok (.if_icmp .ge 18, 3) := by decide +kernel
theorem dX5_sum_12 : decode cX5_sum 12 = .ok (.iload_n 1, 1) := by decide +kernel
theorem dX5_sum_13 : decode cX5_sum 13 = .ok (.aload_n 0, 1) := by decide +kernel
theorem dX5_sum_14 : decode cX5_sum 14 = .ok (.getfield 27, 3) := by decide +kernel
theorem dX5_sum_17 : decode cX5_sum 17 = .ok (.iload_n 2, 1) := by decide +kernel
theorem dX5_sum_18 : decode cX5_sum 18 = .ok (.iaload, 1) := by decide +kernel
theorem dX5_sum_19 : decode cX5_sum 19 = .ok (.iadd, 1) := by decide +kernel
theorem dX5_sum_20 : decode cX5_sum 20 = .ok (.istore_n 1, 1) := by decide +kernel
theorem dX5_sum_21 : decode cX5_sum 21 = .ok (.iinc 2 1, 3) := by decide +kernel
theorem dX5_sum_24 : decode cX5_sum 24 = .ok (.goto (-20), 3) := by decide +kernel
theorem dX5_sum_27 : decode cX5_sum 27 = .ok (.iload_n 1, 1) := by decide +kernel
theorem dX5_sum_28 : decode cX5_sum 28 = .ok (.ireturn, 1) := by decide +kernel
set_option maxRecDepth 20000 in
theorem ggX5_make_X5_sum : GoodIn wsX5_make wsX5_sum := goodIn_r _ [11, 1, 3, 16, 17, 18, 19, 20, 21, 22, 23, 24, 25, 26, 27, 28, 29, 30, 31, 32, 33, 34, 35] (by decide +kernel) (by decide +kernel)
set_option maxRecDepth 20000 in
theorem gX5_make_X5_sum : GoodIn wsX5_make (wsV RX5 172 RX5 yX5_sum wsX5_sum) := goodIn_app (goodIn_of _ (by decide +kernel)) ggX5_make_X5_sum
set_option maxRecDepth 20000 in
theorem ggX5_make_X5_first : GoodIn wsX5_make wsX5_first := goodIn_r _ [15, 1, 4, 2, 16, 17, 18, 19, 20, 21, 22, 23, 24, 25, 26, 27, 28, 29, 30, 31, 32, 33, 34, 35] (by decide +kernel) (by decide +kernel)
set_option maxRecDepth 20000 in
theorem gX5_make_X5_first : GoodIn wsX5_make (wsV RX5 176 RX5 yX5_first wsX5_first) := goodIn_app (goodIn_of _ (by decide +kernel)) ggX5_make_X5_first
theorem dX5_make_0 : decode cX5_make 0 = .ok (.aload_n 0, 1) := by decide +kernel
theorem dX5_make_1 : decode cX5_make 1 = .ok (.invokevirtual 172, 3) := by decide +kernel
theorem dX5_make_4 : decode cX5_make 4 = .ok (.istore_n 1, 1) := by decide +kernel
theorem dX5_make_5 : decode cX5_make 5 = .ok (.iconst 0, 1) := by decide +kernel
theorem dX5_make_6 : decode cX5_make 6 = .ok (.istore_n 2, 1) := by decide +kernel
theorem dX5_make_7 : decode cX5_make 7 = .ok (.iload_n 2, 1) := by decide +kernel
theorem dX5_make_8 : decode cX5_make 8 = .ok (.aload_n 0, 1) := by decide +kernel
theorem dX5_make_9 : decode cX5_make 9 = .ok (.getfield 23, 3) := by decide +kernel
theorem dX5_make_12 : decode cX5_make 12 = .ok (.if_icmp .ge 47, 3) := by decide +kernel
theorem dX5_make_15 : decode cX5_make 15 = .ok (.aload_n 0, 1) := by decide +kernel
theorem dX5_make_16 : decode cX5_make 16 = .ok (.getfield 58, 3) := by decide +kernel
theorem dX5_make_19 : decode cX5_make 19 = .ok (.iload_n 2, 1) := by decide +kernel
theorem dX5_make_20 : decode cX5_make 20 = .ok (.aload_n 0, 1) := by decide +kernel
theorem dX5_make_21 : decode cX5_make 21 = .ok (.getfield 23, 3) := by decide +kernel
theorem dX5_make_24 : decode cX5_make 24 = .ok (.aload_n 0, 1) := by decide +kernel
theorem dX5_make_25 : decode cX5_make 25 = .ok (.getfield 27, 3) := by decide +kernel
theorem dX5_make_28 : decode cX5_make 28 = .ok (.iload_n 2, 1) := by decide +kernel
theorem dX5_make_29 : decode cX5_make 29 = .ok (.iaload, 1) := by decide +kernel
theorem dX5_make_30 : decode cX5_make 30 = .ok (.imul, 1) := by decide +kernel
theorem dX5_make_31 : decode cX5_make 31 = .ok (.iastore, 1) := by decide +kernel
theorem dX5_make_32 : decode cX5_make 32 = .ok (.aload_n 0, 1) := by decide +kernel
theorem dX5_make_33 : decode cX5_make 33 = .ok (.getfield 61, 3) := by decide +kernel
theorem dX5_make_36 : decode cX5_make 36 = .ok (.iload_n 2, 1) := by decide +kernel
theorem dX5_make_37 : decode cX5_make 37 = .ok (.iconst 0, 1) := by decide +kernel
theorem dX5_make_38 : decode cX5_make 38 = .ok (.bastore, 1) := by decide +kernel
theorem dX5_make_39 : decode cX5_make 39 = .ok (.aload_n 0, 1) := by decide +kernel
theorem dX5_make_40 : decode cX5_make 40 = .ok (.getfield 52, 3) := by decide +kernel
theorem dX5_make_43 : decode cX5_make 43 = .ok (.iload_n 2, 1) := by decide +kernel
theorem dX5_make_44 : decode cX5_make 44 = .ok (.iload_n 1, 1) := by decide +kernel
theorem dX5_make_45 : decode cX5_make 45 = .ok (.iastore, 1) := by decide +kernel
theorem dX5_make_46 : decode cX5_make 46 = .ok (.aload_n 0, 1) := by decide +kernel
theorem dX5_make_47 : decode cX5_make 47 = .ok (.getfield 55, 3) := by decide +kernel
theorem dX5_make_50 : decode cX5_make 50 = .ok (.iload_n 2, 1) := by decide +kernel
theorem dX5_make_51 : decode cX5_make 51 = .ok (.iload_n 2, 1) := by decide +kernel
theorem dX5_make_52 : decode cX5_make 52 = .ok (.iastore, 1) := by decide +kernel
theorem dX5_make_53 : decode cX5_make 53 = .ok (.iinc 2 1, 3) := by decide +kernel
theorem dX5_make_56 : decode cX5_make 56 = .ok (.goto (-49), 3) := by decide +kernel
theorem dX5_make_59 : decode cX5_make 59 = .ok (.aload_n 0, 1) := by decide +kernel
theorem dX5_make_60 : decode cX5_make 60 = .ok (.iload_n 1, 1) := by decide +kernel
theorem dX5_make_61 : decode cX5_make 61 = .ok (.iconst 1, 1) := by decide +kernel
theorem dX5_make_62 : decode cX5_make 62 = .ok (.invokevirtual 176, 3) := by decide +kernel
theorem dX5_make_65 : decode cX5_make 65 = .ok (.istore_n 2, 1) := by decide +kernel
theorem dX5_make_66 : decode cX5_make 66 = .ok (.iload_n 2, 1) := by decide +kernel
theorem dX5_make_67 : decode cX5_make 67 = .ok (.ifCond .lt 63, 3) := by decide +kernel
theorem dX5_make_70 : decode cX5_make 70 = .ok (.aload_n 0, 1) := by decide +kernel
theorem dX5_make_71 : decode cX5_make 71 = .ok (.getfield 61, 3) := by decide +kernel
theorem dX5_make_74 : decode cX5_make 74 = .ok (.iload_n 2, 1) := by decide +kernel
theorem dX5_make_75 : decode cX5_make 75 = .ok (.iconst 1, 1) := by decide +kernel
theorem dX5_make_76 : decode cX5_make 76 = .ok (.bastore, 1) := by decide +kernel
theorem dX5_make_77 : decode cX5_make 77 = .ok (.aload_n 0, 1) := by decide +kernel
theorem dX5_make_78 : decode cX5_make 78 = .ok (.iload_n 1, 1) := by decide +kernel
theorem dX5_make_79 : decode cX5_make 79 = .ok (.iconst 0, 1) := by decide +kernel
theorem dX5_make_80 : decode cX5_make 80 = .ok (.invokevirtual 176, 3) := by decide +kernel
theorem dX5_make_83 : decode cX5_make 83 = .ok (.istore_n 3, 1) := by decide +kernel
theorem dX5_make_84 : decode cX5_make 84 = .ok (.aload_n 0, 1) := by decide +kernel
theorem dX5_make_85 : decode cX5_make 85 = .ok (.getfield 52, 3) := by decide +kernel
theorem dX5_make_88 : decode cX5_make 88 = .ok (.iload_n 2, 1) := by decide +kernel
theorem dX5_make_89 : decode cX5_make 89 = .ok (.aload_n 0, 1) := by decide +kernel
theorem dX5_make_90 : decode cX5_make 90 = .ok (.getfield 58, 3) := by decide +kernel
theorem dX5_make_93 : decode cX5_make 93 = .ok (.iload_n 2, 1) := by decide +kernel
theorem dX5_make_94 : decode cX5_make 94 = .ok (.iaload, 1) := by decide +kernel
theorem dX5_make_95 : decode cX5_make 95 = .ok (.iastore, 1) := by decide +kernel
theorem dX5_make_96 : decode cX5_make 96 = .ok (.aload_n 0, 1) := by decide +kernel
theorem dX5_make_97 : decode cX5_make 97 = .ok (.getfield 55, 3) := by decide +kernel
theorem dX5_make_100 : decode cX5_make 100 = .ok (.iload_n 2, 1) := by decide +kernel
theorem dX5_make_101 : decode cX5_make 101 = .ok (.iload_n 3, 1) := by decide +kernel
theorem dX5_make_102 : decode cX5_make 102 = .ok (.iastore, 1) := by decide +kernel
theorem dX5_make_103 : decode cX5_make 103 = .ok (.aload_n 0, 1) := by decide +kernel
theorem dX5_make_104 : decode cX5_make 104 = .ok (.getfield 58, 3) := by decide +kernel
theorem dX5_make_107 : decode cX5_make 107 = .ok (.iload_n 3, 1) := by decide +kernel
theorem dX5_make_108 : decode cX5_make 108 = .ok (.dup2, 1) := by decide +kernel
theorem dX5_make_109 : decode cX5_make 109 = .ok (.iaload, 1) := by decide +kernel
theorem dX5_make_110 : decode cX5_make 110 = .ok (.iload_n 1, 1) := by decide +kernel
theorem dX5_make_111 : decode cX5_make 111 = .ok (.aload_n 0, 1) := by decide +kernel
theorem dX5_make_112 : decode cX5_make 112 = .ok (.getfield 52, 3) := by decide +kernel
theorem dX5_make_115 : decode cX5_make 115 = .ok (.iload_n 2, 1) := by decide +kernel
theorem dX5_make_116 : decode cX5_make 116 = .ok (.iaload, 1) := by decide +kernel
theorem dX5_make_117 : decode cX5_make 117 = .ok (.isub, 1) := by decide +kernel
theorem dX5_make_118 : decode cX5_make 118 = .ok (.isub, 1) := by decide +kernel
theorem dX5_make_119 : decode cX5_make 119 = .ok (.iastore, 1) := by decide +kernel
theorem dX5_make_120 : decode cX5_make 120 = .ok (.aload_n 0, 1) := by decide +kernel
theorem dX5_make_121 : decode cX5_make 121 = .ok (.iload_n 1, 1) := by decide +kernel
theorem dX5_make_122 : decode cX5_make 122 = .ok (.iconst 1, 1) := by decide +kernel
theorem dX5_make_123 : decode cX5_make 123 = .ok (.invokevirtual 176, 3) := by decide +kernel
theorem dX5_make_126 : decode cX5_make 126 = .ok (.istore_n 2, 1) := by decide +kernel
theorem dX5_make_127 : decode cX5_make 127 = .ok (.goto (-61), 3) := by decide +kernel
theorem dX5_make_130 : decode cX5_make 130 = .ok (.return_, 1) := by decide +kernel
theorem dX5_first_0 : decode cX5_first 0 = .ok (.iconst 0, 1) := by decide +kernel
theorem dX5_first_1 : decode cX5_first 1 = .ok (.istore_n 3, 1) := by decide +kernel
theorem dX5_first_2 : decode cX5_first 2 = .ok (.iload_n 3, 1) := by decide +kernel
theorem dX5_first_3 : decode cX5_first 3 = .ok (.aload_n 0, 1) := by decide +kernel
theorem dX5_first_4 : decode cX5_first 4 = .ok (.getfield 23, 3) := by decide +kernel
theorem dX5_first_7 : decode cX5_first 7 = .ok (.if_icmp .ge 47, 3) := by decide +kernel
theorem dX5_first_10 : decode cX5_first 10 = .ok (.aload_n 0, 1) := by decide +kernel
theorem dX5_first_11 : decode cX5_first 11 = .ok (.getfield 61, 3) := by decide +kernel
theorem dX5_first_14 : decode cX5_first 14 = .ok (.iload_n 3, 1) := by decide +kernel
theorem dX5_first_15 : decode cX5_first 15 = .ok (.baload, 1) := by decide +kernel
theorem dX5_first_16 : decode cX5_first 16 = .ok (.ifCond .ne 32, 3) := by decide +kernel
theorem dX5_first_19 : decode cX5_first 19 = .ok (.iload_n 2, 1) := by decide +kernel
theorem dX5_first_20 : decode cX5_first 20 = .ok (.ifCond .eq 16, 3) := by decide +kernel
theorem dX5_first_23 : decode cX5_first 23 = .ok (.aload_n 0, 1) := by decide +kernel
theorem dX5_first_24 : decode cX5_first 24 = .ok (.getfield 58, 3) := by decide +kernel
theorem dX5_first_27 : decode cX5_first 27 = .ok (.iload_n 3, 1) := by decide +kernel
theorem dX5_first_28 : decode cX5_first 28 = .ok (.iaload, 1) := by decide +kernel
theorem dX5_first_29 : decode cX5_first 29 = .ok (.iload_n 1, 1) := by decide +kernel
theorem dX5_first_30 : decode cX5_first 30 = .ok (.if_icmp .ge 18, 3) := by decide +kernel
theorem dX5_first_33 : decode cX5_first 33 = .ok (.goto 13, 3) := by decide +kernel
theorem dX5_first_36 : decode cX5_first 36 = .ok (.aload_n 0, 1) := by decide +kernel
theorem dX5_first_37 : decode cX5_first 37 = .ok (.getfield 58, 3) := by decide +kernel
theorem dX5_first_40 : decode cX5_first 40 = .ok (.iload_n 3, 1) := by decide +kernel
theorem dX5_first_41 : decode cX5_first 41 = .ok (.iaload, 1) := by decide +kernel
theorem dX5_first_42 : decode cX5_first 42 = .ok (.iload_n 1, 1) := by decide +kernel
theorem dX5_first_43 : decode cX5_first 43 = .ok (.if_icmp .le 5, 3) := by decide +kernel
theorem dX5_first_46 : decode cX5_first 46 = .ok (.iload_n 3, 1) := by decide +kernel
theorem dX5_first_47 : decode cX5_first 47 = .ok (.ireturn, 1) := by decide +kernel
theorem dX5_first_48 : decode cX5_first 48 = .ok (.iinc 3 1, 3) := by decide +kernel
theorem dX5_first_51 : decode cX5_first 51 = .ok (.goto (-49), 3) := by decide +kernel
theorem dX5_first_54 : decode cX5_first 54 = .ok (.bipush (-2), 2) := by decide +kernel
theorem dX5_first_56 : decode cX5_first 56 = .ok (.ireturn, 1) := by decide +kernel
set_option maxRecDepth 20000 in
theorem ggX5_cell_X5_isThing : GoodIn wsX5_cell wsX5_isThing := goodIn_r _ [8, 9, 10, 11, 7, 12, 28, 29, 30, 31, 32, 33, 34, 35, 36, 37, 38, 39, 40, 41, 42, 43, 44, 45, 46, 47] (by decide +kernel) (by decide +kernel)
set_option maxRecDepth 20000 in
theorem gX5_cell_X5_isThing : GoodIn wsX5_cell (wsV RX5 167 RX5 yX5_isThing wsX5_isThing) := goodIn_app (goodIn_of _ (by decide +kernel)) ggX5_cell_X5_isThing
set_option maxRecDepth 20000 in
theorem ggX5_cell_X5_in : GoodIn wsX5_cell wsX5_in := goodIn_r _ [12] (by decide +kernel) (by decide +kernel)
set_option maxRecDepth 20000 in
theorem gX5_cell_X5_in : GoodIn wsX5_cell (va_wsS RX5 67 yX5_in wsX5_in) := goodIn_app (goodIn_of _ (by decide +kernel)) ggX5_cell_X5_in
set_option maxRecDepth 20000 in
theorem ggX5_cell_X5_sum : GoodIn wsX5_cell wsX5_sum := goodIn_r _ [16, 9, 17, 28, 29, 30, 31, 32, 33, 34, 35, 36, 37, 38, 39, 40, 41, 42, 43, 44, 45, 46, 47] (by decide +kernel) (by decide +kernel)
set_option maxRecDepth 20000 in
theorem gX5_cell_X5_sum : GoodIn wsX5_cell (wsV RX5 172 RX5 yX5_sum wsX5_sum) := goodIn_app (goodIn_of _ (by decide +kernel)) ggX5_cell_X5_sum
set_option maxRecDepth 20000 in
theorem ggX5_cell_X5_make : GoodIn wsX5_cell wsX5_make := goodIn_r _ [21, 9, 22, 17, 23, 2, 3, 13, 14, 15, 7, 16, 24, 25, 26, 27, 28, 29, 30, 31, 32, 33, 34, 35, 36, 37, 38, 39, 40, 41, 42, 43, 44, 45, 46, 47] (by decide +kernel) (by decide +kernel)
set_option maxRecDepth 20000 in
theorem gX5_cell_X5_make : GoodIn wsX5_cell (wsV RX5 182 RX5 yX5_make wsX5_make) := goodIn_app (goodIn_of _ (by decide +kernel)) ggX5_cell_X5_make
theorem dX5_cell_0 : decode cX5_cell 0 = .ok (.aload_n 0, 1) := by decide +kernel
theorem dX5_cell_1 : decode cX5_cell 1 = .ok (.iload_n 1, 1) := by decide +kernel
theorem dX5_cell_2 : decode cX5_cell 2 = .ok (.invokevirtual 167, 3) := by decide +kernel
theorem dX5_cell_5 : decode cX5_cell 5 = .ok (.ifCond .eq 15, 3) := by decide +kernel
theorem dX5_cell_8 : decode cX5_cell 8 = .ok (.iload_n 2, 1) := by decide +kernel
theorem dX5_cell_9 : decode cX5_cell 9 = .ok (.i2l, 1) := by decide +kernel
theorem dX5_cell_10 : decode cX5_cell 10 = .ok (.lconst 0, 1) := by decide +kernel
theorem dX5_cell_11 : decode cX5_cell 11 = .ok (.ldc2_w 180, 3) := by decide +kernel
theorem dX5_cell_14 : decode cX5_cell 14 = .ok (.invokestatic 67, 3) := by decide +kernel
theorem dX5_cell_17 : decode cX5_cell 17 = .ok (.ifCond .ne 5, 3) := by decide +kernel
theorem dX5_cell_20 : decode cX5_cell 20 = .ok (.iconst (-1), 1) := by decide +kernel
theorem dX5_cell_21 : decode cX5_cell 21 = .ok (.ireturn, 1) := by decide +kernel
theorem dX5_cell_22 : decode cX5_cell 22 = .ok (.aload_n 0, 1) := by decide +kernel
theorem dX5_cell_23 : decode cX5_cell 23 = .ok (.invokevirtual 172, 3) := by decide +kernel
theorem dX5_cell_26 : decode cX5_cell 26 = .ok (.ifCond .ne 6, 3) := by decide +kernel
theorem dX5_cell_29 : decode cX5_cell 29 = .ok (.bipush (-2), 2) := by decide +kernel
theorem dX5_cell_31 : decode cX5_cell 31 = .ok (.ireturn, 1) := by decide +kernel
theorem dX5_cell_32 : decode cX5_cell 32 = .ok (.aload_n 0, 1) := by decide +kernel
theorem dX5_cell_33 : decode cX5_cell 33 = .ok (.invokevirtual 182, 3) := by decide +kernel
theorem dX5_cell_36 : decode cX5_cell 36 = .ok (.iload_n 2, 1) := by decide +kernel
theorem dX5_cell_37 : decode cX5_cell 37 = .ok (.ifCond .ne 12, 3) := by decide +kernel
theorem dX5_cell_40 : decode cX5_cell 40 = .ok (.aload_n 0, 1) := by decide +kernel
theorem dX5_cell_41 : decode cX5_cell 41 = .ok (.getfield 52, 3) := by decide +kernel
theorem dX5_cell_44 : decode cX5_cell 44 = .ok (.iload_n 1, 1) := by decide +kernel
theorem dX5_cell_45 : decode cX5_cell 45 = .ok (.iaload, 1) := by decide +kernel
theorem dX5_cell_46 : decode cX5_cell 46 = .ok (.goto 21, 3) := by decide +kernel
theorem dX5_cell_49 : decode cX5_cell 49 = .ok (.iload_n 2, 1) := by decide +kernel
theorem dX5_cell_50 : decode cX5_cell 50 = .ok (.iconst 1, 1) := by decide +kernel
theorem dX5_cell_51 : decode cX5_cell 51 = .ok (.if_icmp .ne 12, 3) := by decide +kernel
theorem dX5_cell_54 : decode cX5_cell 54 = .ok (.aload_n 0, 1) := by decide +kernel
theorem dX5_cell_55 : decode cX5_cell 55 = .ok (.getfield 55, 3) := by decide +kernel
theorem dX5_cell_58 : decode cX5_cell 58 = .ok (.iload_n 1, 1) := by decide +kernel
theorem dX5_cell_59 : decode cX5_cell 59 = .ok (.iaload, 1) := by decide +kernel
theorem dX5_cell_60 : decode cX5_cell 60 = .ok (.goto 7, 3) := by decide +kernel
theorem dX5_cell_63 : decode cX5_cell 63 = .ok (.aload_n 0, 1) := by decide +kernel
theorem dX5_cell_64 : decode cX5_cell 64 = .ok (.invokevirtual 172, 3) := by decide +kernel
theorem dX5_cell_67 : decode cX5_cell 67 = .ok (.ireturn, 1) := by decide +kernel
set_option maxRecDepth 20000 in
theorem ggX5_tell_X5_sum : GoodIn wsX5_tell wsX5_sum := goodIn_r _ [8, 1, 9, 23, 24, 25, 26, 27, 28, 29, 30, 31, 32, 33, 34, 35, 36, 37, 38, 39, 40, 41, 42] (by decide +kernel) (by decide +kernel)
set_option maxRecDepth 20000 in
theorem gX5_tell_X5_sum : GoodIn wsX5_tell (wsV RX5 172 RX5 yX5_sum wsX5_sum) := goodIn_app (goodIn_of _ (by decide +kernel)) ggX5_tell_X5_sum
set_option maxRecDepth 20000 in
theorem ggX5_tell_X5_in : GoodIn wsX5_tell wsX5_in := goodIn_r _ [12] (by decide +kernel) (by decide +kernel)
set_option maxRecDepth 20000 in
theorem gX5_tell_X5_in : GoodIn wsX5_tell (va_wsS RX5 67 yX5_in wsX5_in) := goodIn_app (goodIn_of _ (by decide +kernel)) ggX5_tell_X5_in
set_option maxRecDepth 20000 in
theorem ggX5_tell_X5_make : GoodIn wsX5_tell wsX5_make := goodIn_r _ [16, 1, 17, 9, 18, 2, 3, 4, 5, 6, 7, 8, 19, 20, 21, 22, 23, 24, 25, 26, 27, 28, 29, 30, 31, 32, 33, 34, 35, 36, 37, 38, 39, 40, 41, 42] (by decide +kernel) (by decide +kernel)
set_option maxRecDepth 20000 in
theorem gX5_tell_X5_make : GoodIn wsX5_tell (wsV RX5 182 RX5 yX5_make wsX5_make) := goodIn_app (goodIn_of _ (by decide +kernel)) ggX5_tell_X5_make
theorem dX5_tell_0 : decode cX5_tell 0 = .ok (.aload_n 0, 1) := by decide +kernel
theorem dX5_tell_1 : decode cX5_tell 1 = .ok (.invokevirtual 172, 3) := by decide +kernel
theorem dX5_tell_4 : decode cX5_tell 4 = .ok (.istore_n 2, 1) := by decide +kernel
theorem dX5_tell_5 : decode cX5_tell 5 = .ok (.iload_n 2, 1) := by decide +kernel
theorem dX5_tell_6 : decode cX5_tell 6 = .ok (.ifCond .ne 6, 3) := by decide +kernel
theorem dX5_tell_9 : decode cX5_tell 9 = .ok (.bipush (-2), 2) := by decide +kernel
theorem dX5_tell_11 : decode cX5_tell 11 = .ok (.ireturn, 1) := by decide +kernel
theorem dX5_tell_12 : decode cX5_tell 12 = .ok (.iload_n 1, 1) := by decide +kernel
theorem dX5_tell_13 : decode cX5_tell 13 = .ok (.i2l, 1) := by decide +kernel
theorem dX5_tell_14 : decode cX5_tell 14 = .ok (.lconst 0, 1) := by decide +kernel
theorem dX5_tell_15 : decode cX5_tell 15 = .ok (.aload_n 0, 1) := by decide +kernel
theorem dX5_tell_16 : decode cX5_tell 16 = .ok (.getfield 23, 3) := by decide +kernel
theorem dX5_tell_19 : decode cX5_tell 19 = .ok (.iload_n 2, 1) := by decide +kernel
theorem dX5_tell_20 : decode cX5_tell 20 = .ok (.imul, 1) := by decide +kernel
theorem dX5_tell_21 : decode cX5_tell 21 = .ok (.iconst 1, 1) := by decide +kernel
theorem dX5_tell_22 : decode cX5_tell 22 = .ok (.isub, 1) := by decide +kernel
theorem dX5_tell_23 : decode cX5_tell 23 = .ok (.i2l, 1) := by decide +kernel
theorem dX5_tell_24 : decode cX5_tell 24 = .ok (.invokestatic 67, 3) := by decide +kernel
theorem dX5_tell_27 : decode cX5_tell 27 = .ok (.ifCond .ne 5, 3) := by decide +kernel
theorem dX5_tell_30 : decode cX5_tell 30 = .ok (.iconst (-1), 1) := by decide +kernel
theorem dX5_tell_31 : decode cX5_tell 31 = .ok (.ireturn, 1) := by decide +kernel
theorem dX5_tell_32 : decode cX5_tell 32 = .ok (.aload_n 0, 1) := by decide +kernel
theorem dX5_tell_33 : decode cX5_tell 33 = .ok (.invokevirtual 182, 3) := by decide +kernel
theorem dX5_tell_36 : decode cX5_tell 36 = .ok (.iload_n 1, 1) := by decide +kernel
theorem dX5_tell_37 : decode cX5_tell 37 = .ok (.iload_n 2, 1) := by decide +kernel
theorem dX5_tell_38 : decode cX5_tell 38 = .ok (.irem, 1) := by decide +kernel
theorem dX5_tell_39 : decode cX5_tell 39 = .ok (.aload_n 0, 1) := by decide +kernel
theorem dX5_tell_40 : decode cX5_tell 40 = .ok (.getfield 52, 3) := by decide +kernel
theorem dX5_tell_43 : decode cX5_tell 43 = .ok (.iload_n 1, 1) := by decide +kernel
theorem dX5_tell_44 : decode cX5_tell 44 = .ok (.iload_n 2, 1) := by decide +kernel
theorem dX5_tell_45 : decode cX5_tell 45 = .ok (.idiv, 1) := by decide +kernel
theorem dX5_tell_46 : decode cX5_tell 46 = .ok (.iaload, 1) := by decide +kernel
theorem dX5_tell_47 : decode cX5_tell 47 = .ok (.if_icmp .ge 9, 3) := by decide +kernel
theorem dX5_tell_50 : decode cX5_tell 50 = .ok (.iload_n 1, 1) := by decide +kernel
theorem dX5_tell_51 : decode cX5_tell 51 = .ok (.iload_n 2, 1) := by decide +kernel
theorem dX5_tell_52 : decode cX5_tell 52 = .ok (.idiv, 1) := by decide +kernel
theorem dX5_tell_53 : decode cX5_tell 53 = .ok (.goto 11, 3) := by decide +kernel
theorem dX5_tell_56 : decode cX5_tell 56 = .ok (.aload_n 0, 1) := by decide +kernel
theorem dX5_tell_57 : decode cX5_tell 57 = .ok (.getfield 55, 3) := by decide +kernel
theorem dX5_tell_60 : decode cX5_tell 60 = .ok (.iload_n 1, 1) := by decide +kernel
theorem dX5_tell_61 : decode cX5_tell 61 = .ok (.iload_n 2, 1) := by decide +kernel
theorem dX5_tell_62 : decode cX5_tell 62 = .ok (.idiv, 1) := by decide +kernel
theorem dX5_tell_63 : decode cX5_tell 63 = .ok (.iaload, 1) := by decide +kernel
theorem dX5_tell_64 : decode cX5_tell 64 = .ok (.ireturn, 1) := by decide +kernel
theorem dJ6_bitCount_0f7a4_0 : decode cJ6_bitCount_0f7a4 0 = .ok (.iload_n 0, 1) := by decide +kernel
theorem dJ6_bitCount_0f7a4_1 : decode cJ6_bitCount_0f7a4 1 = .ok (.iload_n 0, 1) := by decide +kernel
theorem dJ6_bitCount_0f7a4_2 : decode cJ6_bitCount_0f7a4 2 = .ok (.iconst 1, 1) := by decide +kernel
theorem dJ6_bitCount_0f7a4_3 : decode cJ6_bitCount_0f7a4 3 = .ok (.iushr, 1) := by decide +kernel
theorem dJ6_bitCount_0f7a4_4 : decode cJ6_bitCount_0f7a4 4 = .ok (.ldc_w 265, 3) := by decide +kernel
theorem dJ6_bitCount_0f7a4_7 : decode cJ6_bitCount_0f7a4 7 = .ok (.iand, 1) := by decide +kernel
theorem dJ6_bitCount_0f7a4_8 : decode cJ6_bitCount_0f7a4 8 = .ok (.isub, 1) := by decide +kernel
theorem dJ6_bitCount_0f7a4_9 : decode cJ6_bitCount_0f7a4 9 = .ok (.istore_n 0, 1) := by decide +kernel
theorem dJ6_bitCount_0f7a4_10 : decode cJ6_bitCount_0f7a4 10 = .ok (.iload_n 0, 1) := by decide +kernel
theorem dJ6_bitCount_0f7a4_11 : decode cJ6_bitCount_0f7a4 11 = .ok (.ldc_w 266, 3) := by decide +kernel
theorem dJ6_bitCount_0f7a4_14 : decode cJ6_bitCount_0f7a4 14 = .ok (.iand, 1) := by decide +kernel
theorem dJ6_bitCount_0f7a4_15 : decode cJ6_bitCount_0f7a4 15 = .ok (.iload_n 0, 1) := by decide +kernel
theorem dJ6_bitCount_0f7a4_16 : decode cJ6_bitCount_0f7a4 16 = .ok (.iconst 2, 1) := by decide +kernel
theorem dJ6_bitCount_0f7a4_17 : decode cJ6_bitCount_0f7a4 17 = .ok (.iushr, 1) := by decide +kernel
theorem dJ6_bitCount_0f7a4_18 : decode cJ6_bitCount_0f7a4 18 = .ok (.ldc_w 266, 3) := by decide +kernel
theorem dJ6_bitCount_0f7a4_21 : decode cJ6_bitCount_0f7a4 21 = .ok (.iand, 1) := by decide +kernel
theorem dJ6_bitCount_0f7a4_22 : decode cJ6_bitCount_0f7a4 22 = .ok (.iadd, 1) := by decide +kernel
theorem dJ6_bitCount_0f7a4_23 : decode cJ6_bitCount_0f7a4 23 = .ok (.istore_n 0, 1) := by decide +kernel
theorem dJ6_bitCount_0f7a4_24 : decode cJ6_bitCount_0f7a4 24 = .ok (.iload_n 0, 1) := by decide +kernel
theorem dJ6_bitCount_0f7a4_25 : decode cJ6_bitCount_0f7a4 25 = .ok (.iload_n 0, 1) := by decide +kernel
theorem dJ6_bitCount_0f7a4_26 : decode cJ6_bitCount_0f7a4 26 = .ok (.iconst 4, 1) := by decide +kernel
theorem dJ6_bitCount_0f7a4_27 : decode cJ6_bitCount_0f7a4 27 = .ok (.iushr, 1) := by decide +kernel
theorem dJ6_bitCount_0f7a4_28 : decode cJ6_bitCount_0f7a4 28 = .ok (.iadd, 1) := by decide +kernel
theorem dJ6_bitCount_0f7a4_29 : decode cJ6_bitCount_0f7a4 29 = .ok (.ldc_w 267, 3) := by decide +kernel
theorem dJ6_bitCount_0f7a4_32 : decode cJ6_bitCount_0f7a4 32 = .ok (.iand, 1) := by decide +kernel
theorem dJ6_bitCount_0f7a4_33 : decode cJ6_bitCount_0f7a4 33 = .ok (.istore_n 0, 1) := by decide +kernel
theorem dJ6_bitCount_0f7a4_34 : decode cJ6_bitCount_0f7a4 34 = .ok (.iload_n 0, 1) := by decide +kernel
theorem dJ6_bitCount_0f7a4_35 : decode cJ6_bitCount_0f7a4 35 = .ok (.iload_n 0, 1) := by decide +kernel
theorem dJ6_bitCount_0f7a4_36 : decode cJ6_bitCount_0f7a4 36 = .ok (.bipush 8, 2) := by decide +kernel
theorem dJ6_bitCount_0f7a4_38 : decode cJ6_bitCount_0f7a4 38 = .ok (.iushr, 1) := by decide +kernel
theorem dJ6_bitCount_0f7a4_39 : decode cJ6_bitCount_0f7a4 39 = .ok (.iadd, 1) := by decide +kernel
theorem dJ6_bitCount_0f7a4_40 : decode cJ6_bitCount_0f7a4 40 = .ok (.istore_n 0, 1) := by decide +kernel
theorem dJ6_bitCount_0f7a4_41 : decode cJ6_bitCount_0f7a4 41 = .ok (.iload_n 0, 1) := by decide +kernel
theorem dJ6_bitCount_0f7a4_42 : decode cJ6_bitCount_0f7a4 42 = .ok (.iload_n 0, 1) := by decide +kernel
theorem dJ6_bitCount_0f7a4_43 : decode cJ6_bitCount_0f7a4 43 = .ok (.bipush 16, 2) := by decide +kernel
theorem dJ6_bitCount_0f7a4_45 : decode cJ6_bitCount_0f7a4 45 = .ok (.iushr, 1) := by decide +kernel
theorem dJ6_bitCount_0f7a4_46 : decode cJ6_bitCount_0f7a4 46 = .ok (.iadd, 1) := by decide +kernel
theorem dJ6_bitCount_0f7a4_47 : decode cJ6_bitCount_0f7a4 47 = .ok (.istore_n 0, 1) := by decide +kernel
theorem dJ6_bitCount_0f7a4_48 : decode cJ6_bitCount_0f7a4 48 = .ok (.iload_n 0, 1) := by decide +kernel
theorem dJ6_bitCount_0f7a4_49 : decode cJ6_bitCount_0f7a4 49 = .ok (.bipush 63, 2) := by decide +kernel
theorem dJ6_bitCount_0f7a4_51 : decode cJ6_bitCount_0f7a4 51 = .ok (.iand, 1) := by decide +kernel
theorem dJ6_bitCount_0f7a4_52 : decode cJ6_bitCount_0f7a4 52 = .ok (.ireturn, 1) := by decide +kernel
theorem dJ9_floorDiv_7cf53_0 : decode cJ9_floorDiv_7cf53 0 = .ok (.iload_n 0, 1) := by decide +kernel
theorem dJ9_floorDiv_7cf53_1 : decode cJ9_floorDiv_7cf53 1 = .ok (.iload_n 1, 1) := by decide +kernel
theorem dJ9_floorDiv_7cf53_2 : decode cJ9_floorDiv_7cf53 2 = .ok (.idiv, 1) := by decide +kernel
theorem dJ9_floorDiv_7cf53_3 : decode cJ9_floorDiv_7cf53 3 = .ok (.istore_n 2, 1) := by decide +kernel
theorem dJ9_floorDiv_7cf53_4 : decode cJ9_floorDiv_7cf53 4 = .ok (.iload_n 0, 1) := by decide +kernel
theorem dJ9_floorDiv_7cf53_5 : decode cJ9_floorDiv_7cf53 5 = .ok (.iload_n 1, 1) := by decide +kernel
theorem dJ9_floorDiv_7cf53_6 : decode cJ9_floorDiv_7cf53 6 = .ok (.ixor, 1) := by decide +kernel
theorem dJ9_floorDiv_7cf53_7 : decode cJ9_floorDiv_7cf53 7 = .ok (.ifCond .ge 14, 3) := by decide +kernel
theorem dJ9_floorDiv_7cf53_10 : decode cJ9_floorDiv_7cf53 10 = .ok (.iload_n 2, 1) := by decide +kernel
theorem dJ9_floorDiv_7cf53_11 : decode cJ9_floorDiv_7cf53 11 = .ok (.iload_n 1, 1) := by decide +kernel
theorem dJ9_floorDiv_7cf53_12 : decode cJ9_floorDiv_7cf53 12 = .ok (.imul, 1) := by decide +kernel
theorem dJ9_floorDiv_7cf53_13 : decode cJ9_floorDiv_7cf53 13 = .ok (.iload_n 0, 1) := by decide +kernel
theorem dJ9_floorDiv_7cf53_14 : decode cJ9_floorDiv_7cf53 14 = .ok (.if_icmp .eq 7, 3) := by decide +kernel
theorem dJ9_floorDiv_7cf53_17 : decode cJ9_floorDiv_7cf53 17 = .ok (.iload_n 2, 1) := by decide +kernel
theorem dJ9_floorDiv_7cf53_18 : decode cJ9_floorDiv_7cf53 18 = .ok (.iconst 1, 1) := by decide +kernel
theorem dJ9_floorDiv_7cf53_19 : decode cJ9_floorDiv_7cf53 19 = .ok (.isub, 1) := by decide +kernel
theorem dJ9_floorDiv_7cf53_20 : decode cJ9_floorDiv_7cf53 20 = .ok (.ireturn, 1) := by decide +kernel
theorem dJ9_floorDiv_7cf53_21 : decode cJ9_floorDiv_7cf53 21 = .ok (.iload_n 2, 1) := by decide +kernel
theorem dJ9_floorDiv_7cf53_22 : decode cJ9_floorDiv_7cf53 22 = .ok (.ireturn, 1) := by decide +kernel
theorem dJ9_max_7cf53_0 : decode cJ9_max_7cf53 0 = .ok (.iload_n 0, 1) := by decide +kernel
theorem dJ9_max_7cf53_1 : decode cJ9_max_7cf53 1 = .ok (.iload_n 1, 1) := by decide +kernel
theorem dJ9_max_7cf53_2 : decode cJ9_max_7cf53 2 = .ok (.if_icmp .lt 7, 3) := by decide +kernel
theorem dJ9_max_7cf53_5 : decode cJ9_max_7cf53 5 = .ok (.iload_n 0, 1) := by decide +kernel
theorem dJ9_max_7cf53_6 : decode cJ9_max_7cf53 6 = .ok (.goto 4, 3) := by decide +kernel
theorem dJ9_max_7cf53_9 : decode cJ9_max_7cf53 9 = .ok (.iload_n 1, 1) := by decide +kernel
theorem dJ9_max_7cf53_10 : decode cJ9_max_7cf53 10 = .ok (.ireturn, 1) := by decide +kernel
theorem dJ9_min_7cf53_0 : decode cJ9_min_7cf53 0 = .ok (.iload_n 0, 1) := by decide +kernel
theorem dJ9_min_7cf53_1 : decode cJ9_min_7cf53 1 = .ok (.iload_n 1, 1) := by decide +kernel
theorem dJ9_min_7cf53_2 : decode cJ9_min_7cf53 2 = .ok (.if_icmp .gt 7, 3) := by decide +kernel
theorem dJ9_min_7cf53_5 : decode cJ9_min_7cf53 5 = .ok (.iload_n 0, 1) := by decide +kernel
theorem dJ9_min_7cf53_6 : decode cJ9_min_7cf53 6 = .ok (.goto 4, 3) := by decide +kernel
theorem dJ9_min_7cf53_9 : decode cJ9_min_7cf53 9 = .ok (.iload_n 1, 1) := by decide +kernel
theorem dJ9_min_7cf53_10 : decode cJ9_min_7cf53 10 = .ok (.ireturn, 1) := by decide +kernel
theorem dJ7_fill_d0a16_0 : decode cJ7_fill_d0a16 0 = .ok (.iconst 0, 1) := by decide +kernel
theorem dJ7_fill_d0a16_1 : decode cJ7_fill_d0a16 1 = .ok (.istore_n 3, 1) := by decide +kernel
theorem dJ7_fill_d0a16_2 : decode cJ7_fill_d0a16 2 = .ok (.aload_n 0, 1) := by decide +kernel
theorem dJ7_fill_d0a16_3 : decode cJ7_fill_d0a16 3 = .ok (.arraylength, 1) := by decide +kernel
theorem dJ7_fill_d0a16_4 : decode cJ7_fill_d0a16 4 = .ok (.istore 4, 2) := by decide +kernel
theorem dJ7_fill_d0a16_6 : decode cJ7_fill_d0a16 6 = .ok (.iload_n 3, 1) := by decide +kernel
theorem dJ7_fill_d0a16_7 : decode cJ7_fill_d0a16 7 = .ok (.iload 4, 2) := by decide +kernel
theorem dJ7_fill_d0a16_9 : decode cJ7_fill_d0a16 9 = .ok (.if_icmp .ge 13, 3) := by decide +kernel
theorem dJ7_fill_d0a16_12 : decode cJ7_fill_d0a16 12 = .ok (.aload_n 0, 1) := by decide +kernel
theorem dJ7_fill_d0a16_13 : decode cJ7_fill_d0a16 13 = .ok (.iload_n 3, 1) := by decide +kernel
theorem dJ7_fill_d0a16_14 : decode cJ7_fill_d0a16 14 = .ok (.lload_n 1, 1) := by decide +kernel
theorem dJ7_fill_d0a16_15 : decode cJ7_fill_d0a16 15 = .ok (.lastore, 1) := by decide +kernel
theorem dJ7_fill_d0a16_16 : decode cJ7_fill_d0a16 16 = .ok (.iinc 3 1, 3) := by decide +kernel
theorem dJ7_fill_d0a16_19 : decode cJ7_fill_d0a16 19 = .ok (.goto (-13), 3) := by decide +kernel
theorem dJ7_fill_d0a16_22 : decode cJ7_fill_d0a16 22 = .ok (.return_, 1) := by decide +kernel
theorem dJ7_fill_53178_0 : decode cJ7_fill_53178 0 = .ok (.iconst 0, 1) := by decide +kernel
theorem dJ7_fill_53178_1 : decode cJ7_fill_53178 1 = .ok (.istore_n 2, 1) := by decide +kernel
theorem dJ7_fill_53178_2 : decode cJ7_fill_53178 2 = .ok (.aload_n 0, 1) := by decide +kernel
theorem dJ7_fill_53178_3 : decode cJ7_fill_53178 3 = .ok (.arraylength, 1) := by decide +kernel
theorem dJ7_fill_53178_4 : decode cJ7_fill_53178 4 = .ok (.istore_n 3, 1) := by decide +kernel
theorem dJ7_fill_53178_5 : decode cJ7_fill_53178 5 = .ok (.iload_n 2, 1) := by decide +kernel
theorem dJ7_fill_53178_6 : decode cJ7_fill_53178 6 = .ok (.iload_n 3, 1) := by decide +kernel
theorem dJ7_fill_53178_7 : decode cJ7_fill_53178 7 = .ok (.if_icmp .ge 13, 3) := by decide +kernel
theorem dJ7_fill_53178_10 : decode cJ7_fill_53178 10 = .ok (.aload_n 0, 1) := by decide +kernel
theorem dJ7_fill_53178_11 : decode cJ7_fill_53178 11 = .ok (.iload_n 2, 1) := by decide +kernel
theorem dJ7_fill_53178_12 : decode cJ7_fill_53178 12 = .ok (.iload_n 1, 1) := by decide +kernel
theorem dJ7_fill_53178_13 : decode cJ7_fill_53178 13 = .ok (.iastore, 1) := by decide +kernel
theorem dJ7_fill_53178_14 : decode cJ7_fill_53178 14 = .ok (.iinc 2 1, 3) := by decide +kernel
theorem dJ7_fill_53178_17 : decode cJ7_fill_53178 17 = .ok (.goto (-12), 3) := by decide +kernel
theorem dJ7_fill_53178_20 : decode cJ7_fill_53178 20 = .ok (.return_, 1) := by decide +kernel
theorem dL_cell_0 : decode cL_cell 0 = .ok (.iload_n 1, 1) := by decide +kernel
theorem dL_cell_1 : decode cL_cell 1 = .ok (.aload_n 0, 1) := by decide +kernel
theorem dL_cell_2 : decode cL_cell 2 = .ok (.arraylength, 1) := by decide +kernel
theorem dL_cell_3 : decode cL_cell 3 = .ok (.if_icmp .ge 9, 3) := by decide +kernel
theorem dL_cell_6 : decode cL_cell 6 = .ok (.aload_n 0, 1) := by decide +kernel
theorem dL_cell_7 : decode cL_cell 7 = .ok (.iload_n 1, 1) := by decide +kernel
theorem dL_cell_8 : decode cL_cell 8 = .ok (.iaload, 1) := by decide +kernel
theorem dL_cell_9 : decode cL_cell 9 = .ok (.goto 4, 3) := by decide +kernel
theorem dL_cell_12 : decode cL_cell 12 = .ok (.iconst 0, 1) := by decide +kernel
theorem dL_cell_13 : decode cL_cell 13 = .ok (.ireturn, 1) := by decide +kernel
