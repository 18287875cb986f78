theorem dX3_init_23 : decode cX3_init 23 = .ok (.newarray .int, 2) := by decide +kernel
theorem dX3_init_25 : decode cX3_init 25 = .ok (.putfield 18, 3) := by decide +kernel
theorem dX3_init_28 : decode cX3_init 28 = .ok (.aload_n 0, 1) := by decide +kernel
theorem dX3_init_29 : decode cX3_init 29 = .ok (.bipush 16, 2) := by decide +kernel
theorem dX3_init_31 : decode cX3_init 31 = .ok (.newarray .int, 2) := by decide +kernel
theorem dX3_init_33 : decode cX3_init 33 = .ok (.putfield 21, 3) := by decide +kernel
theorem dX3_init_36 : decode cX3_init 36 = .ok (.aload_n 0, 1) := by decide +kernel
theorem dX3_init_37 : decode cX3_init 37 = .ok (.bipush 16, 2) := by decide +kernel
theorem dX3_init_39 : decode cX3_init 39 = .ok (.newarray .boolean, 2) := by decide +kernel
theorem dX3_init_41 : decode cX3_init 41 = .ok (.putfield 24, 3) := by decide +kernel
theorem dX3_init_44 : decode cX3_init 44 = .ok (.aload_n 0, 1) := by decide +kernel
theorem dX3_init_45 : decode cX3_init 45 = .ok (.iconst 1, 1) := by decide +kernel
theorem dX3_init_46 : decode cX3_init 46 = .ok (.putfield 28, 3) := by decide +kernel
theorem dX3_init_49 : decode cX3_init 49 = .ok (.aload_n 0, 1) := by decide +kernel
theorem dX3_init_50 : decode cX3_init 50 = .ok (.getfield 9, 3) := by decide +kernel
theorem dX3_init_53 : decode cX3_init 53 = .ok (.iconst 1, 1) := by decide +kernel
theorem dX3_init_54 : decode cX3_init 54 = .ok (.invokestatic 32, 3) := by decide +kernel
theorem dX3_init_57 : decode cX3_init 57 = .ok (.return_, 1) := by decide +kernel
theorem dX3_isThing_0 : decode cX3_isThing 0 = .ok (.iload_n 1, 1) := by decide +kernel
theorem dX3_isThing_1 : decode cX3_isThing 1 = .ok (.ifCond .lt 15, 3) := by decide +kernel
theorem dX3_isThing_4 : decode cX3_isThing 4 = .ok (.iload_n 1, 1) := by decide +kernel
theorem dX3_isThing_5 : decode cX3_isThing 5 = .ok (.aload_n 0, 1) := by decide +kernel
theorem dX3_isThing_6 : decode cX3_isThing 6 = .ok (.getfield 28, 3) := by decide +kernel
theorem dX3_isThing_9 : decode cX3_isThing 9 = .ok (.if_icmp .ge 7, 3) := by decide +kernel
theorem dX3_isThing_12 : decode cX3_isThing 12 = .ok (.iconst 1, 1) := by decide +kernel
theorem dX3_isThing_13 : decode cX3_isThing 13 = .ok (.goto 4, 3) := by decide +kernel
theorem dX3_isThing_16 : decode cX3_isThing 16 = .ok (.iconst 0, 1) := by decide +kernel
theorem dX3_isThing_17 : decode cX3_isThing 17 = .ok (.ireturn, 1) := by decide +kernel
set_option maxRecDepth 20000 in
theorem ggX3_setThings_J7_fill_53178 : GoodIn wsX3_setThings wsJ7_fill_53178 := goodIn_r _ [6] (by decide +kernel) (by decide +kernel)
set_option maxRecDepth 20000 in
theorem gX3_setThings_J7_fill_53178 : GoodIn wsX3_setThings (va_wsS RX3 32 yJ7_fill_53178 wsJ7_fill_53178) := goodIn_app (goodIn_of _ (by decide +kernel)) ggX3_setThings_J7_fill_53178
theorem dX3_setThings_0 : decode cX3_setThings 0 = .ok (.aload_n 0, 1) := by decide +kernel
theorem dX3_setThings_1 : decode cX3_setThings 1 = .ok (.getfield 28, 3) := by decide +kernel
theorem dX3_setThings_4 : decode cX3_setThings 4 = .ok (.istore_n 2, 1) := by decide +kernel
theorem dX3_setThings_5 : decode cX3_setThings 5 = .ok (.aload_n 0, 1) := by decide +kernel
theorem dX3_setThings_6 : decode cX3_setThings 6 = .ok (.iload_n 1, 1) := by decide +kernel
theorem dX3_setThings_7 : decode cX3_setThings 7 = .ok (.putfield 28, 3) := by decide +kernel
theorem dX3_setThings_10 : decode cX3_setThings 10 = .ok (.aload_n 0, 1) := by decide +kernel
theorem dX3_setThings_11 : decode cX3_setThings 11 = .ok (.getfield 9, 3) := by decide +kernel
theorem dX3_setThings_14 : decode cX3_setThings 14 = .ok (.iconst 1, 1) := by decide +kernel
theorem dX3_setThings_15 : decode cX3_setThings 15 = .ok (.invokestatic 32, 3) := by decide +kernel
theorem dX3_setThings_18 : decode cX3_setThings 18 = .ok (.iload_n 2, 1) := by decide +kernel
theorem dX3_setThings_19 : decode cX3_setThings 19 = .ok (.ireturn, 1) := by decide +kernel
theorem dX3_setWeight_0 : decode cX3_setWeight 0 = .ok (.aload_n 0, 1) := by decide +kernel
theorem dX3_setWeight_1 : decode cX3_setWeight 1 = .ok (.getfield 9, 3) := by decide +kernel
theorem dX3_setWeight_4 : decode cX3_setWeight 4 = .ok (.iload_n 1, 1) := by decide +kernel
theorem dX3_setWeight_5 : decode cX3_setWeight 5 = .ok (.iaload, 1) := by decide +kernel
theorem dX3_setWeight_6 : decode cX3_setWeight 6 = .ok (.istore_n 3, 1) := by decide +kernel
theorem dX3_setWeight_7 : decode cX3_setWeight 7 = .ok (.aload_n 0, 1) := by decide +kernel
theorem dX3_setWeight_8 : decode cX3_setWeight 8 = .ok (.getfield 9, 3) := by decide +kernel
theorem dX3_setWeight_11 : decode cX3_setWeight 11 = .ok (.iload_n 1, 1) := by decide +kernel
theorem dX3_setWeight_12 : decode cX3_setWeight 12 = .ok (.iload_n 2, 1) := by decide +kernel
theorem dX3_setWeight_13 : decode cX3_setWeight 13 = .ok (.iastore, 1) := by decide +kernel
theorem dX3_setWeight_14 : decode cX3_setWeight 14 = .ok (.iload_n 3, 1) := by decide +kernel
theorem dX3_setWeight_15 : decode cX3_setWeight 15 = .ok (.ireturn, 1) := by decide +kernel
theorem dX3_sum_0 : decode cX3_sum 0 = .ok (.iconst 0, 1) := by decide +kernel
theorem dX3_sum_1 : decode cX3_sum 1 = .ok (.istore_n 1, 1) := by decide +kernel
theorem dX3_sum_2 : decode cX3_sum 2 = .ok (.iconst 0, 1) := by decide +kernel
theorem dX3_sum_3 : decode cX3_sum 3 = .ok (.istore_n 2, 1) := by decide +kernel
theorem dX3_sum_4 : decode cX3_sum 4 = .ok (.iload_n 2, 1) := by decide +kernel
theorem dX3_sum_5 : decode cX3_sum 5 = .ok (.aload_n 0, 1) := by decide +kernel
theorem dX3_sum_6 : decode cX3_sum 6 = .ok (.getfield 28, 3) := by decide +kernel
theorem dX3_sum_9 : decode cX3_sum 9 = .ok (.if_icmp .ge 18, 3) := by decide +kernel
theorem dX3_sum_12 : decode cX3_sum 12 = .ok (.iload_n 1, 1) := by decide +kernel
theorem dX3_sum_13 : decode cX3_sum 13 = .ok (.aload_n 0, 1) := by decide +kernel
theorem dX3_sum_14 : decode cX3_sum 14 = .ok (.getfield 9, 3) := by decide +kernel
theorem dX3_sum_17 : decode cX3_sum 17 = .ok (.iload_n 2, 1) := by decide +kernel
theorem dX3_sum_18 : decode cX3_sum 18 = .ok (.iaload, 1) := by decide +kernel
theorem dX3_sum_19 : decode cX3_sum 19 = .ok (.iadd, 1) := by decide +kernel
theorem dX3_sum_20 : decode cX3_sum 20 = .ok (.istore_n 1, 1) := by decide +kernel
theorem dX3_sum_21 : decode cX3_sum 21 = .ok (.iinc 2 1, 3) := by decide +kernel
theorem dX3_sum_24 : decode cX3_sum 24 = .ok (.goto (-20), 3) := by decide +kernel
theorem dX3_sum_27 : decode cX3_sum 27 = .ok (.iload_n 1, 1) := by decide +kernel
theorem dX3_sum_28 : decode cX3_sum 28 = .ok (.ireturn, 1) := by decide +kernel
set_option maxRecDepth 20000 in
theorem ggX3_make_X3_firstUnder : GoodIn wsX3_make wsX3_firstUnder := goodIn_r _ [11, 1, 6, 2, 16, 17, 18, 19, 20, 21] (by decide +kernel) (by decide +kernel)
set_option maxRecDepth 20000 in
theorem gX3_make_X3_firstUnder : GoodIn wsX3_make (wsV RX3 38 RX3 yX3_firstUnder wsX3_firstUnder) := goodIn_app (goodIn_of _ (by decide +kernel)) ggX3_make_X3_firstUnder
set_option maxRecDepth 20000 in
theorem ggX3_make_X3_firstOver : GoodIn wsX3_make wsX3_firstOver := goodIn_r _ [15, 1, 6, 2, 16, 17, 18, 19, 20, 21] (by decide +kernel) (by decide +kernel)
set_option maxRecDepth 20000 in
theorem gX3_make_X3_firstOver : GoodIn wsX3_make (wsV RX3 42 RX3 yX3_firstOver wsX3_firstOver) := goodIn_app (goodIn_of _ (by decide +kernel)) ggX3_make_X3_firstOver
theorem dX3_make_0 : decode cX3_make 0 = .ok (.iconst 0, 1) := by decide +kernel
theorem dX3_make_1 : decode cX3_make 1 = .ok (.istore_n 2, 1) := by decide +kernel
theorem dX3_make_2 : decode cX3_make 2 = .ok (.iload_n 2, 1) := by decide +kernel
theorem dX3_make_3 : decode cX3_make 3 = .ok (.aload_n 0, 1) := by decide +kernel
theorem dX3_make_4 : decode cX3_make 4 = .ok (.getfield 28, 3) := by decide +kernel
theorem dX3_make_7 : decode cX3_make 7 = .ok (.if_icmp .ge 47, 3) := by decide +kernel
theorem dX3_make_10 : decode cX3_make 10 = .ok (.aload_n 0, 1) := by decide +kernel
theorem dX3_make_11 : decode cX3_make 11 = .ok (.getfield 15, 3) := by decide +kernel
theorem dX3_make_14 : decode cX3_make 14 = .ok (.iload_n 2, 1) := by decide +kernel
theorem dX3_make_15 : decode cX3_make 15 = .ok (.aload_n 0, 1) := by decide +kernel
theorem dX3_make_16 : decode cX3_make 16 = .ok (.getfield 28, 3) := by decide +kernel
theorem dX3_make_19 : decode cX3_make 19 = .ok (.aload_n 0, 1) := by decide +kernel
theorem dX3_make_20 : decode cX3_make 20 = .ok (.getfield 9, 3) := by decide +kernel
theorem dX3_make_23 : decode cX3_make 23 = .ok (.iload_n 2, 1) := by decide +kernel
theorem dX3_make_24 : decode cX3_make 24 = .ok (.iaload, 1) := by decide +kernel
theorem dX3_make_25 : decode cX3_make 25 = .ok (.imul, 1) := by decide +kernel
theorem dX3_make_26 : decode cX3_make 26 = .ok (.iastore, 1) := by decide +kernel
theorem dX3_make_27 : decode cX3_make 27 = .ok (.aload_n 0, 1) := by decide +kernel
theorem dX3_make_28 : decode cX3_make 28 = .ok (.getfield 18, 3) := by decide +kernel
theorem dX3_make_31 : decode cX3_make 31 = .ok (.iload_n 2, 1) := by decide +kernel
theorem dX3_make_32 : decode cX3_make 32 = .ok (.iload_n 1, 1) := by decide +kernel
theorem dX3_make_33 : decode cX3_make 33 = .ok (.iastore, 1) := by decide +kernel
theorem dX3_make_34 : decode cX3_make 34 = .ok (.aload_n 0, 1) := by decide +kernel
theorem dX3_make_35 : decode cX3_make 35 = .ok (.getfield 21, 3) := by decide +kernel
theorem dX3_make_38 : decode cX3_make 38 = .ok (.iload_n 2, 1) := by decide +kernel
theorem dX3_make_39 : decode cX3_make 39 = .ok (.iload_n 2, 1) := by decide +kernel
theorem dX3_make_40 : decode cX3_make 40 = .ok (.iastore, 1) := by decide +kernel
theorem dX3_make_41 : decode cX3_make 41 = .ok (.aload_n 0, 1) := by decide +kernel
theorem dX3_make_42 : decode cX3_make 42 = .ok (.getfield 24, 3) := by decide +kernel
theorem dX3_make_45 : decode cX3_make 45 = .ok (.iload_n 2, 1) := by decide +kernel
theorem dX3_make_46 : decode cX3_make 46 = .ok (.iconst 0, 1) := by decide +kernel
theorem dX3_make_47 : decode cX3_make 47 = .ok (.bastore, 1) := by decide +kernel
theorem dX3_make_48 : decode cX3_make 48 = .ok (.iinc 2 1, 3) := by decide +kernel
theorem dX3_make_51 : decode cX3_make 51 = .ok (.goto (-49), 3) := by decide +kernel
theorem dX3_make_54 : decode cX3_make 54 = .ok (.iconst 0, 1) := by decide +kernel
theorem dX3_make_55 : decode cX3_make 55 = .ok (.istore_n 2, 1) := by decide +kernel
theorem dX3_make_56 : decode cX3_make 56 = .ok (.iload_n 2, 1) := by decide +kernel
theorem dX3_make_57 : decode cX3_make 57 = .ok (.aload_n 0, 1) := by decide +kernel
theorem dX3_make_58 : decode cX3_make 58 = .ok (.getfield 28, 3) := by decide +kernel
theorem dX3_make_61 : decode cX3_make 61 = .ok (.if_icmp .ge 81, 3) := by decide +kernel
theorem dX3_make_64 : decode cX3_make 64 = .ok (.aload_n 0, 1) := by decide +kernel
theorem dX3_make_65 : decode cX3_make 65 = .ok (.iload_n 1, 1) := by decide +kernel
theorem dX3_make_66 : decode cX3_make 66 = .ok (.invokevirtual 38, 3) := by decide +kernel
theorem dX3_make_69 : decode cX3_make 69 = .ok (.istore_n 3, 1) := by decide +kernel
theorem dX3_make_70 : decode cX3_make 70 = .ok (.aload_n 0, 1) := by decide +kernel
theorem dX3_make_71 : decode cX3_make 71 = .ok (.iload_n 1, 1) := by decide +kernel
theorem dX3_make_72 : decode cX3_make 72 = .ok (.invokevirtual 42, 3) := by decide +kernel
theorem dX3_make_75 : decode cX3_make 75 = .ok (.istore 4, 2) := by decide +kernel
theorem dX3_make_77 : decode cX3_make 77 = .ok (.iload_n 3, 1) := by decide +kernel
theorem dX3_make_78 : decode cX3_make 78 = .ok (.bipush (-2), 2) := by decide +kernel
theorem dX3_make_80 : decode cX3_make 80 = .ok (.if_icmp .eq 10, 3) := by decide +kernel
theorem dX3_make_83 : decode cX3_make 83 = .ok (.iload 4, 2) := by decide +kernel
theorem dX3_make_85 : decode cX3_make 85 = .ok (.bipush (-2), 2) := by decide +kernel
theorem dX3_make_87 : decode cX3_make 87 = .ok (.if_icmp .ne 4, 3) := by decide +kernel
theorem dX3_make_90 : decode cX3_make 90 = .ok (.return_, 1) := by decide +kernel
theorem dX3_make_91 : decode cX3_make 91 = .ok (.aload_n 0, 1) := by decide +kernel
theorem dX3_make_92 : decode cX3_make 92 = .ok (.getfield 18, 3) := by decide +kernel
theorem dX3_make_95 : decode cX3_make 95 = .ok (.iload_n 3, 1) := by decide +kernel
theorem dX3_make_96 : decode cX3_make 96 = .ok (.aload_n 0, 1) := by decide +kernel
theorem dX3_make_97 : decode cX3_make 97 = .ok (.getfield 15, 3) := by decide +kernel
theorem dX3_make_100 : decode cX3_make 100 = .ok (.iload_n 3, 1) := by decide +kernel
theorem dX3_make_101 : decode cX3_make 101 = .ok (.iaload, 1) := by decide +kernel
theorem dX3_make_102 : decode cX3_make 102 = .ok (.iastore, 1) := by decide +kernel
theorem dX3_make_103 : decode cX3_make 103 = .ok (.aload_n 0, 1) := by decide +kernel
theorem dX3_make_104 : decode cX3_make 104 = .ok (.getfield 21, 3) := by decide +kernel
theorem dX3_make_107 : decode cX3_make 107 = .ok (.iload_n 3, 1) := by decide +kernel
theorem dX3_make_108 : decode cX3_make 108 = .ok (.iload 4, 2) := by decide +kernel
theorem dX3_make_110 : decode cX3_make 110 = .ok (.iastore, 1) := by decide +kernel
theorem dX3_make_111 : decode cX3_make 111 = .ok (.aload_n 0, 1) := by decide +kernel
theorem dX3_make_112 : decode cX3_make 112 = .ok (.getfield 24, 3) := by decide +kernel
theorem dX3_make_115 : decode cX3_make 115 = .ok (.iload_n 3, 1) := by decide +kernel
theorem dX3_make_116 : decode cX3_make 116 = .ok (.iconst 1, 1) := by decide +kernel
theorem dX3_make_117 : decode cX3_make 117 = .ok (.bastore, 1) := by decide +kernel
theorem dX3_make_118 : decode cX3_make 118 = .ok (.aload_n 0, 1) := by decide +kernel
theorem dX3_make_119 : decode cX3_make 119 = .ok (.getfield 15, 3) := by decide +kernel
theorem dX3_make_122 : decode cX3_make 122 = .ok (.iload 4, 2) := by decide +kernel
theorem dX3_make_124 : decode cX3_make 124 = .ok (.dup2, 1) := by decide +kernel
theorem dX3_make_125 : decode cX3_make 125 = .ok (.iaload, 1) := by decide +kernel
theorem dX3_make_126 : decode cX3_make 126 = .ok (.iload_n 1, 1) := by decide +kernel
theorem dX3_make_127 : decode cX3_make 127 = .ok (.aload_n 0, 1) := by decide +kernel
theorem dX3_make_128 : decode cX3_make 128 = .ok (.getfield 18, 3) := by decide +kernel
theorem dX3_make_131 : decode cX3_make 131 = .ok (.iload_n 3, 1) := by decide +kernel
theorem dX3_make_132 : decode cX3_make 132 = .ok (.iaload, 1) := by decide +kernel
theorem dX3_make_133 : decode cX3_make 133 = .ok (.isub, 1) := by decide +kernel
theorem dX3_make_134 : decode cX3_make 134 = .ok (.isub, 1) := by decide +kernel
theorem dX3_make_135 : decode cX3_make 135 = .ok (.iastore, 1) := by decide +kernel
theorem dX3_make_136 : decode cX3_make 136 = .ok (.iinc 2 1, 3) := by decide +kernel
theorem dX3_make_139 : decode cX3_make 139 = .ok (.goto (-83), 3) := by decide +kernel
theorem dX3_make_142 : decode cX3_make 142 = .ok (.return_, 1) := by decide +kernel
theorem dX3_firstUnder_0 : decode cX3_firstUnder 0 = .ok (.iconst 0, 1) := by decide +kernel
theorem dX3_firstUnder_1 : decode cX3_firstUnder 1 = .ok (.istore_n 2, 1) := by decide +kernel
theorem dX3_firstUnder_2 : decode cX3_firstUnder 2 = .ok (.iload_n 2, 1) := by decide +kernel
theorem dX3_firstUnder_3 : decode cX3_firstUnder 3 = .ok (.aload_n 0, 1) := by decide +kernel
theorem dX3_firstUnder_4 : decode cX3_firstUnder 4 = .ok (.getfield 28, 3) := by decide +kernel
theorem dX3_firstUnder_7 : decode cX3_firstUnder 7 = .ok (.if_icmp .ge 30, 3) := by decide +kernel
theorem dX3_firstUnder_10 : decode cX3_firstUnder 10 = .ok (.aload_n 0, 1) := by decide +kernel
theorem dX3_firstUnder_11 : decode cX3_firstUnder 11 = .ok (.getfield 24, 3) := by decide +kernel
theorem dX3_firstUnder_14 : decode cX3_firstUnder 14 = .ok (.iload_n 2, 1) := by decide +kernel
theorem dX3_firstUnder_15 : decode cX3_firstUnder 15 = .ok (.baload, 1) := by decide +kernel
theorem dX3_firstUnder_16 : decode cX3_firstUnder 16 = .ok (.ifCond .ne 15, 3) := by decide +kernel
theorem dX3_firstUnder_19 : decode cX3_firstUnder 19 = .ok (.aload_n 0, 1) := by decide +kernel
theorem dX3_firstUnder_20 : decode cX3_firstUnder 20 = .ok (.getfield 15, 3) := by decide +kernel
theorem dX3_firstUnder_23 : decode cX3_firstUnder 23 = .ok (.iload_n 2, 1) := by decide +kernel
theorem dX3_firstUnder_24 : decode cX3_firstUnder 24 = .ok (.iaload, 1) := by decide +kernel
theorem dX3_firstUnder_25 : decode cX3_firstUnder 25 = .ok (.iload_n 1, 1) := by decide +kernel
theorem dX3_firstUnder_26 : decode cX3_firstUnder 26 = .ok (.if_icmp .ge 5, 3) := by decide +kernel
theorem dX3_firstUnder_29 : decode cX3_firstUnder 29 = .ok (.iload_n 2, 1) := by decide +kernel
theorem dX3_firstUnder_30 : decode cX3_firstUnder 30 = .ok (.ireturn, 1) := by decide +kernel
theorem dX3_firstUnder_31 : decode cX3_firstUnder 31 = .ok (.iinc 2 1, 3) := by decide +kernel
theorem dX3_firstUnder_34 : decode cX3_firstUnder 34 = .ok (.goto (-32), 3) := by decide +kernel
theorem dX3_firstUnder_37 : decode cX3_firstUnder 37 = .ok (.bipush (-2), 2) := by decide +kernel
theorem dX3_firstUnder_39 : decode cX3_firstUnder 39 = .ok (.ireturn, 1) := by decide +kernel
theorem dX3_firstOver_0 : decode cX3_firstOver 0 = .ok (.iconst 0, 1) := by decide +kernel
theorem dX3_firstOver_1 : decode cX3_firstOver 1 = .ok (.istore_n 2, 1) := by decide +kernel
theorem dX3_firstOver_2 : decode cX3_firstOver 2 = .ok (.iload_n 2, 1) := by decide +kernel
theorem dX3_firstOver_3 : decode cX3_firstOver 3 = .ok (.aload_n 0, 1) := by decide +kernel
theorem dX3_firstOver_4 : decode cX3_firstOver 4 = .ok (.getfield 28, 3) := by decide +kernel
theorem dX3_firstOver_7 : decode cX3_firstOver 7 = .ok (.if_icmp .ge 30, 3) := by decide +kernel
theorem dX3_firstOver_10 : decode cX3_firstOver 10 = .ok (.aload_n 0, 1) := by decide +kernel
theorem dX3_firstOver_11 : decode cX3_firstOver 11 = .ok (.getfield 24, 3) := by decide +kernel
theorem dX3_firstOver_14 : decode cX3_firstOver 14 = .ok (.iload_n 2, 1) := by decide +kernel
theorem dX3_firstOver_15 : decode cX3_firstOver 15 = .ok (.baload, 1) := by decide +kernel
theorem dX3_firstOver_16 : decode cX3_firstOver 16 = .ok (.ifCond .ne 15, 3) := by decide +kernel
theorem dX3_firstOver_19 : decode cX3_firstOver 19 = .ok (.aload_n 0, 1) := by decide +kernel
theorem dX3_firstOver_20 : decode cX3_firstOver 20 = .ok (.getfield 15, 3) := by decide +kernel
theorem dX3_firstOver_23 : decode cX3_firstOver 23 = .ok (.iload_n 2, 1) := by decide +kernel
theorem dX3_firstOver_24 : decode cX3_firstOver 24 = .ok (.iaload, 1) := by decide +kernel
theorem dX3_firstOver_25 : decode cX3_firstOver 25 = .ok (.iload_n 1, 1) := by decide +kernel
theorem dX3_firstOver_26 : decode cX3_firstOver 26 = .ok (.if_icmp .le 5, 3) := by decide +kernel
theorem dX3_firstOver_29 : decode cX3_firstOver 29 = .ok (.iload_n 2, 1) := by decide +kernel
theorem dX3_firstOver_30 : decode cX3_firstOver 30 = .ok (.ireturn, 1) := by decide +kernel
theorem dX3_firstOver_31 : decode cX3_firstOver 31 = .ok (.iinc 2 1, 3) := by decide +kernel
theorem dX3_firstOver_34 : decode cX3_firstOver 34 = .ok (.goto (-32), 3) := by decide +kernel
theorem dX3_firstOver_37 : decode cX3_firstOver 37 = .ok (.bipush (-2), 2) := by decide +kernel
theorem dX3_firstOver_39 : decode cX3_firstOver 39 = .ok (.ireturn, 1) := by decide +kernel
theorem dX3_limitOf_0 : decode cX3_limitOf 0 = .ok (.aload_n 0, 1) := by decide +kernel
theorem dX3_limitOf_1 : decode cX3_limitOf 1 = .ok (.getfield 18, 3) := by decide +kernel
theorem dX3_limitOf_4 : decode cX3_limitOf 4 = .ok (.iload_n 1, 1) := by decide +kernel
theorem dX3_limitOf_5 : decode cX3_limitOf 5 = .ok (.iaload, 1) := by decide +kernel
theorem dX3_limitOf_6 : decode cX3_limitOf 6 = .ok (.ireturn, 1) := by decide +kernel
theorem dX3_otherOf_0 : decode cX3_otherOf 0 = .ok (.aload_n 0, 1) := by decide +kernel
theorem dX3_otherOf_1 : decode cX3_otherOf 1 = .ok (.getfield 21, 3) := by decide +kernel
theorem dX3_otherOf_4 : decode cX3_otherOf 4 = .ok (.iload_n 1, 1) := by decide +kernel
theorem dX3_otherOf_5 : decode cX3_otherOf 5 = .ok (.iaload, 1) := by decide +kernel
theorem dX3_otherOf_6 : decode cX3_otherOf 6 = .ok (.ireturn, 1) := by decide +kernel
theorem dX3_thingAt_0 : decode cX3_thingAt 0 = .ok (.iload_n 2, 1) := by decide +kernel
theorem dX3_thingAt_1 : decode cX3_thingAt 1 = .ok (.aload_n 0, 1) := by decide +kernel
theorem dX3_thingAt_2 : decode cX3_thingAt 2 = .ok (.getfield 18, 3) := by decide +kernel
theorem dX3_thingAt_5 : decode cX3_thingAt 5 = .ok (.iload_n 1, 1) := by decide +kernel
theorem dX3_thingAt_6 : decode cX3_thingAt 6 = .ok (.iaload, 1) := by decide +kernel
theorem dX3_thingAt_7 : decode cX3_thingAt 7 = .ok (.if_icmp .ge 7, 3) := by decide +kernel
theorem dX3_thingAt_10 : decode cX3_thingAt 10 = .ok (.iload_n 1, 1) := by decide +kernel
theorem dX3_thingAt_11 : decode cX3_thingAt 11 = .ok (.goto 9, 3) := by decide +kernel
theorem dX3_thingAt_14 : decode cX3_thingAt 14 = .ok (.aload_n 0, 1) := by decide +kernel
theorem dX3_thingAt_15 : decode cX3_thingAt 15 = .ok (.getfield 21, 3) := by decide +kernel
theorem dX3_thingAt_18 : decode cX3_thingAt 18 = .ok (.iload_n 1, 1) := by decide +kernel
theorem dX3_thingAt_19 : decode cX3_thingAt 19 = .ok (.iaload, 1) := by decide +kernel
theorem dX3_thingAt_20 : decode cX3_thingAt 20 = .ok (.ireturn, 1) := by decide +kernel
set_option maxRecDepth 20000 in
theorem ggX4_init_X0_init : GoodIn wsX4_init wsX0_init := goodIn_r _ [30, 31, 2, 3, 32, 33, 34, 35, 36, 37, 38, 39, 40, 41, 42, 81, 82, 83, 84, 85, 86, 87] (by decide +kernel) (by decide +kernel)
set_option maxRecDepth 20000 in
theorem gX4_init_X0_init : GoodIn wsX4_init (wsX0_init) := ggX4_init_X0_init
set_option maxRecDepth 20000 in
theorem ggX4_init_X1_init : GoodIn wsX4_init wsX1_init := goodIn_r _ [45, 46, 2, 3, 47, 48, 34, 49, 50, 51, 52, 41, 53, 54, 55, 56, 57, 88, 89, 90, 91] (by decide +kernel) (by decide +kernel)
set_option maxRecDepth 20000 in
theorem gX4_init_X1_init : GoodIn wsX4_init (wsX1_init) := ggX4_init_X1_init
set_option maxRecDepth 20000 in
theorem ggX4_init_X2_init : GoodIn wsX4_init wsX2_init := goodIn_r _ [60, 61, 2, 3, 34, 62, 63, 64, 55, 56, 57, 92, 93] (by decide +kernel) (by decide +kernel)
set_option maxRecDepth 20000 in
theorem gX4_init_X2_init : GoodIn wsX4_init (wsX2_init) := ggX4_init_X2_init
set_option maxRecDepth 20000 in
theorem ggX4_init_X3_init : GoodIn wsX4_init wsX3_init := goodIn_r _ [67, 68, 2, 3, 34, 69, 70, 71, 72, 50, 73, 74, 75, 55, 56, 57, 94, 95, 96, 97, 98, 99] (by decide +kernel) (by decide +kernel)
set_option maxRecDepth 20000 in
theorem gX4_init_X3_init : GoodIn wsX4_init (wsX3_init) := ggX4_init_X3_init
theorem dX4_init_0 : decode cX4_init 0 = .ok (.aload_n 0, 1) := by decide +kernel
theorem dX4_init_1 : decode cX4_init 1 = .ok (.invokespecial 1, 3) := by decide +kernel
theorem dX4_init_4 : decode cX4_init 4 = .ok (.aload_n 0, 1) := by decide +kernel
theorem dX4_init_5 : decode cX4_init 5 = .ok (.iconst 1, 1) := by decide +kernel
theorem dX4_init_6 : decode cX4_init 6 = .ok (.bipush 12, 2) := by decide +kernel
theorem dX4_init_8 : decode cX4_init 8 = .ok (.iload_n 1, 1) := by decide +kernel
theorem dX4_init_9 : decode cX4_init 9 = .ok (.invokestatic 9, 3) := by decide +kernel
theorem dX4_init_12 : decode cX4_init 12 = .ok (.invokestatic 15, 3) := by decide +kernel
theorem dX4_init_15 : decode cX4_init 15 = .ok (.putfield 18, 3) := by decide +kernel
theorem dX4_init_18 : decode cX4_init 18 = .ok (.aload_n 0, 1) := by decide +kernel
theorem dX4_init_19 : decode cX4_init 19 = .ok (.new 22, 3) := by decide +kernel
theorem dX4_init_22 : decode cX4_init 22 = .ok (.dup, 1) := by decide +kernel
theorem dX4_init_23 : decode cX4_init 23 = .ok (.aload_n 0, 1) := by decide +kernel
theorem dX4_init_24 : decode cX4_init 24 = .ok (.getfield 18, 3) := by decide +kernel
theorem dX4_init_27 : decode cX4_init 27 = .ok (.invokespecial 24, 3) := by decide +kernel
theorem dX4_init_30 : decode cX4_init 30 = .ok (.putfield 27, 3) := by decide +kernel
theorem dX4_init_33 : decode cX4_init 33 = .ok (.aload_n 0, 1) := by decide +kernel
theorem dX4_init_34 : decode cX4_init 34 = .ok (.new 31, 3) := by decide +kernel
theorem dX4_init_37 : decode cX4_init 37 = .ok (.dup, 1) := by decide +kernel
theorem dX4_init_38 : decode cX4_init 38 = .ok (.aload_n 0, 1) := by decide +kernel
theorem dX4_init_39 : decode cX4_init 39 = .ok (.getfield 18, 3) := by decide +kernel
theorem dX4_init_42 : decode cX4_init 42 = .ok (.invokespecial 33, 3) := by decide +kernel
theorem dX4_init_45 : decode cX4_init 45 = .ok (.putfield 34, 3) := by decide +kernel
theorem dX4_init_48 : decode cX4_init 48 = .ok (.aload_n 0, 1) := by decide +kernel
theorem dX4_init_49 : decode cX4_init 49 = .ok (.new 38, 3) := by decide +kernel
theorem dX4_init_52 : decode cX4_init 52 = .ok (.dup, 1) := by decide +kernel
theorem dX4_init_53 : decode cX4_init 53 = .ok (.invokespecial 40, 3) := by decide +kernel
theorem dX4_init_56 : decode cX4_init 56 = .ok (.putfield 41, 3) := by decide +kernel
theorem dX4_init_59 : decode cX4_init 59 = .ok (.aload_n 0, 1) := by decide +kernel
theorem dX4_init_60 : decode cX4_init 60 = .ok (.new 45, 3) := by decide +kernel
theorem dX4_init_63 : decode cX4_init 63 = .ok (.dup, 1) := by decide +kernel
theorem dX4_init_64 : decode cX4_init 64 = .ok (.invokespecial 47, 3) := by decide +kernel
theorem dX4_init_67 : decode cX4_init 67 = .ok (.putfield 48, 3) := by decide +kernel
theorem dX4_init_70 : decode cX4_init 70 = .ok (.return_, 1) := by decide +kernel
set_option maxRecDepth 20000 in
theorem ggX4_hash_X4_mixed : GoodIn wsX4_hash wsX4_mixed := goodIn_r _ [4, 5, 6, 7] (by decide +kernel) (by decide +kernel)
set_option maxRecDepth 20000 in
theorem gX4_hash_X4_mixed : GoodIn wsX4_hash (va_wsS RX4 52 yX4_mixed wsX4_mixed) := goodIn_app (goodIn_of _ (by decide +kernel)) ggX4_hash_X4_mixed
theorem dX4_hash_0 : decode cX4_hash 0 = .ok (.iload_n 1, 1) := by decide +kernel
theorem dX4_hash_1 : decode cX4_hash 1 = .ok (.iload_n 2, 1) := by decide +kernel
theorem dX4_hash_2 : decode cX4_hash 2 = .ok (.invokestatic 52, 3) := by decide +kernel
theorem dX4_hash_5 : decode cX4_hash 5 = .ok (.ireturn, 1) := by decide +kernel
set_option maxRecDepth 20000 in
theorem ggX4_pick_X4_isBound : GoodIn wsX4_pick wsX4_isBound := goodIn_r _ [5, 6] (by decide +kernel) (by decide +kernel)
set_option maxRecDepth 20000 in
theorem gX4_pick_X4_isBound : GoodIn wsX4_pick (va_wsS RX4 55 yX4_isBound wsX4_isBound) := goodIn_app (goodIn_of _ (by decide +kernel)) ggX4_pick_X4_isBound
set_option maxRecDepth 20000 in
theorem ggX4_pick_X4_bitsFor : GoodIn wsX4_pick wsX4_bitsFor := goodIn_r _ [9] (by decide +kernel) (by decide +kernel)
set_option maxRecDepth 20000 in
theorem gX4_pick_X4_bitsFor : GoodIn wsX4_pick (va_wsS RX4 61 yX4_bitsFor wsX4_bitsFor) := goodIn_app (goodIn_of _ (by decide +kernel)) ggX4_pick_X4_bitsFor
set_option maxRecDepth 20000 in
theorem ggX4_pick_X4_firstBelow : GoodIn wsX4_pick wsX4_firstBelow := goodIn_r _ [12, 13, 14, 15, 4, 16, 17, 18, 19, 20, 21, 22, 23] (by decide +kernel) (by decide +kernel)
set_option maxRecDepth 20000 in
theorem gX4_pick_X4_firstBelow : GoodIn wsX4_pick (va_wsS RX4 65 yX4_firstBelow wsX4_firstBelow) := goodIn_app (goodIn_of _ (by decide +kernel)) ggX4_pick_X4_firstBelow
set_option maxRecDepth 20000 in
theorem ggX4_pick_X4_topBits : GoodIn wsX4_pick wsX4_topBits := goodIn_r _ [16, 17, 18, 19, 4, 20, 21, 22, 23] (by decide +kernel) (by decide +kernel)
set_option maxRecDepth 20000 in
theorem gX4_pick_X4_topBits : GoodIn wsX4_pick (va_wsS RX4 69 yX4_topBits wsX4_topBits) := goodIn_app (goodIn_of _ (by decide +kernel)) ggX4_pick_X4_topBits
theorem dX4_pick_0 : decode cX4_pick 0 = .ok (.lload_n 2, 1) := by decide +kernel
theorem dX4_pick_1 : decode cX4_pick 1 = .ok (.invokestatic 55, 3) := by decide +kernel
theorem dX4_pick_4 : decode cX4_pick 4 = .ok (.ifCond .ne 7, 3) := by decide +kernel
theorem dX4_pick_7 : decode cX4_pick 7 = .ok (.ldc2_w 59, 3) := by decide +kernel
theorem dX4_pick_10 : decode cX4_pick 10 = .ok (.lreturn, 1) := by decide +kernel
theorem dX4_pick_11 : decode cX4_pick 11 = .ok (.lload_n 2, 1) := by decide +kernel
theorem dX4_pick_12 : decode cX4_pick 12 = .ok (.invokestatic 61, 3) := by decide +kernel
theorem dX4_pick_15 : decode cX4_pick 15 = .ok (.istore 4, 2) := by decide +kernel
theorem dX4_pick_17 : decode cX4_pick 17 = .ok (.iload_n 1, 1) := by decide +kernel
theorem dX4_pick_18 : decode cX4_pick 18 = .ok (.iload_n 1, 1) := by decide +kernel
theorem dX4_pick_19 : decode cX4_pick 19 = .ok (.lload_n 2, 1) := by decide +kernel
theorem dX4_pick_20 : decode cX4_pick 20 = .ok (.iload 4, 2) := by decide +kernel
theorem dX4_pick_22 : decode cX4_pick 22 = .ok (.invokestatic 65, 3) := by decide +kernel
theorem dX4_pick_25 : decode cX4_pick 25 = .ok (.iload 4, 2) := by decide +kernel
theorem dX4_pick_27 : decode cX4_pick 27 = .ok (.invokestatic 69, 3) := by decide +kernel
theorem dX4_pick_30 : decode cX4_pick 30 = .ok (.lreturn, 1) := by decide +kernel
set_option maxRecDepth 20000 in
theorem ggX4_tries_X4_isBound : GoodIn wsX4_tries wsX4_isBound := goodIn_r _ [4, 5] (by decide +kernel) (by decide +kernel)
set_option maxRecDepth 20000 in
theorem gX4_tries_X4_isBound : GoodIn wsX4_tries (va_wsS RX4 55 yX4_isBound wsX4_isBound) := goodIn_app (goodIn_of _ (by decide +kernel)) ggX4_tries_X4_isBound
set_option maxRecDepth 20000 in
theorem ggX4_tries_X4_bitsFor : GoodIn wsX4_tries wsX4_bitsFor := goodIn_r _ [8] (by decide +kernel) (by decide +kernel)
set_option maxRecDepth 20000 in
theorem gX4_tries_X4_bitsFor : GoodIn wsX4_tries (va_wsS RX4 61 yX4_bitsFor wsX4_bitsFor) := goodIn_app (goodIn_of _ (by decide +kernel)) ggX4_tries_X4_bitsFor
set_option maxRecDepth 20000 in
theorem ggX4_tries_X4_firstBelow : GoodIn wsX4_tries wsX4_firstBelow := goodIn_r _ [11, 12, 13, 14, 3, 15, 16, 17, 18, 19, 20, 21, 22] (by decide +kernel) (by decide +kernel)
set_option maxRecDepth 20000 in
theorem gX4_tries_X4_firstBelow : GoodIn wsX4_tries (va_wsS RX4 65 yX4_firstBelow wsX4_firstBelow) := goodIn_app (goodIn_of _ (by decide +kernel)) ggX4_tries_X4_firstBelow
theorem dX4_tries_0 : decode cX4_tries 0 = .ok (.lload_n 2, 1) := by decide +kernel
theorem dX4_tries_1 : decode cX4_tries 1 = .ok (.invokestatic 55, 3) := by decide +kernel
theorem dX4_tries_4 : decode cX4_tries 4 = .ok (.ifCond .ne 5, 3) := by decide +kernel
theorem dX4_tries_7 : decode cX4_tries 7 = .ok (.iconst (-1), 1) := by decide +kernel
theorem dX4_tries_8 : decode cX4_tries 8 = .ok (.ireturn, 1) := by decide +kernel
theorem dX4_tries_9 : decode cX4_tries 9 = .ok (.iload_n 1, 1) := by decide +kernel
theorem dX4_tries_10 : decode cX4_tries 10 = .ok (.lload_n 2, 1) := by decide +kernel
theorem dX4_tries_11 : decode cX4_tries 11 = .ok (.lload_n 2, 1) := by decide +kernel
theorem dX4_tries_12 : decode cX4_tries 12 = .ok (.invokestatic 61, 3) := by decide +kernel
theorem dX4_tries_15 : decode cX4_tries 15 = .ok (.invokestatic 65, 3) := by decide +kernel
theorem dX4_tries_18 : decode cX4_tries 18 = .ok (.iconst 1, 1) := by decide +kernel
theorem dX4_tries_19 : decode cX4_tries 19 = .ok (.iadd, 1) := by decide +kernel
theorem dX4_tries_20 : decode cX4_tries 20 = .ok (.ireturn, 1) := by decide +kernel
set_option maxRecDepth 20000 in
theorem ggX4_rule_X4_isState : GoodIn wsX4_rule wsX4_isState := goodIn_r _ [6, 7, 17, 18, 19, 20, 21] (by decide +kernel) (by decide +kernel)
set_option maxRecDepth 20000 in
theorem gX4_rule_X4_isState : GoodIn wsX4_rule (wsV RX4 73 RX4 yX4_isState wsX4_isState) := goodIn_app (goodIn_of _ (by decide +kernel)) ggX4_rule_X4_isState
set_option maxRecDepth 20000 in
theorem ggX4_rule_X4_isWithin : GoodIn wsX4_rule wsX4_isWithin := goodIn_r _ [10] (by decide +kernel) (by decide +kernel)
set_option maxRecDepth 20000 in
theorem gX4_rule_X4_isWithin : GoodIn wsX4_rule (va_wsS RX4 77 yX4_isWithin wsX4_isWithin) := goodIn_app (goodIn_of _ (by decide +kernel)) ggX4_rule_X4_isWithin
set_option maxRecDepth 20000 in
theorem ggX4_rule_X0_setStep : GoodIn wsX4_rule wsX0_setStep := goodIn_r _ [15, 16, 22, 23, 24, 25, 26, 27, 28] (by decide +kernel) (by decide +kernel)
set_option maxRecDepth 20000 in
theorem gX4_rule_X0_setStep : GoodIn wsX4_rule (wsV RX4 81 RX0 yX0_setStep wsX0_setStep) := goodIn_app (goodIn_of _ (by decide +kernel)) ggX4_rule_X0_setStep
theorem dX4_rule_0 : decode cX4_rule 0 = .ok (.aload_n 0, 1) := by decide +kernel
theorem dX4_rule_1 : decode cX4_rule 1 = .ok (.iload_n 1, 1) := by decide +kernel
theorem dX4_rule_2 : decode cX4_rule 2 = .ok (.invokevirtual 73, 3) := by decide +kernel
theorem dX4_rule_5 : decode cX4_rule 5 = .ok (.ifCond .eq 21, 3) := by decide +kernel
theorem dX4_rule_8 : decode cX4_rule 8 = .ok (.iload_n 2, 1) := by decide +kernel
theorem dX4_rule_9 : decode cX4_rule 9 = .ok (.iconst 0, 1) := by decide +kernel
theorem dX4_rule_10 : decode cX4_rule 10 = .ok (.bipush 7, 2) := by decide +kernel
theorem dX4_rule_12 : decode cX4_rule 12 = .ok (.invokestatic 77, 3) := by decide +kernel
theorem dX4_rule_15 : decode cX4_rule 15 = .ok (.ifCond .eq 11, 3) := by decide +kernel
theorem dX4_rule_18 : decode cX4_rule 18 = .ok (.aload_n 0, 1) := by decide +kernel
theorem dX4_rule_19 : decode cX4_rule 19 = .ok (.iload_n 3, 1) := by decide +kernel
theorem dX4_rule_20 : decode cX4_rule 20 = .ok (.invokevirtual 73, 3) := by decide +kernel
theorem dX4_rule_23 : decode cX4_rule 23 = .ok (.ifCond .ne 5, 3) := by decide +kernel
theorem dX4_rule_26 : decode cX4_rule 26 = .ok (.iconst (-1), 1) := by decide +kernel
theorem dX4_rule_27 : decode cX4_rule 27 = .ok (.ireturn, 1) := by decide +kernel
theorem dX4_rule_28 : decode cX4_rule 28 = .ok (.aload_n 0, 1) := by decide +kernel
theorem dX4_rule_29 : decode cX4_rule 29 = .ok (.getfield 27, 3) := by decide +kernel
theorem dX4_rule_32 : decode cX4_rule 32 = .ok (.iload_n 1, 1) := by decide +kernel
theorem dX4_rule_33 : decode cX4_rule 33 = .ok (.iload_n 2, 1) := by decide +kernel
theorem dX4_rule_34 : decode cX4_rule 34 = .ok (.iload_n 3, 1) := by decide +kernel
theorem dX4_rule_35 : decode cX4_rule 35 = .ok (.invokevirtual 81, 3) := by decide +kernel
theorem dX4_rule_38 : decode cX4_rule 38 = .ok (.ireturn, 1) := by decide +kernel
set_option maxRecDepth 20000 in
theorem ggX4_taken_X4_isWithin : GoodIn wsX4_taken wsX4_isWithin := goodIn_r _ [5] (by decide +kernel) (by decide +kernel)
set_option maxRecDepth 20000 in
theorem gX4_taken_X4_isWithin : GoodIn wsX4_taken (va_wsS RX4 77 yX4_isWithin wsX4_isWithin) := goodIn_app (goodIn_of _ (by decide +kernel)) ggX4_taken_X4_isWithin
set_option maxRecDepth 20000 in
theorem ggX4_taken_X4_isState : GoodIn wsX4_taken wsX4_isState := goodIn_r _ [9, 10, 25, 26, 27, 28, 29] (by decide +kernel) (by decide +kernel)
set_option maxRecDepth 20000 in
theorem gX4_taken_X4_isState : GoodIn wsX4_taken (wsV RX4 73 RX4 yX4_isState wsX4_isState) := goodIn_app (goodIn_of _ (by decide +kernel)) ggX4_taken_X4_isState
set_option maxRecDepth 20000 in
theorem ggX4_taken_X0_throughPast : GoodIn wsX4_taken wsX0_throughPast := goodIn_r _ [15, 16, 17, 4, 18, 19, 20, 21, 22, 23, 24, 30, 31, 32, 33, 34, 35, 36] (by decide +kernel) (by decide +kernel)
set_option maxRecDepth 20000 in
theorem gX4_taken_X0_throughPast : GoodIn wsX4_taken (wsV RX4 85 RX0 yX0_throughPast wsX0_throughPast) := goodIn_app (goodIn_of _ (by decide +kernel)) ggX4_taken_X0_throughPast
theorem dX4_taken_0 : decode cX4_taken 0 = .ok (.iload_n 2, 1) := by decide +kernel
theorem dX4_taken_1 : decode cX4_taken 1 = .ok (.iconst 1, 1) := by decide +kernel
theorem dX4_taken_2 : decode cX4_taken 2 = .ok (.sipush 4096, 3) := by decide +kernel
theorem dX4_taken_5 : decode cX4_taken 5 = .ok (.invokestatic 77, 3) := by decide +kernel
theorem dX4_taken_8 : decode cX4_taken 8 = .ok (.ifCond .eq 11, 3) := by decide +kernel
theorem dX4_taken_11 : decode cX4_taken 11 = .ok (.aload_n 0, 1) := by decide +kernel
theorem dX4_taken_12 : decode cX4_taken 12 = .ok (.iload_n 3, 1) := by decide +kernel
theorem dX4_taken_13 : decode cX4_taken 13 = .ok (.invokevirtual 73, 3) := by decide +kernel
theorem dX4_taken_16 : decode cX4_taken 16 = .ok (.ifCond .ne 5, 3) := by decide +kernel
theorem dX4_taken_19 : decode cX4_taken 19 = .ok (.iconst (-1), 1) := by decide +kernel
theorem dX4_taken_20 : decode cX4_taken 20 = .ok (.ireturn, 1) := by decide +kernel
theorem dX4_taken_21 : decode cX4_taken 21 = .ok (.aload_n 0, 1) := by decide +kernel
theorem dX4_taken_22 : decode cX4_taken 22 = .ok (.getfield 27, 3) := by decide +kernel
theorem dX4_taken_25 : decode cX4_taken 25 = .ok (.iload_n 1, 1) := by decide +kernel
theorem dX4_taken_26 : decode cX4_taken 26 = .ok (.iload_n 2, 1) := by decide +kernel
theorem dX4_taken_27 : decode cX4_taken 27 = .ok (.iload_n 3, 1) := by decide +kernel
theorem dX4_taken_28 : decode cX4_taken 28 = .ok (.invokevirtual 85, 3) := by decide +kernel
theorem dX4_taken_31 : decode cX4_taken 31 = .ok (.ireturn, 1) := by decide +kernel
set_option maxRecDepth 20000 in
theorem ggX4_past_X4_isWithin : GoodIn wsX4_past wsX4_isWithin := goodIn_r _ [5] (by decide +kernel) (by decide +kernel)
set_option maxRecDepth 20000 in
theorem gX4_past_X4_isWithin : GoodIn wsX4_past (va_wsS RX4 77 yX4_isWithin wsX4_isWithin) := goodIn_app (goodIn_of _ (by decide +kernel)) ggX4_past_X4_isWithin
set_option maxRecDepth 20000 in
theorem ggX4_past_X0_leastMeeting : GoodIn wsX4_past wsX0_leastMeeting := goodIn_r _ [10, 11, 12, 13, 4, 14, 15, 16, 17, 18, 19, 20, 21, 22, 23, 9, 24, 25, 26, 27, 28, 29, 30, 31, 32, 33, 34, 47, 48, 49, 50, 51, 52, 53] (by decide +kernel) (by decide +kernel)
set_option maxRecDepth 20000 in
theorem gX4_past_X0_leastMeeting : GoodIn wsX4_past (wsV RX4 88 RX0 yX0_leastMeeting wsX0_leastMeeting) := goodIn_app (goodIn_of _ (by decide +kernel)) ggX4_past_X0_leastMeeting
set_option maxRecDepth 20000 in
theorem ggX4_past_X4_powerFrom : GoodIn wsX4_past wsX4_powerFrom := goodIn_r _ [37] (by decide +kernel) (by decide +kernel)
set_option maxRecDepth 20000 in
theorem gX4_past_X4_powerFrom : GoodIn wsX4_past (va_wsS RX4 91 yX4_powerFrom wsX4_powerFrom) := goodIn_app (goodIn_of _ (by decide +kernel)) ggX4_past_X4_powerFrom
set_option maxRecDepth 20000 in
theorem ggX4_past_X0_throughPast : GoodIn wsX4_past wsX0_throughPast := goodIn_r _ [41, 26, 13, 4, 14, 15, 16, 17, 18, 19, 20, 47, 48, 49, 50, 51, 52, 53] (by decide +kernel) (by decide +kernel)
set_option maxRecDepth 20000 in
theorem gX4_past_X0_throughPast : GoodIn wsX4_past (wsV RX4 85 RX0 yX0_throughPast wsX0_throughPast) := goodIn_app (goodIn_of _ (by decide +kernel)) ggX4_past_X0_throughPast
theorem dX4_past_0 : decode cX4_past 0 = .ok (.iload_n 2, 1) := by decide +kernel
theorem dX4_past_1 : decode cX4_past 1 = .ok (.iconst 1, 1) := by decide +kernel
theorem dX4_past_2 : decode cX4_past 2 = .ok (.sipush 4096, 3) := by decide +kernel
theorem dX4_past_5 : decode cX4_past 5 = .ok (.invokestatic 77, 3) := by decide +kernel
theorem dX4_past_8 : decode cX4_past 8 = .ok (.ifCond .ne 5, 3) := by decide +kernel
theorem dX4_past_11 : decode cX4_past 11 = .ok (.iconst (-1), 1) := by decide +kernel
theorem dX4_past_12 : decode cX4_past 12 = .ok (.ireturn, 1) := by decide +kernel
theorem dX4_past_13 : decode cX4_past 13 = .ok (.aload_n 0, 1) := by decide +kernel
theorem dX4_past_14 : decode cX4_past 14 = .ok (.getfield 27, 3) := by decide +kernel
theorem dX4_past_17 : decode cX4_past 17 = .ok (.iload_n 1, 1) := by decide +kernel
theorem dX4_past_18 : decode cX4_past 18 = .ok (.iload_n 2, 1) := by decide +kernel
theorem dX4_past_19 : decode cX4_past 19 = .ok (.invokevirtual 88, 3) := by decide +kernel
theorem dX4_past_22 : decode cX4_past 22 = .ok (.istore_n 3, 1) := by decide +kernel
theorem dX4_past_23 : decode cX4_past 23 = .ok (.iload_n 3, 1) := by decide +kernel
theorem dX4_past_24 : decode cX4_past 24 = .ok (.bipush (-2), 2) := by decide +kernel
theorem dX4_past_26 : decode cX4_past 26 = .ok (.if_icmp .ne 6, 3) := by decide +kernel
theorem dX4_past_29 : decode cX4_past 29 = .ok (.bipush (-2), 2) := by decide +kernel
theorem dX4_past_31 : decode cX4_past 31 = .ok (.ireturn, 1) := by decide +kernel
theorem dX4_past_32 : decode cX4_past 32 = .ok (.iload_n 3, 1) := by decide +kernel
theorem dX4_past_33 : decode cX4_past 33 = .ok (.invokestatic 91, 3) := by decide +kernel
theorem dX4_past_36 : decode cX4_past 36 = .ok (.istore 4, 2) := by decide +kernel
theorem dX4_past_38 : decode cX4_past 38 = .ok (.iload 4, 2) := by decide +kernel
theorem dX4_past_40 : decode cX4_past 40 = .ok (.iload_n 2, 1) := by decide +kernel
theorem dX4_past_41 : decode cX4_past 41 = .ok (.if_icmp .le 8, 3) := by decide +kernel
theorem dX4_past_44 : decode cX4_past 44 = .ok (.bipush (-2), 2) := by decide +kernel
theorem dX4_past_46 : decode cX4_past 46 = .ok (.goto 14, 3) := by decide +kernel
theorem dX4_past_49 : decode cX4_past 49 = .ok (.aload_n 0, 1) := by decide +kernel
theorem dX4_past_50 : decode cX4_past 50 = .ok (.getfield 27, 3) := by decide +kernel
theorem dX4_past_53 : decode cX4_past 53 = .ok (.iload_n 1, 1) := by decide +kernel
theorem dX4_past_54 : decode cX4_past 54 = .ok (.iload 4, 2) := by decide +kernel
theorem dX4_past_56 : decode cX4_past 56 = .ok (.iconst 0, 1) := by decide +kernel
theorem dX4_past_57 : decode cX4_past 57 = .ok (.invokevirtual 85, 3) := by decide +kernel
theorem dX4_past_60 : decode cX4_past 60 = .ok (.ireturn, 1) := by decide +kernel
set_option maxRecDepth 20000 in
theorem ggX4_fold_X4_isWithin : GoodIn wsX4_fold wsX4_isWithin := goodIn_r _ [5] (by decide +kernel) (by decide +kernel)
set_option maxRecDepth 20000 in
theorem gX4_fold_X4_isWithin : GoodIn wsX4_fold (va_wsS RX4 77 yX4_isWithin wsX4_isWithin) := goodIn_app (goodIn_of _ (by decide +kernel)) ggX4_fold_X4_isWithin
set_option maxRecDepth 20000 in
theorem ggX4_fold_X0_leastMeeting : GoodIn wsX4_fold wsX0_leastMeeting := goodIn_r _ [10, 11, 12, 13, 4, 14, 15, 16, 17, 18, 19, 20, 21, 22, 23, 9, 24, 25, 26, 27, 28, 29, 30, 31, 32, 33, 34, 40, 41, 42, 43, 44, 45, 46] (by decide +kernel) (by decide +kernel)
set_option maxRecDepth 20000 in
theorem gX4_fold_X0_leastMeeting : GoodIn wsX4_fold (wsV RX4 88 RX0 yX0_leastMeeting wsX0_leastMeeting) := goodIn_app (goodIn_of _ (by decide +kernel)) ggX4_fold_X0_leastMeeting
theorem dX4_fold_0 : decode cX4_fold 0 = .ok (.iload_n 2, 1) := by decide +kernel
theorem dX4_fold_1 : decode cX4_fold 1 = .ok (.iconst 1, 1) := by decide +kernel
theorem dX4_fold_2 : decode cX4_fold 2 = .ok (.sipush 4096, 3) := by decide +kernel
theorem dX4_fold_5 : decode cX4_fold 5 = .ok (.invokestatic 77, 3) := by decide +kernel
theorem dX4_fold_8 : decode cX4_fold 8 = .ok (.ifCond .ne 5, 3) := by decide +kernel
theorem dX4_fold_11 : decode cX4_fold 11 = .ok (.iconst (-1), 1) := by decide +kernel
theorem dX4_fold_12 : decode cX4_fold 12 = .ok (.ireturn, 1) := by decide +kernel
theorem dX4_fold_13 : decode cX4_fold 13 = .ok (.aload_n 0, 1) := by decide +kernel
theorem dX4_fold_14 : decode cX4_fold 14 = .ok (.getfield 27, 3) := by decide +kernel
theorem dX4_fold_17 : decode cX4_fold 17 = .ok (.iload_n 1, 1) := by decide +kernel
theorem dX4_fold_18 : decode cX4_fold 18 = .ok (.iload_n 2, 1) := by decide +kernel
theorem dX4_fold_19 : decode cX4_fold 19 = .ok (.invokevirtual 88, 3) := by decide +kernel
theorem dX4_fold_22 : decode cX4_fold 22 = .ok (.ireturn, 1) := by decide +kernel
set_option maxRecDepth 20000 in
theorem ggX4_bounding_X4_isWithin : GoodIn wsX4_bounding wsX4_isWithin := goodIn_r _ [5] (by decide +kernel) (by decide +kernel)
set_option maxRecDepth 20000 in
theorem gX4_bounding_X4_isWithin : GoodIn wsX4_bounding (va_wsS RX4 77 yX4_isWithin wsX4_isWithin) := goodIn_app (goodIn_of _ (by decide +kernel)) ggX4_bounding_X4_isWithin
set_option maxRecDepth 20000 in
theorem ggX4_bounding_X0_leastBounded : GoodIn wsX4_bounding wsX0_leastBounded := goodIn_r _ [10, 11, 12, 13, 9, 14, 15, 16, 17, 18, 19, 20, 21, 22, 23, 24, 4, 25, 26, 27, 28, 29, 30, 31, 37, 38, 39, 40, 41, 42, 43] (by decide +kernel) (by decide +kernel)
set_option maxRecDepth 20000 in
theorem gX4_bounding_X0_leastBounded : GoodIn wsX4_bounding (wsV RX4 95 RX0 yX0_leastBounded wsX0_leastBounded) := goodIn_app (goodIn_of _ (by decide +kernel)) ggX4_bounding_X0_leastBounded
theorem dX4_bounding_0 : decode cX4_bounding 0 = .ok (.iload_n 2, 1) := by decide +kernel
theorem dX4_bounding_1 : decode cX4_bounding 1 = .ok (.iconst 1, 1) := by decide +kernel
theorem dX4_bounding_2 : decode cX4_bounding 2 = .ok (.bipush 64, 2) := by decide +kernel
theorem dX4_bounding_4 : decode cX4_bounding 4 = .ok (.invokestatic 77, 3) := by decide +kernel
theorem dX4_bounding_7 : decode cX4_bounding 7 = .ok (.ifCond .ne 5, 3) := by decide +kernel
theorem dX4_bounding_10 : decode cX4_bounding 10 = .ok (.iconst (-1), 1) := by decide +kernel
theorem dX4_bounding_11 : decode cX4_bounding 11 = .ok (.ireturn, 1) := by decide +kernel
theorem dX4_bounding_12 : decode cX4_bounding 12 = .ok (.aload_n 0, 1) := by decide +kernel
theorem dX4_bounding_13 : decode cX4_bounding 13 = .ok (.getfield 27, 3) := by decide +kernel
theorem dX4_bounding_16 : decode cX4_bounding 16 = .ok (.iload_n 1, 1) := by decide +kernel
theorem dX4_bounding_17 : decode cX4_bounding 17 = .ok (.iload_n 2, 1) := by decide +kernel
theorem dX4_bounding_18 : decode cX4_bounding 18 = .ok (.invokevirtual 95, 3) := by decide +kernel
theorem dX4_bounding_21 : decode cX4_bounding 21 = .ok (.ireturn, 1) := by decide +kernel
set_option maxRecDepth 20000 in
theorem ggX4_monotone_X0_keepsOrder : GoodIn wsX4_monotone wsX0_keepsOrder := goodIn_r _ [6, 7, 8, 14, 15, 16, 17, 18, 19, 20] (by decide +kernel) (by decide +kernel)
set_option maxRecDepth 20000 in
theorem gX4_monotone_X0_keepsOrder : GoodIn wsX4_monotone (wsV RX4 98 RX0 yX0_keepsOrder wsX0_keepsOrder) := goodIn_app (goodIn_of _ (by decide +kernel)) ggX4_monotone_X0_keepsOrder
theorem dX4_monotone_0 : decode cX4_monotone 0 = .ok (.aload_n 0, 1) := by decide +kernel
theorem dX4_monotone_1 : decode cX4_monotone 1 = .ok (.getfield 27, 3) := by decide +kernel
theorem dX4_monotone_4 : decode cX4_monotone 4 = .ok (.invokevirtual 98, 3) := by decide +kernel
theorem dX4_monotone_7 : decode cX4_monotone 7 = .ok (.ifCond .eq 7, 3) := by decide +kernel
theorem dX4_monotone_10 : decode cX4_monotone 10 = .ok (.iconst 1, 1) := by decide +kernel
theorem dX4_monotone_11 : decode cX4_monotone 11 = .ok (.goto 4, 3) := by decide +kernel
theorem dX4_monotone_14 : decode cX4_monotone 14 = .ok (.iconst 0, 1) := by decide +kernel
theorem dX4_monotone_15 : decode cX4_monotone 15 = .ok (.ireturn, 1) := by decide +kernel
set_option maxRecDepth 20000 in
theorem ggX4_counted_X4_isWithin : GoodIn wsX4_counted wsX4_isWithin := goodIn_r _ [6] (by decide +kernel) (by decide +kernel)
set_option maxRecDepth 20000 in
theorem gX4_counted_X4_isWithin : GoodIn wsX4_counted (va_wsS RX4 77 yX4_isWithin wsX4_isWithin) := goodIn_app (goodIn_of _ (by decide +kernel)) ggX4_counted_X4_isWithin
set_option maxRecDepth 20000 in
theorem ggX4_counted_X0_rowsMeeting : GoodIn wsX4_counted wsX0_rowsMeeting := goodIn_r _ [11, 12, 13, 14, 15, 16, 17, 18, 19, 10, 20, 21, 22, 23, 24, 25, 26, 27, 28, 29, 30, 31, 32, 33, 34, 35, 36, 37, 38, 44, 45, 46, 47, 48, 49, 50] (by decide +kernel) (by decide +kernel)
set_option maxRecDepth 20000 in
theorem gX4_counted_X0_rowsMeeting : GoodIn wsX4_counted (wsV RX4 102 RX0 yX0_rowsMeeting wsX0_rowsMeeting) := goodIn_app (goodIn_of _ (by decide +kernel)) ggX4_counted_X0_rowsMeeting
theorem dX4_counted_0 : decode cX4_counted 0 = .ok (.iload_n 1, 1) := by decide +kernel
theorem dX4_counted_1 : decode cX4_counted 1 = .ok (.iconst 1, 1) := by decide +kernel
theorem dX4_counted_2 : decode cX4_counted 2 = .ok (.iconst 5, 1) := by decide +kernel
theorem dX4_counted_3 : decode cX4_counted 3 = .ok (.invokestatic 77, 3) := by decide +kernel
theorem dX4_counted_6 : decode cX4_counted 6 = .ok (.ifCond .eq 17, 3) := by decide +kernel
theorem dX4_counted_9 : decode cX4_counted 9 = .ok (.iload_n 2, 1) := by decide +kernel
theorem dX4_counted_10 : decode cX4_counted 10 = .ok (.iconst (-1), 1) := by decide +kernel
theorem dX4_counted_11 : decode cX4_counted 11 = .ok (.aload_n 0, 1) := by decide +kernel
theorem dX4_counted_12 : decode cX4_counted 12 = .ok (.getfield 18, 3) := by decide +kernel
theorem dX4_counted_15 : decode cX4_counted 15 = .ok (.iconst 1, 1) := by decide +kernel
theorem dX4_counted_16 : decode cX4_counted 16 = .ok (.isub, 1) := by decide +kernel
theorem dX4_counted_17 : decode cX4_counted 17 = .ok (.invokestatic 77, 3) := by decide +kernel
theorem dX4_counted_20 : decode cX4_counted 20 = .ok (.ifCond .ne 5, 3) := by decide +kernel
theorem dX4_counted_23 : decode cX4_counted 23 = .ok (.iconst (-1), 1) := by decide +kernel
theorem dX4_counted_24 : decode cX4_counted 24 = .ok (.ireturn, 1) := by decide +kernel
theorem dX4_counted_25 : decode cX4_counted 25 = .ok (.aload_n 0, 1) := by decide +kernel
theorem dX4_counted_26 : decode cX4_counted 26 = .ok (.getfield 27, 3) := by decide +kernel
theorem dX4_counted_29 : decode cX4_counted 29 = .ok (.iload_n 1, 1) := by decide +kernel
theorem dX4_counted_30 : decode cX4_counted 30 = .ok (.iload_n 2, 1) := by decide +kernel
theorem dX4_counted_31 : decode cX4_counted 31 = .ok (.invokevirtual 102, 3) := by decide +kernel
theorem dX4_counted_34 : decode cX4_counted 34 = .ok (.ireturn, 1) := by decide +kernel
set_option maxRecDepth 20000 in
theorem ggX4_trees_X4_isWithin : GoodIn wsX4_trees wsX4_isWithin := goodIn_r _ [7] (by decide +kernel) (by decide +kernel)
set_option maxRecDepth 20000 in
theorem gX4_trees_X4_isWithin : GoodIn wsX4_trees (va_wsS RX4 77 yX4_isWithin wsX4_isWithin) := goodIn_app (goodIn_of _ (by decide +kernel)) ggX4_trees_X4_isWithin
set_option maxRecDepth 20000 in
theorem ggX4_trees_X0_allTrees : GoodIn wsX4_trees wsX0_allTrees := goodIn_r _ [12, 13, 14, 15, 16, 11, 17, 18, 19, 20, 21, 22, 23, 24, 25, 26, 27, 28, 29, 30, 31, 32, 33, 34, 41, 42, 43, 44, 45, 46, 47] (by decide +kernel) (by decide +kernel)
set_option maxRecDepth 20000 in
theorem gX4_trees_X0_allTrees : GoodIn wsX4_trees (wsV RX4 105 RX0 yX0_allTrees wsX0_allTrees) := goodIn_app (goodIn_of _ (by decide +kernel)) ggX4_trees_X0_allTrees
set_option maxRecDepth 20000 in
theorem ggX4_trees_X0_treesTo : GoodIn wsX4_trees wsX0_treesTo := goodIn_r _ [17, 13, 18, 19, 20, 11, 21, 22, 23, 24, 25, 26, 27, 28, 29, 30, 31, 32, 33, 34, 41, 42, 43, 44, 45, 46, 47] (by decide +kernel) (by decide +kernel)
set_option maxRecDepth 20000 in
theorem gX4_trees_X0_treesTo : GoodIn wsX4_trees (wsV RX4 109 RX0 yX0_treesTo wsX0_treesTo) := goodIn_app (goodIn_of _ (by decide +kernel)) ggX4_trees_X0_treesTo
theorem dX4_trees_0 : decode cX4_trees 0 = .ok (.iload_n 1, 1) := by decide +kernel
theorem dX4_trees_1 : decode cX4_trees 1 = .ok (.iconst (-1), 1) := by decide +kernel
theorem dX4_trees_2 : decode cX4_trees 2 = .ok (.aload_n 0, 1) := by decide +kernel
theorem dX4_trees_3 : decode cX4_trees 3 = .ok (.getfield 18, 3) := by decide +kernel
theorem dX4_trees_6 : decode cX4_trees 6 = .ok (.iconst 1, 1) := by decide +kernel
theorem dX4_trees_7 : decode cX4_trees 7 = .ok (.isub, 1) := by decide +kernel
theorem dX4_trees_8 : decode cX4_trees 8 = .ok (.invokestatic 77, 3) := by decide +kernel
theorem dX4_trees_11 : decode cX4_trees 11 = .ok (.ifCond .ne 7, 3) := by decide +kernel
theorem dX4_trees_14 : decode cX4_trees 14 = .ok (.ldc2_w 59, 3) := by decide +kernel
theorem dX4_trees_17 : decode cX4_trees 17 = .ok (.lreturn, 1) := by decide +kernel
theorem dX4_trees_18 : decode cX4_trees 18 = .ok (.iload_n 1, 1) := by decide +kernel
theorem dX4_trees_19 : decode cX4_trees 19 = .ok (.iconst (-1), 1) := by decide +kernel
theorem dX4_trees_20 : decode cX4_trees 20 = .ok (.if_icmp .ne 13, 3) := by decide +kernel
theorem dX4_trees_23 : decode cX4_trees 23 = .ok (.aload_n 0, 1) := by decide +kernel
theorem dX4_trees_24 : decode cX4_trees 24 = .ok (.getfield 27, 3) := by decide +kernel
theorem dX4_trees_27 : decode cX4_trees 27 = .ok (.invokevirtual 105, 3) := by decide +kernel
theorem dX4_trees_30 : decode cX4_trees 30 = .ok (.goto 11, 3) := by decide +kernel
theorem dX4_trees_33 : decode cX4_trees 33 = .ok (.aload_n 0, 1) := by decide +kernel
theorem dX4_trees_34 : decode cX4_trees 34 = .ok (.getfield 27, 3) := by decide +kernel
theorem dX4_trees_37 : decode cX4_trees 37 = .ok (.iload_n 1, 1) := by decide +kernel
theorem dX4_trees_38 : decode cX4_trees 38 = .ok (.invokevirtual 109, 3) := by decide +kernel
theorem dX4_trees_41 : decode cX4_trees 41 = .ok (.lreturn, 1) := by decide +kernel
set_option maxRecDepth 20000 in
theorem ggX4_once_X4_isWithin : GoodIn wsX4_once wsX4_isWithin := goodIn_r _ [5] (by decide +kernel) (by decide +kernel)
set_option maxRecDepth 20000 in
theorem gX4_once_X4_isWithin : GoodIn wsX4_once (va_wsS RX4 77 yX4_isWithin wsX4_isWithin) := goodIn_app (goodIn_of _ (by decide +kernel)) ggX4_once_X4_isWithin
set_option maxRecDepth 20000 in
theorem ggX4_once_X0_drawOf : GoodIn wsX4_once wsX0_drawOf := goodIn_r _ [10, 11, 12, 13, 9, 14, 15, 16, 17, 18, 19, 20, 21, 22, 23, 4, 24, 25, 26, 27, 28, 29, 30, 31, 32, 33, 34, 35, 36, 37, 38, 39, 45, 46, 47, 48, 49, 50, 51] (by decide +kernel) (by decide +kernel)
set_option maxRecDepth 20000 in
theorem gX4_once_X0_drawOf : GoodIn wsX4_once (wsV RX4 113 RX0 yX0_drawOf wsX0_drawOf) := goodIn_app (goodIn_of _ (by decide +kernel)) ggX4_once_X0_drawOf
theorem dX4_once_0 : decode cX4_once 0 = .ok (.iload_n 2, 1) := by decide +kernel
theorem dX4_once_1 : decode cX4_once 1 = .ok (.iconst 1, 1) := by decide +kernel
theorem dX4_once_2 : decode cX4_once 2 = .ok (.bipush 64, 2) := by decide +kernel
theorem dX4_once_4 : decode cX4_once 4 = .ok (.invokestatic 77, 3) := by decide +kernel
theorem dX4_once_7 : decode cX4_once 7 = .ok (.ifCond .eq 13, 3) := by decide +kernel
theorem dX4_once_10 : decode cX4_once 10 = .ok (.iload_n 3, 1) := by decide +kernel
theorem dX4_once_11 : decode cX4_once 11 = .ok (.iconst 0, 1) := by decide +kernel
theorem dX4_once_12 : decode cX4_once 12 = .ok (.bipush 99, 2) := by decide +kernel
theorem dX4_once_14 : decode cX4_once 14 = .ok (.invokestatic 77, 3) := by decide +kernel
theorem dX4_once_17 : decode cX4_once 17 = .ok (.ifCond .ne 5, 3) := by decide +kernel
theorem dX4_once_20 : decode cX4_once 20 = .ok (.iconst (-1), 1) := by decide +kernel
theorem dX4_once_21 : decode cX4_once 21 = .ok (.ireturn, 1) := by decide +kernel
theorem dX4_once_22 : decode cX4_once 22 = .ok (.aload_n 0, 1) := by decide +kernel
theorem dX4_once_23 : decode cX4_once 23 = .ok (.getfield 27, 3) := by decide +kernel
theorem dX4_once_26 : decode cX4_once 26 = .ok (.iload_n 1, 1) := by decide +kernel
theorem dX4_once_27 : decode cX4_once 27 = .ok (.iload_n 2, 1) := by decide +kernel
theorem dX4_once_28 : decode cX4_once 28 = .ok (.iload_n 3, 1) := by decide +kernel
theorem dX4_once_29 : decode cX4_once 29 = .ok (.invokevirtual 113, 3) := by decide +kernel
theorem dX4_once_32 : decode cX4_once 32 = .ok (.ireturn, 1) := by decide +kernel
set_option maxRecDepth 20000 in
theorem ggX4_lead_X4_isState : GoodIn wsX4_lead wsX4_isState := goodIn_r _ [6, 7, 17, 18, 19, 20, 21] (by decide +kernel) (by decide +kernel)
set_option maxRecDepth 20000 in
theorem gX4_lead_X4_isState : GoodIn wsX4_lead (wsV RX4 73 RX4 yX4_isState wsX4_isState) := goodIn_app (goodIn_of _ (by decide +kernel)) ggX4_lead_X4_isState
set_option maxRecDepth 20000 in
theorem ggX4_lead_X4_isWithin : GoodIn wsX4_lead wsX4_isWithin := goodIn_r _ [10] (by decide +kernel) (by decide +kernel)
set_option maxRecDepth 20000 in
theorem gX4_lead_X4_isWithin : GoodIn wsX4_lead (va_wsS RX4 77 yX4_isWithin wsX4_isWithin) := goodIn_app (goodIn_of _ (by decide +kernel)) ggX4_lead_X4_isWithin
set_option maxRecDepth 20000 in
theorem ggX4_lead_X1_setStep : GoodIn wsX4_lead wsX1_setStep := goodIn_r _ [15, 16, 22, 23, 24, 25] (by decide +kernel) (by decide +kernel)
set_option maxRecDepth 20000 in
theorem gX4_lead_X1_setStep : GoodIn wsX4_lead (wsV RX4 116 RX1 yX1_setStep wsX1_setStep) := goodIn_app (goodIn_of _ (by decide +kernel)) ggX4_lead_X1_setStep
theorem dX4_lead_0 : decode cX4_lead 0 = .ok (.aload_n 0, 1) := by decide +kernel
theorem dX4_lead_1 : decode cX4_lead 1 = .ok (.iload_n 1, 1) := by decide +kernel
theorem dX4_lead_2 : decode cX4_lead 2 = .ok (.invokevirtual 73, 3) := by decide +kernel
theorem dX4_lead_5 : decode cX4_lead 5 = .ok (.ifCond .eq 12, 3) := by decide +kernel
theorem dX4_lead_8 : decode cX4_lead 8 = .ok (.iload_n 2, 1) := by decide +kernel
theorem dX4_lead_9 : decode cX4_lead 9 = .ok (.iconst 0, 1) := by decide +kernel
theorem dX4_lead_10 : decode cX4_lead 10 = .ok (.iconst 3, 1) := by decide +kernel
theorem dX4_lead_11 : decode cX4_lead 11 = .ok (.invokestatic 77, 3) := by decide +kernel
theorem dX4_lead_14 : decode cX4_lead 14 = .ok (.ifCond .ne 5, 3) := by decide +kernel
theorem dX4_lead_17 : decode cX4_lead 17 = .ok (.iconst (-1), 1) := by decide +kernel
theorem dX4_lead_18 : decode cX4_lead 18 = .ok (.ireturn, 1) := by decide +kernel
theorem dX4_lead_19 : decode cX4_lead 19 = .ok (.iload_n 3, 1) := by decide +kernel
theorem dX4_lead_20 : decode cX4_lead 20 = .ok (.bipush (-2), 2) := by decide +kernel
theorem dX4_lead_22 : decode cX4_lead 22 = .ok (.if_icmp .eq 13, 3) := by decide +kernel
theorem dX4_lead_25 : decode cX4_lead 25 = .ok (.aload_n 0, 1) := by decide +kernel
theorem dX4_lead_26 : decode cX4_lead 26 = .ok (.iload_n 3, 1) := by decide +kernel
theorem dX4_lead_27 : decode cX4_lead 27 = .ok (.invokevirtual 73, 3) := by decide +kernel
theorem dX4_lead_30 : decode cX4_lead 30 = .ok (.ifCond .ne 5, 3) := by decide +kernel
theorem dX4_lead_33 : decode cX4_lead 33 = .ok (.iconst (-1), 1) := by decide +kernel
theorem dX4_lead_34 : decode cX4_lead 34 = .ok (.ireturn, 1) := by decide +kernel
theorem dX4_lead_35 : decode cX4_lead 35 = .ok (.aload_n 0, 1) := by decide +kernel
theorem dX4_lead_36 : decode cX4_lead 36 = .ok (.getfield 34, 3) := by decide +kernel
theorem dX4_lead_39 : decode cX4_lead 39 = .ok (.iload_n 1, 1) := by decide +kernel
theorem dX4_lead_40 : decode cX4_lead 40 = .ok (.iload_n 2, 1) := by decide +kernel
theorem dX4_lead_41 : decode cX4_lead 41 = .ok (.iload_n 3, 1) := by decide +kernel
theorem dX4_lead_42 : decode cX4_lead 42 = .ok (.invokevirtual 116, 3) := by decide +kernel
theorem dX4_lead_45 : decode cX4_lead 45 = .ok (.ireturn, 1) := by decide +kernel
set_option maxRecDepth 20000 in
theorem ggX4_end_X4_isState : GoodIn wsX4_end wsX4_isState := goodIn_r _ [6, 7, 14, 15, 16, 17, 18] (by decide +kernel) (by decide +kernel)
set_option maxRecDepth 20000 in
theorem gX4_end_X4_isState : GoodIn wsX4_end (wsV RX4 73 RX4 yX4_isState wsX4_isState) := goodIn_app (goodIn_of _ (by decide +kernel)) ggX4_end_X4_isState
set_option maxRecDepth 20000 in
theorem ggX4_end_X1_setEnd : GoodIn wsX4_end wsX1_setEnd := goodIn_r _ [12, 13, 19, 20, 21, 22] (by decide +kernel) (by decide +kernel)
set_option maxRecDepth 20000 in
theorem gX4_end_X1_setEnd : GoodIn wsX4_end (wsV RX4 117 RX1 yX1_setEnd wsX1_setEnd) := goodIn_app (goodIn_of _ (by decide +kernel)) ggX4_end_X1_setEnd
theorem dX4_end_0 : decode cX4_end 0 = .ok (.aload_n 0, 1) := by decide +kernel
theorem dX4_end_1 : decode cX4_end 1 = .ok (.iload_n 1, 1) := by decide +kernel
theorem dX4_end_2 : decode cX4_end 2 = .ok (.invokevirtual 73, 3) := by decide +kernel
theorem dX4_end_5 : decode cX4_end 5 = .ok (.ifCond .ne 5, 3) := by decide +kernel
theorem dX4_end_8 : decode cX4_end 8 = .ok (.iconst (-1), 1) := by decide +kernel
theorem dX4_end_9 : decode cX4_end 9 = .ok (.ireturn, 1) := by decide +kernel
theorem dX4_end_10 : decode cX4_end 10 = .ok (.aload_n 0, 1) := by decide +kernel
theorem dX4_end_11 : decode cX4_end 11 = .ok (.getfield 34, 3) := by decide +kernel
theorem dX4_end_14 : decode cX4_end 14 = .ok (.iload_n 1, 1) := by decide +kernel
theorem dX4_end_15 : decode cX4_end 15 = .ok (.iload_n 2, 1) := by decide +kernel
theorem dX4_end_16 : decode cX4_end 16 = .ok (.invokevirtual 117, 3) := by decide +kernel
theorem dX4_end_19 : decode cX4_end 19 = .ok (.ifCond .eq 7, 3) := by decide +kernel
theorem dX4_end_22 : decode cX4_end 22 = .ok (.iconst 1, 1) := by decide +kernel
theorem dX4_end_23 : decode cX4_end 23 = .ok (.goto 4, 3) := by decide +kernel
theorem dX4_end_26 : decode cX4_end 26 = .ok (.iconst 0, 1) := by decide +kernel
theorem dX4_end_27 : decode cX4_end 27 = .ok (.ireturn, 1) := by decide +kernel
set_option maxRecDepth 20000 in
theorem ggX4_words_X4_isWithin : GoodIn wsX4_words wsX4_isWithin := goodIn_r _ [6] (by decide +kernel) (by decide +kernel)
set_option maxRecDepth 20000 in
theorem gX4_words_X4_isWithin : GoodIn wsX4_words (va_wsS RX4 77 yX4_isWithin wsX4_isWithin) := goodIn_app (goodIn_of _ (by decide +kernel)) ggX4_words_X4_isWithin
set_option maxRecDepth 20000 in
theorem ggX4_words_X1_countAll : GoodIn wsX4_words wsX1_countAll := goodIn_r _ [11, 12, 13, 14, 15, 16, 17, 10, 18, 19, 20, 21, 22, 23, 29, 30, 31, 32] (by decide +kernel) (by decide +kernel)
set_option maxRecDepth 20000 in
theorem gX4_words_X1_countAll : GoodIn wsX4_words (wsV RX4 121 RX1 yX1_countAll wsX1_countAll) := goodIn_app (goodIn_of _ (by decide +kernel)) ggX4_words_X1_countAll
theorem dX4_words_0 : decode cX4_words 0 = .ok (.iload_n 1, 1) := by decide +kernel
theorem dX4_words_1 : decode cX4_words 1 = .ok (.iconst 0, 1) := by decide +kernel
theorem dX4_words_2 : decode cX4_words 2 = .ok (.bipush 25, 2) := by decide +kernel
theorem dX4_words_4 : decode cX4_words 4 = .ok (.invokestatic 77, 3) := by decide +kernel
theorem dX4_words_7 : decode cX4_words 7 = .ok (.ifCond .ne 7, 3) := by decide +kernel
theorem dX4_words_10 : decode cX4_words 10 = .ok (.ldc2_w 59, 3) := by decide +kernel
theorem dX4_words_13 : decode cX4_words 13 = .ok (.lreturn, 1) := by decide +kernel
theorem dX4_words_14 : decode cX4_words 14 = .ok (.aload_n 0, 1) := by decide +kernel
theorem dX4_words_15 : decode cX4_words 15 = .ok (.getfield 34, 3) := by decide +kernel
theorem dX4_words_18 : decode cX4_words 18 = .ok (.iload_n 1, 1) := by decide +kernel
theorem dX4_words_19 : decode cX4_words 19 = .ok (.invokevirtual 121, 3) := by decide +kernel
theorem dX4_words_22 : decode cX4_words 22 = .ok (.lreturn, 1) := by decide +kernel
set_option maxRecDepth 20000 in
theorem ggX4_word_X4_isWithin : GoodIn wsX4_word wsX4_isWithin := goodIn_r _ [5] (by decide +kernel) (by decide +kernel)
set_option maxRecDepth 20000 in
theorem gX4_word_X4_isWithin : GoodIn wsX4_word (va_wsS RX4 77 yX4_isWithin wsX4_isWithin) := goodIn_app (goodIn_of _ (by decide +kernel)) ggX4_word_X4_isWithin
set_option maxRecDepth 20000 in
theorem ggX4_word_X1_countAll : GoodIn wsX4_word wsX1_countAll := goodIn_r _ [10, 11, 12, 13, 14, 15, 16, 9, 17, 18, 19, 20, 21, 22, 36, 37, 38, 39] (by decide +kernel) (by decide +kernel)
set_option maxRecDepth 20000 in
theorem gX4_word_X1_countAll : GoodIn wsX4_word (wsV RX4 121 RX1 yX1_countAll wsX1_countAll) := goodIn_app (goodIn_of _ (by decide +kernel)) ggX4_word_X1_countAll
set_option maxRecDepth 20000 in
theorem ggX4_word_X1_letterOf : GoodIn wsX4_word wsX1_letterOf := goodIn_r _ [26, 22, 27, 28, 29, 9, 30, 14, 15, 16, 17, 18, 19, 20, 21, 12, 36, 37, 38, 39] (by decide +kernel) (by decide +kernel)
set_option maxRecDepth 20000 in
theorem gX4_word_X1_letterOf : GoodIn wsX4_word (wsV RX4 124 RX1 yX1_letterOf wsX1_letterOf) := goodIn_app (goodIn_of _ (by decide +kernel)) ggX4_word_X1_letterOf
theorem dX4_word_0 : decode cX4_word 0 = .ok (.iload_n 1, 1) := by decide +kernel
theorem dX4_word_1 : decode cX4_word 1 = .ok (.iconst 0, 1) := by decide +kernel
theorem dX4_word_2 : decode cX4_word 2 = .ok (.bipush 25, 2) := by decide +kernel
theorem dX4_word_4 : decode cX4_word 4 = .ok (.invokestatic 77, 3) := by decide +kernel
theorem dX4_word_7 : decode cX4_word 7 = .ok (.ifCond .eq 15, 3) := by decide +kernel
theorem dX4_word_10 : decode cX4_word 10 = .ok (.iload 4, 2) := by decide +kernel
theorem dX4_word_12 : decode cX4_word 12 = .ok (.iconst 0, 1) := by decide +kernel
theorem dX4_word_13 : decode cX4_word 13 = .ok (.iload_n 1, 1) := by decide +kernel
theorem dX4_word_14 : decode cX4_word 14 = .ok (.iconst 1, 1) := by decide +kernel
theorem dX4_word_15 : decode cX4_word 15 = .ok (.isub, 1) := by decide +kernel
theorem dX4_word_16 : decode cX4_word 16 = .ok (.invokestatic 77, 3) := by decide +kernel
theorem dX4_word_19 : decode cX4_word 19 = .ok (.ifCond .ne 5, 3) := by decide +kernel
theorem dX4_word_22 : decode cX4_word 22 = .ok (.iconst (-1), 1) := by decide +kernel
theorem dX4_word_23 : decode cX4_word 23 = .ok (.ireturn, 1) := by decide +kernel
theorem dX4_word_24 : decode cX4_word 24 = .ok (.lload_n 2, 1) := by decide +kernel
theorem dX4_word_25 : decode cX4_word 25 = .ok (.lconst 0, 1) := by decide +kernel
theorem dX4_word_26 : decode cX4_word 26 = .ok (.lcmp, 1) := by decide +kernel
theorem dX4_word_27 : decode cX4_word 27 = .ok (.ifCond .lt 16, 3) := by decide +kernel
theorem dX4_word_30 : decode cX4_word 30 = .ok (.lload_n 2, 1) := by decide +kernel
theorem dX4_word_31 : decode cX4_word 31 = .ok (.aload_n 0, 1) := by decide +kernel
theorem dX4_word_32 : decode cX4_word 32 = .ok (.getfield 34, 3) := by decide +kernel
theorem dX4_word_35 : decode cX4_word 35 = .ok (.iload_n 1, 1) := by decide +kernel
theorem dX4_word_36 : decode cX4_word 36 = .ok (.invokevirtual 121, 3) := by decide +kernel
theorem dX4_word_39 : decode cX4_word 39 = .ok (.lcmp, 1) := by decide +kernel
theorem dX4_word_40 : decode cX4_word 40 = .ok (.ifCond .lt 5, 3) := by decide +kernel
theorem dX4_word_43 : decode cX4_word 43 = .ok (.iconst (-1), 1) := by decide +kernel
theorem dX4_word_44 : decode cX4_word 44 = .ok (.ireturn, 1) := by decide +kernel
theorem dX4_word_45 : decode cX4_word 45 = .ok (.aload_n 0, 1) := by decide +kernel
theorem dX4_word_46 : decode cX4_word 46 = .ok (.getfield 34, 3) := by decide +kernel
theorem dX4_word_49 : decode cX4_word 49 = .ok (.iload_n 1, 1) := by decide +kernel
theorem dX4_word_50 : decode cX4_word 50 = .ok (.lload_n 2, 1) := by decide +kernel
theorem dX4_word_51 : decode cX4_word 51 = .ok (.iload 4, 2) := by decide +kernel
theorem dX4_word_53 : decode cX4_word 53 = .ok (.invokevirtual 124, 3) := by decide +kernel
theorem dX4_word_56 : decode cX4_word 56 = .ok (.ireturn, 1) := by decide +kernel
set_option maxRecDepth 20000 in
theorem ggX4_rank_X4_isWithin : GoodIn wsX4_rank wsX4_isWithin := goodIn_r _ [6] (by decide +kernel) (by decide +kernel)
set_option maxRecDepth 20000 in
theorem gX4_rank_X4_isWithin : GoodIn wsX4_rank (va_wsS RX4 77 yX4_isWithin wsX4_isWithin) := goodIn_app (goodIn_of _ (by decide +kernel)) ggX4_rank_X4_isWithin
set_option maxRecDepth 20000 in
theorem ggX4_rank_X1_countAll : GoodIn wsX4_rank wsX1_countAll := goodIn_r _ [11, 12, 13, 14, 15, 16, 17, 10, 18, 19, 20, 21, 22, 23, 34, 35, 36, 37] (by decide +kernel) (by decide +kernel)
set_option maxRecDepth 20000 in
theorem gX4_rank_X1_countAll : GoodIn wsX4_rank (wsV RX4 121 RX1 yX1_countAll wsX1_countAll) := goodIn_app (goodIn_of _ (by decide +kernel)) ggX4_rank_X1_countAll
set_option maxRecDepth 20000 in
theorem ggX4_rank_X1_numberOf : GoodIn wsX4_rank wsX1_numberOf := goodIn_r _ [27, 23, 28, 14, 15, 16, 17, 10, 18, 19, 20, 21, 22, 13, 34, 35, 36, 37] (by decide +kernel) (by decide +kernel)
set_option maxRecDepth 20000 in
theorem gX4_rank_X1_numberOf : GoodIn wsX4_rank (wsV RX4 127 RX1 yX1_numberOf wsX1_numberOf) := goodIn_app (goodIn_of _ (by decide +kernel)) ggX4_rank_X1_numberOf
theorem dX4_rank_0 : decode cX4_rank 0 = .ok (.iload_n 1, 1) := by decide +kernel
theorem dX4_rank_1 : decode cX4_rank 1 = .ok (.iconst 0, 1) := by decide +kernel
theorem dX4_rank_2 : decode cX4_rank 2 = .ok (.bipush 25, 2) := by decide +kernel
theorem dX4_rank_4 : decode cX4_rank 4 = .ok (.invokestatic 77, 3) := by decide +kernel
theorem dX4_rank_7 : decode cX4_rank 7 = .ok (.ifCond .ne 7, 3) := by decide +kernel
theorem dX4_rank_10 : decode cX4_rank 10 = .ok (.ldc2_w 59, 3) := by decide +kernel
theorem dX4_rank_13 : decode cX4_rank 13 = .ok (.lreturn, 1) := by decide +kernel
theorem dX4_rank_14 : decode cX4_rank 14 = .ok (.aload_n 0, 1) := by decide +kernel
theorem dX4_rank_15 : decode cX4_rank 15 = .ok (.getfield 34, 3) := by decide +kernel
theorem dX4_rank_18 : decode cX4_rank 18 = .ok (.iload_n 1, 1) := by decide +kernel
theorem dX4_rank_19 : decode cX4_rank 19 = .ok (.invokevirtual 121, 3) := by decide +kernel
theorem dX4_rank_22 : decode cX4_rank 22 = .ok (.pop2, 1) := by decide +kernel
theorem dX4_rank_23 : decode cX4_rank 23 = .ok (.aload_n 0, 1) := by decide +kernel
theorem dX4_rank_24 : decode cX4_rank 24 = .ok (.getfield 34, 3) := by decide +kernel
theorem dX4_rank_27 : decode cX4_rank 27 = .ok (.iload_n 1, 1) := by decide +kernel
theorem dX4_rank_28 : decode cX4_rank 28 = .ok (.lload_n 2, 1) := by decide +kernel
theorem dX4_rank_29 : decode cX4_rank 29 = .ok (.invokevirtual 127, 3) := by decide +kernel
theorem dX4_rank_32 : decode cX4_rank 32 = .ok (.lreturn, 1) := by decide +kernel
set_option maxRecDepth 20000 in
theorem ggX4_allow_X4_isWithin : GoodIn wsX4_allow wsX4_isWithin := goodIn_r _ [5] (by decide +kernel) (by decide +kernel)
set_option maxRecDepth 20000 in
theorem gX4_allow_X4_isWithin : GoodIn wsX4_allow (va_wsS RX4 77 yX4_isWithin wsX4_isWithin) := goodIn_app (goodIn_of _ (by decide +kernel)) ggX4_allow_X4_isWithin
set_option maxRecDepth 20000 in
theorem ggX4_allow_X2_setAllowed : GoodIn wsX4_allow wsX2_setAllowed := goodIn_r _ [10, 11, 17, 18] (by decide +kernel) (by decide +kernel)
set_option maxRecDepth 20000 in
theorem gX4_allow_X2_setAllowed : GoodIn wsX4_allow (wsV RX4 131 RX2 yX2_setAllowed wsX2_setAllowed) := goodIn_app (goodIn_of _ (by decide +kernel)) ggX4_allow_X2_setAllowed
theorem dX4_allow_0 : decode cX4_allow 0 = .ok (.iload_n 1, 1) := by decide +kernel
theorem dX4_allow_1 : decode cX4_allow 1 = .ok (.iconst 0, 1) := by decide +kernel
theorem dX4_allow_2 : decode cX4_allow 2 = .ok (.bipush 7, 2) := by decide +kernel
theorem dX4_allow_4 : decode cX4_allow 4 = .ok (.invokestatic 77, 3) := by decide +kernel
theorem dX4_allow_7 : decode cX4_allow 7 = .ok (.ifCond .eq 13, 3) := by decide +kernel
theorem dX4_allow_10 : decode cX4_allow 10 = .ok (.iload_n 2, 1) := by decide +kernel
theorem dX4_allow_11 : decode cX4_allow 11 = .ok (.iconst 0, 1) := by decide +kernel
theorem dX4_allow_12 : decode cX4_allow 12 = .ok (.bipush 7, 2) := by decide +kernel
theorem dX4_allow_14 : decode cX4_allow 14 = .ok (.invokestatic 77, 3) := by decide +kernel
theorem dX4_allow_17 : decode cX4_allow 17 = .ok (.ifCond .ne 5, 3) := by decide +kernel
theorem dX4_allow_20 : decode cX4_allow 20 = .ok (.iconst (-1), 1) := by decide +kernel
theorem dX4_allow_21 : decode cX4_allow 21 = .ok (.ireturn, 1) := by decide +kernel
theorem dX4_allow_22 : decode cX4_allow 22 = .ok (.aload_n 0, 1) := by decide +kernel
theorem dX4_allow_23 : decode cX4_allow 23 = .ok (.getfield 41, 3) := by decide +kernel
theorem dX4_allow_26 : decode cX4_allow 26 = .ok (.iload_n 1, 1) := by decide +kernel
theorem dX4_allow_27 : decode cX4_allow 27 = .ok (.iload_n 2, 1) := by decide +kernel
theorem dX4_allow_28 : decode cX4_allow 28 = .ok (.iload_n 3, 1) := by decide +kernel
theorem dX4_allow_29 : decode cX4_allow 29 = .ok (.invokevirtual 131, 3) := by decide +kernel
theorem dX4_allow_32 : decode cX4_allow 32 = .ok (.ifCond .eq 7, 3) := by decide +kernel
theorem dX4_allow_35 : decode cX4_allow 35 = .ok (.iconst 1, 1) := by decide +kernel
theorem dX4_allow_36 : decode cX4_allow 36 = .ok (.goto 4, 3) := by decide +kernel
theorem dX4_allow_39 : decode cX4_allow 39 = .ok (.iconst 0, 1) := by decide +kernel
theorem dX4_allow_40 : decode cX4_allow 40 = .ok (.ireturn, 1) := by decide +kernel
set_option maxRecDepth 20000 in
theorem ggX4_permutations_X4_isWithin : GoodIn wsX4_permutations wsX4_isWithin := goodIn_r _ [5] (by decide +kernel) (by decide +kernel)
set_option maxRecDepth 20000 in
theorem gX4_permutations_X4_isWithin : GoodIn wsX4_permutations (va_wsS RX4 77 yX4_isWithin wsX4_isWithin) := goodIn_app (goodIn_of _ (by decide +kernel)) ggX4_permutations_X4_isWithin
set_option maxRecDepth 20000 in
theorem ggX4_permutations_X2_countAll : GoodIn wsX4_permutations wsX2_countAll := goodIn_r _ [10, 11, 12, 13, 14, 9, 15, 16, 17, 18, 19, 20, 21, 22, 23, 24, 25, 26, 27, 33, 34] (by decide +kernel) (by decide +kernel)
set_option maxRecDepth 20000 in
theorem gX4_permutations_X2_countAll : GoodIn wsX4_permutations (wsV RX4 135 RX2 yX2_countAll wsX2_countAll) := goodIn_app (goodIn_of _ (by decide +kernel)) ggX4_permutations_X2_countAll
theorem dX4_permutations_0 : decode cX4_permutations 0 = .ok (.iload_n 1, 1) := by decide +kernel
theorem dX4_permutations_1 : decode cX4_permutations 1 = .ok (.iconst 1, 1) := by decide +kernel
theorem dX4_permutations_2 : decode cX4_permutations 2 = .ok (.bipush 8, 2) := by decide +kernel
theorem dX4_permutations_4 : decode cX4_permutations 4 = .ok (.invokestatic 77, 3) := by decide +kernel
theorem dX4_permutations_7 : decode cX4_permutations 7 = .ok (.ifCond .ne 5, 3) := by decide +kernel
theorem dX4_permutations_10 : decode cX4_permutations 10 = .ok (.iconst (-1), 1) := by decide +kernel
theorem dX4_permutations_11 : decode cX4_permutations 11 = .ok (.ireturn, 1) := by decide +kernel
theorem dX4_permutations_12 : decode cX4_permutations 12 = .ok (.aload_n 0, 1) := by decide +kernel
theorem dX4_permutations_13 : decode cX4_permutations 13 = .ok (.getfield 41, 3) := by decide +kernel
theorem dX4_permutations_16 : decode cX4_permutations 16 = .ok (.iload_n 1, 1) := by decide +kernel
theorem dX4_permutations_17 : decode cX4_permutations 17 = .ok (.invokevirtual 135, 3) := by decide +kernel
theorem dX4_permutations_20 : decode cX4_permutations 20 = .ok (.ireturn, 1) := by decide +kernel
set_option maxRecDepth 20000 in
theorem ggX4_permutation_X4_isWithin : GoodIn wsX4_permutation wsX4_isWithin := goodIn_r _ [5] (by decide +kernel) (by decide +kernel)
set_option maxRecDepth 20000 in
theorem gX4_permutation_X4_isWithin : GoodIn wsX4_permutation (va_wsS RX4 77 yX4_isWithin wsX4_isWithin) := goodIn_app (goodIn_of _ (by decide +kernel)) ggX4_permutation_X4_isWithin
set_option maxRecDepth 20000 in
theorem ggX4_permutation_X2_countAll : GoodIn wsX4_permutation wsX2_countAll := goodIn_r _ [10, 11, 12, 13, 14, 9, 15, 16, 17, 18, 19, 20, 21, 22, 23, 24, 25, 26, 27, 41, 42] (by decide +kernel) (by decide +kernel)
set_option maxRecDepth 20000 in
theorem gX4_permutation_X2_countAll : GoodIn wsX4_permutation (wsV RX4 135 RX2 yX2_countAll wsX2_countAll) := goodIn_app (goodIn_of _ (by decide +kernel)) ggX4_permutation_X2_countAll
set_option maxRecDepth 20000 in
theorem ggX4_permutation_X2_atPlace : GoodIn wsX4_permutation wsX2_atPlace := goodIn_r _ [31, 32, 33, 34, 9, 35, 12, 13, 14, 15, 11, 16, 17, 18, 19, 20, 21, 22, 23, 24, 25, 26, 27, 41, 42] (by decide +kernel) (by decide +kernel)
set_option maxRecDepth 20000 in
theorem gX4_permutation_X2_atPlace : GoodIn wsX4_permutation (wsV RX4 137 RX2 yX2_atPlace wsX2_atPlace) := goodIn_app (goodIn_of _ (by decide +kernel)) ggX4_permutation_X2_atPlace
theorem dX4_permutation_0 : decode cX4_permutation 0 = .ok (.iload_n 1, 1) := by decide +kernel
theorem dX4_permutation_1 : decode cX4_permutation 1 = .ok (.iconst 1, 1) := by decide +kernel
theorem dX4_permutation_2 : decode cX4_permutation 2 = .ok (.bipush 8, 2) := by decide +kernel
theorem dX4_permutation_4 : decode cX4_permutation 4 = .ok (.invokestatic 77, 3) := by decide +kernel
theorem dX4_permutation_7 : decode cX4_permutation 7 = .ok (.ifCond .eq 14, 3) := by decide +kernel
theorem dX4_permutation_10 : decode cX4_permutation 10 = .ok (.iload_n 3, 1) := by decide +kernel
theorem dX4_permutation_11 : decode cX4_permutation 11 = .ok (.iconst 0, 1) := by decide +kernel
theorem dX4_permutation_12 : decode cX4_permutation 12 = .ok (.iload_n 1, 1) := by decide +kernel
theorem dX4_permutation_13 : decode cX4_permutation 13 = .ok (.iconst 1, 1) := by decide +kernel
theorem dX4_permutation_14 : decode cX4_permutation 14 = .ok (.isub, 1) := by decide +kernel
theorem dX4_permutation_15 : decode cX4_permutation 15 = .ok (.invokestatic 77, 3) := by decide +kernel
theorem dX4_permutation_18 : decode cX4_permutation 18 = .ok (.ifCond .ne 5, 3) := by decide +kernel
theorem dX4_permutation_21 : decode cX4_permutation 21 = .ok (.iconst (-1), 1) := by decide +kernel
theorem dX4_permutation_22 : decode cX4_permutation 22 = .ok (.ireturn, 1) := by decide +kernel
theorem dX4_permutation_23 : decode cX4_permutation 23 = .ok (.iload_n 2, 1) := by decide +kernel
theorem dX4_permutation_24 : decode cX4_permutation 24 = .ok (.ifCond .lt 15, 3) := by decide +kernel
theorem dX4_permutation_27 : decode cX4_permutation 27 = .ok (.iload_n 2, 1) := by decide +kernel
theorem dX4_permutation_28 : decode cX4_permutation 28 = .ok (.aload_n 0, 1) := by decide +kernel
theorem dX4_permutation_29 : decode cX4_permutation 29 = .ok (.getfield 41, 3) := by decide +kernel
theorem dX4_permutation_32 : decode cX4_permutation 32 = .ok (.iload_n 1, 1) := by decide +kernel
theorem dX4_permutation_33 : decode cX4_permutation 33 = .ok (.invokevirtual 135, 3) := by decide +kernel
theorem dX4_permutation_36 : decode cX4_permutation 36 = .ok (.if_icmp .lt 5, 3) := by decide +kernel
theorem dX4_permutation_39 : decode cX4_permutation 39 = .ok (.iconst (-1), 1) := by decide +kernel
theorem dX4_permutation_40 : decode cX4_permutation 40 = .ok (.ireturn, 1) := by decide +kernel
theorem dX4_permutation_41 : decode cX4_permutation 41 = .ok (.aload_n 0, 1) := by decide +kernel
theorem dX4_permutation_42 : decode cX4_permutation 42 = .ok (.getfield 41, 3) := by decide +kernel
theorem dX4_permutation_45 : decode cX4_permutation 45 = .ok (.iload_n 1, 1) := by decide +kernel
theorem dX4_permutation_46 : decode cX4_permutation 46 = .ok (.iload_n 2, 1) := by decide +kernel
theorem dX4_permutation_47 : decode cX4_permutation 47 = .ok (.iload_n 3, 1) := by decide +kernel
theorem dX4_permutation_48 : decode cX4_permutation 48 = .ok (.invokevirtual 137, 3) := by decide +kernel
theorem dX4_permutation_51 : decode cX4_permutation 51 = .ok (.ireturn, 1) := by decide +kernel
set_option maxRecDepth 20000 in
theorem ggX4_place_X4_isWithin : GoodIn wsX4_place wsX4_isWithin := goodIn_r _ [5] (by decide +kernel) (by decide +kernel)
set_option maxRecDepth 20000 in
theorem gX4_place_X4_isWithin : GoodIn wsX4_place (va_wsS RX4 77 yX4_isWithin wsX4_isWithin) := goodIn_app (goodIn_of _ (by decide +kernel)) ggX4_place_X4_isWithin
set_option maxRecDepth 20000 in
theorem ggX4_place_X2_countAll : GoodIn wsX4_place wsX2_countAll := goodIn_r _ [10, 11, 12, 13, 14, 9, 15, 16, 17, 18, 19, 20, 21, 22, 23, 24, 25, 26, 27, 37, 38] (by decide +kernel) (by decide +kernel)
set_option maxRecDepth 20000 in
theorem gX4_place_X2_countAll : GoodIn wsX4_place (wsV RX4 135 RX2 yX2_countAll wsX2_countAll) := goodIn_app (goodIn_of _ (by decide +kernel)) ggX4_place_X2_countAll
set_option maxRecDepth 20000 in
theorem ggX4_place_X2_numberOf : GoodIn wsX4_place wsX2_numberOf := goodIn_r _ [31, 16, 17, 18, 9, 19, 20, 21, 22, 23, 24, 25, 26, 27, 12, 13, 14, 15, 11, 37, 38] (by decide +kernel) (by decide +kernel)
set_option maxRecDepth 20000 in
theorem gX4_place_X2_numberOf : GoodIn wsX4_place (wsV RX4 140 RX2 yX2_numberOf wsX2_numberOf) := goodIn_app (goodIn_of _ (by decide +kernel)) ggX4_place_X2_numberOf
theorem dX4_place_0 : decode cX4_place 0 = .ok (.iload_n 1, 1) := by decide +kernel
theorem dX4_place_1 : decode cX4_place 1 = .ok (.iconst 1, 1) := by decide +kernel
theorem dX4_place_2 : decode cX4_place 2 = .ok (.bipush 8, 2) := by decide +kernel
theorem dX4_place_4 : decode cX4_place 4 = .ok (.invokestatic 77, 3) := by decide +kernel
theorem dX4_place_7 : decode cX4_place 7 = .ok (.ifCond .ne 5, 3) := by decide +kernel
theorem dX4_place_10 : decode cX4_place 10 = .ok (.iconst (-1), 1) := by decide +kernel
theorem dX4_place_11 : decode cX4_place 11 = .ok (.ireturn, 1) := by decide +kernel
theorem dX4_place_12 : decode cX4_place 12 = .ok (.aload_n 0, 1) := by decide +kernel
theorem dX4_place_13 : decode cX4_place 13 = .ok (.getfield 41, 3) := by decide +kernel
theorem dX4_place_16 : decode cX4_place 16 = .ok (.iload_n 1, 1) := by decide +kernel
theorem dX4_place_17 : decode cX4_place 17 = .ok (.invokevirtual 135, 3) := by decide +kernel
theorem dX4_place_20 : decode cX4_place 20 = .ok (.pop, 1) := by decide +kernel
theorem dX4_place_21 : decode cX4_place 21 = .ok (.aload_n 0, 1) := by decide +kernel
theorem dX4_place_22 : decode cX4_place 22 = .ok (.getfield 41, 3) := by decide +kernel
theorem dX4_place_25 : decode cX4_place 25 = .ok (.iload_n 1, 1) := by decide +kernel
theorem dX4_place_26 : decode cX4_place 26 = .ok (.iload_n 2, 1) := by decide +kernel
theorem dX4_place_27 : decode cX4_place 27 = .ok (.invokevirtual 140, 3) := by decide +kernel
theorem dX4_place_30 : decode cX4_place 30 = .ok (.ireturn, 1) := by decide +kernel
set_option maxRecDepth 20000 in
theorem ggX4_things_X4_isWithin : GoodIn wsX4_things wsX4_isWithin := goodIn_r _ [5] (by decide +kernel) (by decide +kernel)
set_option maxRecDepth 20000 in
theorem gX4_things_X4_isWithin : GoodIn wsX4_things (va_wsS RX4 77 yX4_isWithin wsX4_isWithin) := goodIn_app (goodIn_of _ (by decide +kernel)) ggX4_things_X4_isWithin
set_option maxRecDepth 20000 in
theorem ggX4_things_X3_setThings : GoodIn wsX4_things wsX3_setThings := goodIn_r _ [10, 11, 12, 13, 14, 15, 16, 22, 23, 24, 25, 26, 27] (by decide +kernel) (by decide +kernel)
set_option maxRecDepth 20000 in
theorem gX4_things_X3_setThings : GoodIn wsX4_things (wsV RX4 142 RX3 yX3_setThings wsX3_setThings) := goodIn_app (goodIn_of _ (by decide +kernel)) ggX4_things_X3_setThings
theorem dX4_things_0 : decode cX4_things 0 = .ok (.iload_n 1, 1) := by decide +kernel
theorem dX4_things_1 : decode cX4_things 1 = .ok (.iconst 1, 1) := by decide +kernel
theorem dX4_things_2 : decode cX4_things 2 = .ok (.bipush 16, 2) := by decide +kernel
theorem dX4_things_4 : decode cX4_things 4 = .ok (.invokestatic 77, 3) := by decide +kernel
theorem dX4_things_7 : decode cX4_things 7 = .ok (.ifCond .ne 5, 3) := by decide +kernel
theorem dX4_things_10 : decode cX4_things 10 = .ok (.iconst (-1), 1) := by decide +kernel
theorem dX4_things_11 : decode cX4_things 11 = .ok (.ireturn, 1) := by decide +kernel
theorem dX4_things_12 : decode cX4_things 12 = .ok (.aload_n 0, 1) := by decide +kernel
theorem dX4_things_13 : decode cX4_things 13 = .ok (.getfield 48, 3) := by decide +kernel
theorem dX4_things_16 : decode cX4_things 16 = .ok (.iload_n 1, 1) := by decide +kernel
theorem dX4_things_17 : decode cX4_things 17 = .ok (.invokevirtual 142, 3) := by decide +kernel
theorem dX4_things_20 : decode cX4_things 20 = .ok (.ireturn, 1) := by decide +kernel
set_option maxRecDepth 20000 in
theorem ggX4_weight_X3_isThing : GoodIn wsX4_weight wsX3_isThing := goodIn_r _ [6, 7, 22, 23, 24, 25, 26, 27] (by decide +kernel) (by decide +kernel)
set_option maxRecDepth 20000 in
theorem gX4_weight_X3_isThing : GoodIn wsX4_weight (wsV RX4 145 RX3 yX3_isThing wsX3_isThing) := goodIn_app (goodIn_of _ (by decide +kernel)) ggX4_weight_X3_isThing
set_option maxRecDepth 20000 in
theorem ggX4_weight_X4_isWithin : GoodIn wsX4_weight wsX4_isWithin := goodIn_r _ [11] (by decide +kernel) (by decide +kernel)
set_option maxRecDepth 20000 in
theorem gX4_weight_X4_isWithin : GoodIn wsX4_weight (va_wsS RX4 77 yX4_isWithin wsX4_isWithin) := goodIn_app (goodIn_of _ (by decide +kernel)) ggX4_weight_X4_isWithin
set_option maxRecDepth 20000 in
theorem ggX4_weight_X3_setWeight : GoodIn wsX4_weight wsX3_setWeight := goodIn_r _ [15, 16, 22, 23, 24, 25, 26, 27] (by decide +kernel) (by decide +kernel)
set_option maxRecDepth 20000 in
theorem gX4_weight_X3_setWeight : GoodIn wsX4_weight (wsV RX4 148 RX3 yX3_setWeight wsX3_setWeight) := goodIn_app (goodIn_of _ (by decide +kernel)) ggX4_weight_X3_setWeight
theorem dX4_weight_0 : decode cX4_weight 0 = .ok (.aload_n 0, 1) := by decide +kernel
theorem dX4_weight_1 : decode cX4_weight 1 = .ok (.getfield 48, 3) := by decide +kernel
theorem dX4_weight_4 : decode cX4_weight 4 = .ok (.iload_n 1, 1) := by decide +kernel
theorem dX4_weight_5 : decode cX4_weight 5 = .ok (.invokevirtual 145, 3) := by decide +kernel
theorem dX4_weight_8 : decode cX4_weight 8 = .ok (.ifCond .eq 14, 3) := by decide +kernel
theorem dX4_weight_11 : decode cX4_weight 11 = .ok (.iload_n 2, 1) := by decide +kernel
theorem dX4_weight_12 : decode cX4_weight 12 = .ok (.iconst 0, 1) := by decide +kernel
theorem dX4_weight_13 : decode cX4_weight 13 = .ok (.sipush 1000, 3) := by decide +kernel
theorem dX4_weight_16 : decode cX4_weight 16 = .ok (.invokestatic 77, 3) := by decide +kernel
theorem dX4_weight_19 : decode cX4_weight 19 = .ok (.ifCond .ne 5, 3) := by decide +kernel
theorem dX4_weight_22 : decode cX4_weight 22 = .ok (.iconst (-1), 1) := by decide +kernel
theorem dX4_weight_23 : decode cX4_weight 23 = .ok (.ireturn, 1) := by decide +kernel
theorem dX4_weight_24 : decode cX4_weight 24 = .ok (.aload_n 0, 1) := by decide +kernel
theorem dX4_weight_25 : decode cX4_weight 25 = .ok (.getfield 48, 3) := by decide +kernel
theorem dX4_weight_28 : decode cX4_weight 28 = .ok (.iload_n 1, 1) := by decide +kernel
theorem dX4_weight_29 : decode cX4_weight 29 = .ok (.iload_n 2, 1) := by decide +kernel
theorem dX4_weight_30 : decode cX4_weight 30 = .ok (.invokevirtual 148, 3) := by decide +kernel
theorem dX4_weight_33 : decode cX4_weight 33 = .ok (.ireturn, 1) := by decide +kernel
set_option maxRecDepth 20000 in
theorem ggX4_cell_X3_isThing : GoodIn wsX4_cell wsX3_isThing := goodIn_r _ [6, 7, 46, 47, 48, 49, 50, 51] (by decide +kernel) (by decide +kernel)
set_option maxRecDepth 20000 in
theorem gX4_cell_X3_isThing : GoodIn wsX4_cell (wsV RX4 145 RX3 yX3_isThing wsX3_isThing) := goodIn_app (goodIn_of _ (by decide +kernel)) ggX4_cell_X3_isThing
set_option maxRecDepth 20000 in
theorem ggX4_cell_X4_isWithin : GoodIn wsX4_cell wsX4_isWithin := goodIn_r _ [11] (by decide +kernel) (by decide +kernel)
set_option maxRecDepth 20000 in
theorem gX4_cell_X4_isWithin : GoodIn wsX4_cell (va_wsS RX4 77 yX4_isWithin wsX4_isWithin) := goodIn_app (goodIn_of _ (by decide +kernel)) ggX4_cell_X4_isWithin
set_option maxRecDepth 20000 in
theorem ggX4_cell_X3_sum : GoodIn wsX4_cell wsX3_sum := goodIn_r _ [15, 7, 16, 46, 47, 48, 49, 50, 51] (by decide +kernel) (by decide +kernel)
set_option maxRecDepth 20000 in
theorem gX4_cell_X3_sum : GoodIn wsX4_cell (wsV RX4 151 RX3 yX3_sum wsX3_sum) := goodIn_app (goodIn_of _ (by decide +kernel)) ggX4_cell_X3_sum
set_option maxRecDepth 20000 in
theorem ggX4_cell_X3_make : GoodIn wsX4_cell wsX3_make := goodIn_r _ [20, 7, 21, 16, 22, 23, 24, 25, 26, 27, 5, 28, 29, 30, 31, 32, 46, 47, 48, 49, 50, 51] (by decide +kernel) (by decide +kernel)
set_option maxRecDepth 20000 in
theorem gX4_cell_X3_make : GoodIn wsX4_cell (wsV RX4 155 RX3 yX3_make wsX3_make) := goodIn_app (goodIn_of _ (by decide +kernel)) ggX4_cell_X3_make
set_option maxRecDepth 20000 in
theorem ggX4_cell_X3_limitOf : GoodIn wsX4_cell wsX3_limitOf := goodIn_r _ [36, 22, 46, 47, 48, 49, 50, 51] (by decide +kernel) (by decide +kernel)
set_option maxRecDepth 20000 in
theorem gX4_cell_X3_limitOf : GoodIn wsX4_cell (wsV RX4 158 RX3 yX3_limitOf wsX3_limitOf) := goodIn_app (goodIn_of _ (by decide +kernel)) ggX4_cell_X3_limitOf
set_option maxRecDepth 20000 in
theorem ggX4_cell_X3_otherOf : GoodIn wsX4_cell wsX3_otherOf := goodIn_r _ [40, 23, 46, 47, 48, 49, 50, 51] (by decide +kernel) (by decide +kernel)
set_option maxRecDepth 20000 in
theorem gX4_cell_X3_otherOf : GoodIn wsX4_cell (wsV RX4 161 RX3 yX3_otherOf wsX3_otherOf) := goodIn_app (goodIn_of _ (by decide +kernel)) ggX4_cell_X3_otherOf
theorem dX4_cell_0 : decode cX4_cell 0 = .ok (.aload_n 0, 1) := by decide +kernel
theorem dX4_cell_1 : decode cX4_cell 1 = .ok (.getfield 48, 3) := by decide +kernel
theorem dX4_cell_4 : decode cX4_cell 4 = .ok (.iload_n 1, 1) := by decide +kernel
theorem dX4_cell_5 : decode cX4_cell 5 = .ok (.invokevirtual 145, 3) := by decide +kernel
theorem dX4_cell_8 : decode cX4_cell 8 = .ok (.ifCond .eq 12, 3) := by decide +kernel
theorem dX4_cell_11 : decode cX4_cell 11 = .ok (.iload_n 2, 1) := by decide +kernel
theorem dX4_cell_12 : decode cX4_cell 12 = .ok (.iconst 0, 1) := by decide +kernel
theorem dX4_cell_13 : decode cX4_cell 13 = .ok (.iconst 2, 1) := by decide +kernel
theorem dX4_cell_14 : decode cX4_cell 14 = .ok (.invokestatic 77, 3) := by decide +kernel
theorem dX4_cell_17 : decode cX4_cell 17 = .ok (.ifCond .ne 5, 3) := by decide +kernel
theorem dX4_cell_20 : decode cX4_cell 20 = .ok (.iconst (-1), 1) := by decide +kernel
theorem dX4_cell_21 : decode cX4_cell 21 = .ok (.ireturn, 1) := by decide +kernel
theorem dX4_cell_22 : decode cX4_cell 22 = .ok (.aload_n 0, 1) := by decide +kernel
theorem dX4_cell_23 : decode cX4_cell 23 = .ok (.getfield 48, 3) := by decide +kernel
theorem dX4_cell_26 : decode cX4_cell 26 = .ok (.invokevirtual 151, 3) := by decide +kernel
theorem dX4_cell_29 : decode cX4_cell 29 = .ok (.istore_n 3, 1) := by decide +kernel
theorem dX4_cell_30 : decode cX4_cell 30 = .ok (.iload_n 3, 1) := by decide +kernel
theorem dX4_cell_31 : decode cX4_cell 31 = .ok (.ifCond .ne 6, 3) := by decide +kernel
theorem dX4_cell_34 : decode cX4_cell 34 = .ok (.bipush (-2), 2) := by decide +kernel
theorem dX4_cell_36 : decode cX4_cell 36 = .ok (.ireturn, 1) := by decide +kernel
theorem dX4_cell_37 : decode cX4_cell 37 = .ok (.iload_n 2, 1) := by decide +kernel
theorem dX4_cell_38 : decode cX4_cell 38 = .ok (.iconst 2, 1) := by decide +kernel
theorem dX4_cell_39 : decode cX4_cell 39 = .ok (.if_icmp .ne 5, 3) := by decide +kernel
theorem dX4_cell_42 : decode cX4_cell 42 = .ok (.iload_n 3, 1) := by decide +kernel
theorem dX4_cell_43 : decode cX4_cell 43 = .ok (.ireturn, 1) := by decide +kernel
theorem dX4_cell_44 : decode cX4_cell 44 = .ok (.aload_n 0, 1) := by decide +kernel
theorem dX4_cell_45 : decode cX4_cell 45 = .ok (.getfield 48, 3) := by decide +kernel
theorem dX4_cell_48 : decode cX4_cell 48 = .ok (.iload_n 3, 1) := by decide +kernel
theorem dX4_cell_49 : decode cX4_cell 49 = .ok (.invokevirtual 155, 3) := by decide +kernel
theorem dX4_cell_52 : decode cX4_cell 52 = .ok (.iload_n 2, 1) := by decide +kernel
theorem dX4_cell_53 : decode cX4_cell 53 = .ok (.ifCond .ne 14, 3) := by decide +kernel
theorem dX4_cell_56 : decode cX4_cell 56 = .ok (.aload_n 0, 1) := by decide +kernel
theorem dX4_cell_57 : decode cX4_cell 57 = .ok (.getfield 48, 3) := by decide +kernel
theorem dX4_cell_60 : decode cX4_cell 60 = .ok (.iload_n 1, 1) := by decide +kernel
theorem dX4_cell_61 : decode cX4_cell 61 = .ok (.invokevirtual 158, 3) := by decide +kernel
theorem dX4_cell_64 : decode cX4_cell 64 = .ok (.goto 11, 3) := by decide +kernel
theorem dX4_cell_67 : decode cX4_cell 67 = .ok (.aload_n 0, 1) := by decide +kernel
theorem dX4_cell_68 : decode cX4_cell 68 = .ok (.getfield 48, 3) := by decide +kernel
theorem dX4_cell_71 : decode cX4_cell 71 = .ok (.iload_n 1, 1) := by decide +kernel
theorem dX4_cell_72 : decode cX4_cell 72 = .ok (.invokevirtual 161, 3) := by decide +kernel
theorem dX4_cell_75 : decode cX4_cell 75 = .ok (.ireturn, 1) := by decide +kernel
set_option maxRecDepth 20000 in
theorem ggX4_tell_X3_sum : GoodIn wsX4_tell wsX3_sum := goodIn_r _ [6, 7, 8, 42, 43, 44, 45, 46, 47] (by decide +kernel) (by decide +kernel)
set_option maxRecDepth 20000 in
theorem gX4_tell_X3_sum : GoodIn wsX4_tell (wsV RX4 151 RX3 yX3_sum wsX3_sum) := goodIn_app (goodIn_of _ (by decide +kernel)) ggX4_tell_X3_sum
set_option maxRecDepth 20000 in
theorem ggX4_tell_J9_floorDiv_7cf53 : GoodIn wsX4_tell wsJ9_floorDiv_7cf53 := goodIn_r _ [12] (by decide +kernel) (by decide +kernel)
set_option maxRecDepth 20000 in
theorem gX4_tell_J9_floorDiv_7cf53 : GoodIn wsX4_tell (va_wsS RX4 164 yJ9_floorDiv_7cf53 wsJ9_floorDiv_7cf53) := goodIn_app (goodIn_of _ (by decide +kernel)) ggX4_tell_J9_floorDiv_7cf53
set_option maxRecDepth 20000 in
theorem ggX4_tell_X3_isThing : GoodIn wsX4_tell wsX3_isThing := goodIn_r _ [16, 7, 42, 43, 44, 45, 46, 47] (by decide +kernel) (by decide +kernel)
set_option maxRecDepth 20000 in
theorem gX4_tell_X3_isThing : GoodIn wsX4_tell (wsV RX4 145 RX3 yX3_isThing wsX3_isThing) := goodIn_app (goodIn_of _ (by decide +kernel)) ggX4_tell_X3_isThing
set_option maxRecDepth 20000 in
theorem ggX4_tell_X3_make : GoodIn wsX4_tell wsX3_make := goodIn_r _ [20, 7, 21, 8, 22, 23, 24, 25, 26, 27, 5, 28, 29, 30, 31, 32, 42, 43, 44, 45, 46, 47] (by decide +kernel) (by decide +kernel)
set_option maxRecDepth 20000 in
theorem gX4_tell_X3_make : GoodIn wsX4_tell (wsV RX4 155 RX3 yX3_make wsX3_make) := goodIn_app (goodIn_of _ (by decide +kernel)) ggX4_tell_X3_make
set_option maxRecDepth 20000 in
theorem ggX4_tell_X3_thingAt : GoodIn wsX4_tell wsX3_thingAt := goodIn_r _ [36, 22, 23, 42, 43, 44, 45, 46, 47] (by decide +kernel) (by decide +kernel)
set_option maxRecDepth 20000 in
theorem gX4_tell_X3_thingAt : GoodIn wsX4_tell (wsV RX4 167 RX3 yX3_thingAt wsX3_thingAt) := goodIn_app (goodIn_of _ (by decide +kernel)) ggX4_tell_X3_thingAt
theorem dX4_tell_0 : decode cX4_tell 0 = .ok (.aload_n 0, 1) := by decide +kernel
theorem dX4_tell_1 : decode cX4_tell 1 = .ok (.getfield 48, 3) := by decide +kernel
theorem dX4_tell_4 : decode cX4_tell 4 = .ok (.invokevirtual 151, 3) := by decide +kernel
theorem dX4_tell_7 : decode cX4_tell 7 = .ok (.istore_n 2, 1) := by decide +kernel
theorem dX4_tell_8 : decode cX4_tell 8 = .ok (.iload_n 2, 1) := by decide +kernel
theorem dX4_tell_9 : decode cX4_tell 9 = .ok (.ifCond .ne 6, 3) := by decide +kernel
theorem dX4_tell_12 : decode cX4_tell 12 = .ok (.bipush (-2), 2) := by decide +kernel
theorem dX4_tell_14 : decode cX4_tell 14 = .ok (.ireturn, 1) := by decide +kernel
theorem dX4_tell_15 : decode cX4_tell 15 = .ok (.aload_n 0, 1) := by decide +kernel
theorem dX4_tell_16 : decode cX4_tell 16 = .ok (.getfield 48, 3) := by decide +kernel
theorem dX4_tell_19 : decode cX4_tell 19 = .ok (.iload_n 1, 1) := by decide +kernel
theorem dX4_tell_20 : decode cX4_tell 20 = .ok (.iload_n 2, 1) := by decide +kernel
theorem dX4_tell_21 : decode cX4_tell 21 = .ok (.invokestatic 164, 3) := by decide +kernel
theorem dX4_tell_24 : decode cX4_tell 24 = .ok (.invokevirtual 145, 3) := by decide +kernel
theorem dX4_tell_27 : decode cX4_tell 27 = .ok (.ifCond .ne 5, 3) := by decide +kernel
theorem dX4_tell_30 : decode cX4_tell 30 = .ok (.iconst (-1), 1) := by decide +kernel
theorem dX4_tell_31 : decode cX4_tell 31 = .ok (.ireturn, 1) := by decide +kernel
theorem dX4_tell_32 : decode cX4_tell 32 = .ok (.aload_n 0, 1) := by decide +kernel
theorem dX4_tell_33 : decode cX4_tell 33 = .ok (.getfield 48, 3) := by decide +kernel
theorem dX4_tell_36 : decode cX4_tell 36 = .ok (.iload_n 2, 1) := by decide +kernel
theorem dX4_tell_37 : decode cX4_tell 37 = .ok (.invokevirtual 155, 3) := by decide +kernel
theorem dX4_tell_40 : decode cX4_tell 40 = .ok (.aload_n 0, 1) := by decide +kernel
theorem dX4_tell_41 : decode cX4_tell 41 = .ok (.getfield 48, 3) := by decide +kernel
theorem dX4_tell_44 : decode cX4_tell 44 = .ok (.iload_n 1, 1) := by decide +kernel
theorem dX4_tell_45 : decode cX4_tell 45 = .ok (.iload_n 2, 1) := by decide +kernel
theorem dX4_tell_46 : decode cX4_tell 46 = .ok (.idiv, 1) := by decide +kernel
theorem dX4_tell_47 : decode cX4_tell 47 = .ok (.iload_n 1, 1) := by decide +kernel
theorem dX4_tell_48 : decode cX4_tell 48 = .ok (.iload_n 2, 1) := by decide +kernel
theorem dX4_tell_49 : decode cX4_tell 49 = .ok (.irem, 1) := by decide +kernel
theorem dX4_tell_50 : decode cX4_tell 50 = .ok (.invokevirtual 167, 3) := by decide +kernel
theorem dX4_tell_53 : decode cX4_tell 53 = .ok (.ireturn, 1) := by decide +kernel
theorem dX4_isState_0 : decode cX4_isState 0 = .ok (.iload_n 1, 1) := by decide +kernel
theorem dX4_isState_1 : decode cX4_isState 1 = .ok (.ifCond .lt 15, 3) := by decide +kernel
theorem dX4_isState_4 : decode cX4_isState 4 = .ok (.iload_n 1, 1) := by decide +kernel
theorem dX4_isState_5 : decode cX4_isState 5 = .ok (.aload_n 0, 1) := by decide +kernel
theorem dX4_isState_6 : decode cX4_isState 6 = .ok (.getfield 18, 3) := by decide +kernel
theorem dX4_isState_9 : decode cX4_isState 9 = .ok (.if_icmp .ge 7, 3) := by decide +kernel
theorem dX4_isState_12 : decode cX4_isState 12 = .ok (.iconst 1, 1) := by decide +kernel
theorem dX4_isState_13 : decode cX4_isState 13 = .ok (.goto 4, 3) := by decide +kernel
theorem dX4_isState_16 : decode cX4_isState 16 = .ok (.iconst 0, 1) := by decide +kernel
theorem dX4_isState_17 : decode cX4_isState 17 = .ok (.ireturn, 1) := by decide +kernel
theorem dX4_isWithin_0 : decode cX4_isWithin 0 = .ok (.iload_n 0, 1) := by decide +kernel
theorem dX4_isWithin_1 : decode cX4_isWithin 1 = .ok (.iload_n 1, 1) := by decide +kernel
theorem dX4_isWithin_2 : decode cX4_isWithin 2 = .ok (.if_icmp .lt 12, 3) := by decide +kernel
theorem dX4_isWithin_5 : decode cX4_isWithin 5 = .ok (.iload_n 0, 1) := by decide +kernel
theorem dX4_isWithin_6 : decode cX4_isWithin 6 = .ok (.iload_n 2, 1) := by decide +kernel
theorem dX4_isWithin_7 : decode cX4_isWithin 7 = .ok (.if_icmp .gt 7, 3) := by decide +kernel
theorem dX4_isWithin_10 : decode cX4_isWithin 10 = .ok (.iconst 1, 1) := by decide +kernel
theorem dX4_isWithin_11 : decode cX4_isWithin 11 = .ok (.goto 4, 3) := by decide +kernel
theorem dX4_isWithin_14 : decode cX4_isWithin 14 = .ok (.iconst 0, 1) := by decide +kernel
theorem dX4_isWithin_15 : decode cX4_isWithin 15 = .ok (.ireturn, 1) := by decide +kernel
theorem dX4_isBound_0 : decode cX4_isBound 0 = .ok (.lload_n 0, 1) := by decide +kernel
theorem dX4_isBound_1 : decode cX4_isBound 1 = .ok (.lconst 1, 1) := by decide +kernel
theorem dX4_isBound_2 : decode cX4_isBound 2 = .ok (.lcmp, 1) := by decide +kernel
theorem dX4_isBound_3 : decode cX4_isBound 3 = .ok (.ifCond .lt 15, 3) := by decide +kernel
theorem dX4_isBound_6 : decode cX4_isBound 6 = .ok (.lload_n 0, 1) := by decide +kernel
theorem dX4_isBound_7 : decode cX4_isBound 7 = .ok (.ldc2_w 170, 3) := by decide +kernel
theorem dX4_isBound_10 : decode cX4_isBound 10 = .ok (.lcmp, 1) := by decide +kernel
theorem dX4_isBound_11 : decode cX4_isBound 11 = .ok (.ifCond .gt 7, 3) := by decide +kernel
theorem dX4_isBound_14 : decode cX4_isBound 14 = .ok (.iconst 1, 1) := by decide +kernel
theorem dX4_isBound_15 : decode cX4_isBound 15 = .ok (.goto 4, 3) := by decide +kernel
theorem dX4_isBound_18 : decode cX4_isBound 18 = .ok (.iconst 0, 1) := by decide +kernel
theorem dX4_isBound_19 : decode cX4_isBound 19 = .ok (.ireturn, 1) := by decide +kernel
theorem dX4_mixed_0 : decode cX4_mixed 0 = .ok (.iload_n 0, 1) := by decide +kernel
theorem dX4_mixed_1 : decode cX4_mixed 1 = .ok (.iload_n 1, 1) := by decide +kernel
theorem dX4_mixed_2 : decode cX4_mixed 2 = .ok (.ldc 172, 2) := by decide +kernel
theorem dX4_mixed_4 : decode cX4_mixed 4 = .ok (.imul, 1) := by decide +kernel
theorem dX4_mixed_5 : decode cX4_mixed 5 = .ok (.iadd, 1) := by decide +kernel
theorem dX4_mixed_6 : decode cX4_mixed 6 = .ok (.istore_n 2, 1) := by decide +kernel
theorem dX4_mixed_7 : decode cX4_mixed 7 = .ok (.iload_n 2, 1) := by decide +kernel
theorem dX4_mixed_8 : decode cX4_mixed 8 = .ok (.iload_n 2, 1) := by decide +kernel
theorem dX4_mixed_9 : decode cX4_mixed 9 = .ok (.bipush 16, 2) := by decide +kernel
theorem dX4_mixed_11 : decode cX4_mixed 11 = .ok (.iushr, 1) := by decide +kernel
theorem dX4_mixed_12 : decode cX4_mixed 12 = .ok (.ixor, 1) := by decide +kernel
theorem dX4_mixed_13 : decode cX4_mixed 13 = .ok (.ldc 173, 2) := by decide +kernel
theorem dX4_mixed_15 : decode cX4_mixed 15 = .ok (.imul, 1) := by decide +kernel
theorem dX4_mixed_16 : decode cX4_mixed 16 = .ok (.istore_n 2, 1) := by decide +kernel
theorem dX4_mixed_17 : decode cX4_mixed 17 = .ok (.iload_n 2, 1) := by decide +kernel
theorem dX4_mixed_18 : decode cX4_mixed 18 = .ok (.iload_n 2, 1) := by decide +kernel
theorem dX4_mixed_19 : decode cX4_mixed 19 = .ok (.bipush 13, 2) := by decide +kernel
theorem dX4_mixed_21 : decode cX4_mixed 21 = .ok (.iushr, 1) := by decide +kernel
theorem dX4_mixed_22 : decode cX4_mixed 22 = .ok (.ixor, 1) := by decide +kernel
theorem dX4_mixed_23 : decode cX4_mixed 23 = .ok (.ldc 174, 2) := by decide +kernel
theorem dX4_mixed_25 : decode cX4_mixed 25 = .ok (.imul, 1) := by decide +kernel
theorem dX4_mixed_26 : decode cX4_mixed 26 = .ok (.istore_n 2, 1) := by decide +kernel
theorem dX4_mixed_27 : decode cX4_mixed 27 = .ok (.iload_n 2, 1) := by decide +kernel
theorem dX4_mixed_28 : decode cX4_mixed 28 = .ok (.iload_n 2, 1) := by decide +kernel
theorem dX4_mixed_29 : decode cX4_mixed 29 = .ok (.bipush 16, 2) := by decide +kernel
theorem dX4_mixed_31 : decode cX4_mixed 31 = .ok (.iushr, 1) := by decide +kernel
theorem dX4_mixed_32 : decode cX4_mixed 32 = .ok (.ixor, 1) := by decide +kernel
theorem dX4_mixed_33 : decode cX4_mixed 33 = .ok (.ireturn, 1) := by decide +kernel
set_option maxRecDepth 20000 in
theorem ggX4_signAt_X4_mixed : GoodIn wsX4_signAt wsX4_mixed := goodIn_r _ [4, 5, 6, 7] (by decide +kernel) (by decide +kernel)
set_option maxRecDepth 20000 in
theorem gX4_signAt_X4_mixed : GoodIn wsX4_signAt (va_wsS RX4 52 yX4_mixed wsX4_mixed) := goodIn_app (goodIn_of _ (by decide +kernel)) ggX4_signAt_X4_mixed
theorem dX4_signAt_0 : decode cX4_signAt 0 = .ok (.iload_n 0, 1) := by decide +kernel
theorem dX4_signAt_1 : decode cX4_signAt 1 = .ok (.iload_n 1, 1) := by decide +kernel
theorem dX4_signAt_2 : decode cX4_signAt 2 = .ok (.invokestatic 52, 3) := by decide +kernel
theorem dX4_signAt_5 : decode cX4_signAt 5 = .ok (.bipush 29, 2) := by decide +kernel
theorem dX4_signAt_7 : decode cX4_signAt 7 = .ok (.iushr, 1) := by decide +kernel
theorem dX4_signAt_8 : decode cX4_signAt 8 = .ok (.ireturn, 1) := by decide +kernel
theorem dX4_bitsFor_0 : decode cX4_bitsFor 0 = .ok (.iconst 0, 1) := by decide +kernel
theorem dX4_bitsFor_1 : decode cX4_bitsFor 1 = .ok (.istore_n 2, 1) := by decide +kernel
theorem dX4_bitsFor_2 : decode cX4_bitsFor 2 = .ok (.iload_n 2, 1) := by decide +kernel
theorem dX4_bitsFor_3 : decode cX4_bitsFor 3 = .ok (.bipush 62, 2) := by decide +kernel
theorem dX4_bitsFor_5 : decode cX4_bitsFor 5 = .ok (.if_icmp .ge 17, 3) := by decide +kernel
theorem dX4_bitsFor_8 : decode cX4_bitsFor 8 = .ok (.lconst 1, 1) := by decide +kernel
theorem dX4_bitsFor_9 : decode cX4_bitsFor 9 = .ok (.iload_n 2, 1) := by decide +kernel
theorem dX4_bitsFor_10 : decode cX4_bitsFor 10 = .ok (.lshl, 1) := by decide +kernel
theorem dX4_bitsFor_11 : decode cX4_bitsFor 11 = .ok (.lload_n 0, 1) := by decide +kernel
theorem dX4_bitsFor_12 : decode cX4_bitsFor 12 = .ok (.lcmp, 1) := by decide +kernel
theorem dX4_bitsFor_13 : decode cX4_bitsFor 13 = .ok (.ifCond .ge 9, 3) := by decide +kernel
theorem dX4_bitsFor_16 : decode cX4_bitsFor 16 = .ok (.iinc 2 1, 3) := by decide +kernel
theorem dX4_bitsFor_19 : decode cX4_bitsFor 19 = .ok (.goto (-17), 3) := by decide +kernel
theorem dX4_bitsFor_22 : decode cX4_bitsFor 22 = .ok (.iload_n 2, 1) := by decide +kernel
theorem dX4_bitsFor_23 : decode cX4_bitsFor 23 = .ok (.ireturn, 1) := by decide +kernel
theorem dX4_powerFrom_0 : decode cX4_powerFrom 0 = .ok (.iconst 1, 1) := by decide +kernel
theorem dX4_powerFrom_1 : decode cX4_powerFrom 1 = .ok (.istore_n 1, 1) := by decide +kernel
theorem dX4_powerFrom_2 : decode cX4_powerFrom 2 = .ok (.iload_n 1, 1) := by decide +kernel
theorem dX4_powerFrom_3 : decode cX4_powerFrom 3 = .ok (.iload_n 0, 1) := by decide +kernel
theorem dX4_powerFrom_4 : decode cX4_powerFrom 4 = .ok (.if_icmp .ge 17, 3) := by decide +kernel
theorem dX4_powerFrom_7 : decode cX4_powerFrom 7 = .ok (.iload_n 1, 1) := by decide +kernel
theorem dX4_powerFrom_8 : decode cX4_powerFrom 8 = .ok (.sipush 4096, 3) := by decide +kernel
theorem dX4_powerFrom_11 : decode cX4_powerFrom 11 = .ok (.if_icmp .ge 10, 3) := by decide +kernel
theorem dX4_powerFrom_14 : decode cX4_powerFrom 14 = .ok (.iload_n 1, 1) := by decide +kernel
theorem dX4_powerFrom_15 : decode cX4_powerFrom 15 = .ok (.iconst 2, 1) := by decide +kernel
theorem dX4_powerFrom_16 : decode cX4_powerFrom 16 = .ok (.imul, 1) := by decide +kernel
theorem dX4_powerFrom_17 : decode cX4_powerFrom 17 = .ok (.istore_n 1, 1) := by decide +kernel
theorem dX4_powerFrom_18 : decode cX4_powerFrom 18 = .ok (.goto (-16), 3) := by decide +kernel
theorem dX4_powerFrom_21 : decode cX4_powerFrom 21 = .ok (.iload_n 1, 1) := by decide +kernel
theorem dX4_powerFrom_22 : decode cX4_powerFrom 22 = .ok (.ireturn, 1) := by decide +kernel
set_option maxRecDepth 20000 in
theorem ggX4_topBits_X4_mixed : GoodIn wsX4_topBits wsX4_mixed := goodIn_r _ [5, 6, 7, 8] (by decide +kernel) (by decide +kernel)
set_option maxRecDepth 20000 in
theorem gX4_topBits_X4_mixed : GoodIn wsX4_topBits (va_wsS RX4 52 yX4_mixed wsX4_mixed) := goodIn_app (goodIn_of _ (by decide +kernel)) ggX4_topBits_X4_mixed
theorem dX4_topBits_0 : decode cX4_topBits 0 = .ok (.iload_n 2, 1) := by decide +kernel
theorem dX4_topBits_1 : decode cX4_topBits 1 = .ok (.ifCond .ne 5, 3) := by decide +kernel
theorem dX4_topBits_4 : decode cX4_topBits 4 = .ok (.lconst 0, 1) := by decide +kernel
theorem dX4_topBits_5 : decode cX4_topBits 5 = .ok (.lreturn, 1) := by decide +kernel
theorem dX4_topBits_6 : decode cX4_topBits 6 = .ok (.iload_n 0, 1) := by decide +kernel
theorem dX4_topBits_7 : decode cX4_topBits 7 = .ok (.iconst 2, 1) := by decide +kernel
theorem dX4_topBits_8 : decode cX4_topBits 8 = .ok (.iload_n 1, 1) := by decide +kernel
theorem dX4_topBits_9 : decode cX4_topBits 9 = .ok (.imul, 1) := by decide +kernel
theorem dX4_topBits_10 : decode cX4_topBits 10 = .ok (.iconst 1, 1) := by decide +kernel
theorem dX4_topBits_11 : decode cX4_topBits 11 = .ok (.iadd, 1) := by decide +kernel
theorem dX4_topBits_12 : decode cX4_topBits 12 = .ok (.invokestatic 52, 3) := by decide +kernel
theorem dX4_topBits_15 : decode cX4_topBits 15 = .ok (.i2l, 1) := by decide +kernel
theorem dX4_topBits_16 : decode cX4_topBits 16 = .ok (.bipush 32, 2) := by decide +kernel
theorem dX4_topBits_18 : decode cX4_topBits 18 = .ok (.lshl, 1) := by decide +kernel
theorem dX4_topBits_19 : decode cX4_topBits 19 = .ok (.lstore_n 3, 1) := by decide +kernel
theorem dX4_topBits_20 : decode cX4_topBits 20 = .ok (.iload_n 0, 1) := by decide +kernel
theorem dX4_topBits_21 : decode cX4_topBits 21 = .ok (.iconst 2, 1) := by decide +kernel
theorem dX4_topBits_22 : decode cX4_topBits 22 = .ok (.iload_n 1, 1) := by decide +kernel
theorem dX4_topBits_23 : decode cX4_topBits 23 = .ok (.imul, 1) := by decide +kernel
theorem dX4_topBits_24 : decode cX4_topBits 24 = .ok (.iconst 2, 1) := by decide +kernel
theorem dX4_topBits_25 : decode cX4_topBits 25 = .ok (.iadd, 1) := by decide +kernel
theorem dX4_topBits_26 : decode cX4_topBits 26 = .ok (.invokestatic 52, 3) := by decide +kernel
theorem dX4_topBits_29 : decode cX4_topBits 29 = .ok (.i2l, 1) := by decide +kernel
theorem dX4_topBits_30 : decode cX4_topBits 30 = .ok (.ldc2_w 175, 3) := by decide +kernel
theorem dX4_topBits_33 : decode cX4_topBits 33 = .ok (.land, 1) := by decide +kernel
theorem dX4_topBits_34 : decode cX4_topBits 34 = .ok (.lstore 5, 2) := by decide +kernel
theorem dX4_topBits_36 : decode cX4_topBits 36 = .ok (.lload_n 3, 1) := by decide +kernel
theorem dX4_topBits_37 : decode cX4_topBits 37 = .ok (.lload 5, 2) := by decide +kernel
theorem dX4_topBits_39 : decode cX4_topBits 39 = .ok (.lor, 1) := by decide +kernel
theorem dX4_topBits_40 : decode cX4_topBits 40 = .ok (.bipush 64, 2) := by decide +kernel
theorem dX4_topBits_42 : decode cX4_topBits 42 = .ok (.iload_n 2, 1) := by decide +kernel
theorem dX4_topBits_43 : decode cX4_topBits 43 = .ok (.isub, 1) := by decide +kernel
theorem dX4_topBits_44 : decode cX4_topBits 44 = .ok (.lushr, 1) := by decide +kernel
theorem dX4_topBits_45 : decode cX4_topBits 45 = .ok (.lreturn, 1) := by decide +kernel
set_option maxRecDepth 20000 in
theorem ggX4_firstBelow_X4_topBits : GoodIn wsX4_firstBelow wsX4_topBits := goodIn_r _ [5, 6, 7, 8, 4, 9, 10, 11, 12] (by decide +kernel) (by decide +kernel)
set_option maxRecDepth 20000 in
theorem gX4_firstBelow_X4_topBits : GoodIn wsX4_firstBelow (va_wsS RX4 69 yX4_topBits wsX4_topBits) := goodIn_app (goodIn_of _ (by decide +kernel)) ggX4_firstBelow_X4_topBits
theorem dX4_firstBelow_0 : decode cX4_firstBelow 0 = .ok (.iconst 0, 1) := by decide +kernel
theorem dX4_firstBelow_1 : decode cX4_firstBelow 1 = .ok (.istore 4, 2) := by decide +kernel
theorem dX4_firstBelow_3 : decode cX4_firstBelow 3 = .ok (.iload 4, 2) := by decide +kernel
theorem dX4_firstBelow_5 : decode cX4_firstBelow 5 = .ok (.ldc 177, 2) := by decide +kernel
theorem dX4_firstBelow_7 : decode cX4_firstBelow 7 = .ok (.if_icmp .ge 21, 3) := by decide +kernel
theorem dX4_firstBelow_10 : decode cX4_firstBelow 10 = .ok (.iload_n 0, 1) := by decide +kernel
theorem dX4_firstBelow_11 : decode cX4_firstBelow 11 = .ok (.iload 4, 2) := by decide +kernel
theorem dX4_firstBelow_13 : decode cX4_firstBelow 13 = .ok (.iload_n 3, 1) := by decide +kernel
theorem dX4_firstBelow_14 : decode cX4_firstBelow 14 = .ok (.invokestatic 69, 3) := by decide +kernel
theorem dX4_firstBelow_17 : decode cX4_firstBelow 17 = .ok (.lload_n 1, 1) := by decide +kernel
theorem dX4_firstBelow_18 : decode cX4_firstBelow 18 = .ok (.lcmp, 1) := by decide +kernel
theorem dX4_firstBelow_19 : decode cX4_firstBelow 19 = .ok (.ifCond .lt 9, 3) := by decide +kernel
theorem dX4_firstBelow_22 : decode cX4_firstBelow 22 = .ok (.iinc 4 1, 3) := by decide +kernel
theorem dX4_firstBelow_25 : decode cX4_firstBelow 25 = .ok (.goto (-22), 3) := by decide +kernel
theorem dX4_firstBelow_28 : decode cX4_firstBelow 28 = .ok (.iload 4, 2) := by decide +kernel
theorem dX4_firstBelow_30 : decode cX4_firstBelow 30 = .ok (.ireturn, 1) := by decide +kernel
theorem dX5_init_0 : decode cX5_init 0 = .ok (.aload_n 0, 1) := by decide +kernel
theorem dX5_init_1 : decode cX5_init 1 = .ok (.invokespecial 1, 3) := by decide +kernel
theorem dX5_init_4 : decode cX5_init 4 = .ok (.aload_n 0, 1) := by decide +kernel
theorem dX5_init_5 : decode cX5_init 5 = .ok (.bipush 96, 2) := by decide +kernel
theorem dX5_init_7 : decode cX5_init 7 = .ok (.newarray .int, 2) := by decide +kernel
theorem dX5_init_9 : decode cX5_init 9 = .ok (.putfield 7, 3) := by decide +kernel
theorem dX5_init_12 : decode cX5_init 12 = .ok (.aload_n 0, 1) := by decide +kernel
theorem dX5_init_13 : decode cX5_init 13 = .ok (.bipush 48, 2) := by decide +kernel
theorem dX5_init_15 : decode cX5_init 15 = .ok (.newarray .int, 2) := by decide +kernel
theorem dX5_init_17 : decode cX5_init 17 = .ok (.putfield 13, 3) := by decide +kernel
theorem dX5_init_20 : decode cX5_init 20 = .ok (.aload_n 0, 1) := by decide +kernel
theorem dX5_init_21 : decode cX5_init 21 = .ok (.bipush 12, 2) := by decide +kernel
theorem dX5_init_23 : decode cX5_init 23 = .ok (.newarray .boolean, 2) := by decide +kernel
theorem dX5_init_25 : decode cX5_init 25 = .ok (.putfield 16, 3) := by decide +kernel
theorem dX5_init_28 : decode cX5_init 28 = .ok (.aload_n 0, 1) := by decide +kernel
theorem dX5_init_29 : decode cX5_init 29 = .ok (.bipush 64, 2) := by decide +kernel
theorem dX5_init_31 : decode cX5_init 31 = .ok (.newarray .boolean, 2) := by decide +kernel
theorem dX5_init_33 : decode cX5_init 33 = .ok (.putfield 20, 3) := by decide +kernel
theorem dX5_init_36 : decode cX5_init 36 = .ok (.aload_n 0, 1) := by decide +kernel
theorem dX5_init_37 : decode cX5_init 37 = .ok (.iconst 1, 1) := by decide +kernel
theorem dX5_init_38 : decode cX5_init 38 = .ok (.putfield 23, 3) := by decide +kernel
theorem dX5_init_41 : decode cX5_init 41 = .ok (.aload_n 0, 1) := by decide +kernel
theorem dX5_init_42 : decode cX5_init 42 = .ok (.bipush 16, 2) := by decide +kernel
theorem dX5_init_44 : decode cX5_init 44 = .ok (.newarray .int, 2) := by decide +kernel
theorem dX5_init_46 : decode cX5_init 46 = .ok (.putfield 27, 3) := by decide +kernel
theorem dX5_init_49 : decode cX5_init 49 = .ok (.aload_n 0, 1) := by decide +kernel
theorem dX5_init_50 : decode cX5_init 50 = .ok (.bipush 12, 2) := by decide +kernel
theorem dX5_init_52 : decode cX5_init 52 = .ok (.newarray .int, 2) := by decide +kernel
theorem dX5_init_54 : decode cX5_init 54 = .ok (.putfield 30, 3) := by decide +kernel
theorem dX5_init_57 : decode cX5_init 57 = .ok (.aload_n 0, 1) := by decide +kernel
theorem dX5_init_58 : decode cX5_init 58 = .ok (.bipush 12, 2) := by decide +kernel
theorem dX5_init_60 : decode cX5_init 60 = .ok (.newarray .int, 2) := by decide +kernel
theorem dX5_init_62 : decode cX5_init 62 = .ok (.putfield 33, 3) := by decide +kernel
theorem dX5_init_65 : decode cX5_init 65 = .ok (.aload_n 0, 1) := by decide +kernel
theorem dX5_init_66 : decode cX5_init 66 = .ok (.sipush 144, 3) := by decide +kernel
theorem dX5_init_69 : decode cX5_init 69 = .ok (.newarray .int, 2) := by decide +kernel
theorem dX5_init_71 : decode cX5_init 71 = .ok (.putfield 36, 3) := by decide +kernel
theorem dX5_init_74 : decode cX5_init 74 = .ok (.aload_n 0, 1) := by decide +kernel
theorem dX5_init_75 : decode cX5_init 75 = .ok (.sipush 144, 3) := by decide +kernel
theorem dX5_init_78 : decode cX5_init 78 = .ok (.newarray .int, 2) := by decide +kernel
theorem dX5_init_80 : decode cX5_init 80 = .ok (.putfield 39, 3) := by decide +kernel
theorem dX5_init_83 : decode cX5_init 83 = .ok (.aload_n 0, 1) := by decide +kernel
theorem dX5_init_84 : decode cX5_init 84 = .ok (.sipush 144, 3) := by decide +kernel
theorem dX5_init_87 : decode cX5_init 87 = .ok (.newarray .long, 2) := by decide +kernel
theorem dX5_init_89 : decode cX5_init 89 = .ok (.putfield 42, 3) := by decide +kernel
theorem dX5_init_92 : decode cX5_init 92 = .ok (.aload_n 0, 1) := by decide +kernel
theorem dX5_init_93 : decode cX5_init 93 = .ok (.sipush 312, 3) := by decide +kernel
theorem dX5_init_96 : decode cX5_init 96 = .ok (.newarray .long, 2) := by decide +kernel
theorem dX5_init_98 : decode cX5_init 98 = .ok (.putfield 46, 3) := by decide +kernel
theorem dX5_init_101 : decode cX5_init 101 = .ok (.aload_n 0, 1) := by decide +kernel
theorem dX5_init_102 : decode cX5_init 102 = .ok (.sipush 256, 3) := by decide +kernel
theorem dX5_init_105 : decode cX5_init 105 = .ok (.newarray .int, 2) := by decide +kernel
theorem dX5_init_107 : decode cX5_init 107 = .ok (.putfield 49, 3) := by decide +kernel
theorem dX5_init_110 : decode cX5_init 110 = .ok (.aload_n 0, 1) := by decide +kernel
theorem dX5_init_111 : decode cX5_init 111 = .ok (.bipush 16, 2) := by decide +kernel
theorem dX5_init_113 : decode cX5_init 113 = .ok (.newarray .int, 2) := by decide +kernel
theorem dX5_init_115 : decode cX5_init 115 = .ok (.putfield 52, 3) := by decide +kernel
theorem dX5_init_118 : decode cX5_init 118 = .ok (.aload_n 0, 1) := by decide +kernel
theorem dX5_init_119 : decode cX5_init 119 = .ok (.bipush 16, 2) := by decide +kernel
theorem dX5_init_121 : decode cX5_init 121 = .ok (.newarray .int, 2) := by decide +kernel
theorem dX5_init_123 : decode cX5_init 123 = .ok (.putfield 55, 3) := by decide +kernel
theorem dX5_init_126 : decode cX5_init 126 = .ok (.aload_n 0, 1) := by decide +kernel
theorem dX5_init_127 : decode cX5_init 127 = .ok (.bipush 16, 2) := by decide +kernel
theorem dX5_init_129 : decode cX5_init 129 = .ok (.newarray .int, 2) := by decide +kernel
theorem dX5_init_131 : decode cX5_init 131 = .ok (.putfield 58, 3) := by decide +kernel
theorem dX5_init_134 : decode cX5_init 134 = .ok (.aload_n 0, 1) := by decide +kernel
theorem dX5_init_135 : decode cX5_init 135 = .ok (.bipush 16, 2) := by decide +kernel
theorem dX5_init_137 : decode cX5_init 137 = .ok (.newarray .boolean, 2) := by decide +kernel
theorem dX5_init_139 : decode cX5_init 139 = .ok (.putfield 61, 3) := by decide +kernel
theorem dX5_init_142 : decode cX5_init 142 = .ok (.aload_n 0, 1) := by decide +kernel
theorem dX5_init_143 : decode cX5_init 143 = .ok (.iload_n 1, 1) := by decide +kernel
theorem dX5_init_144 : decode cX5_init 144 = .ok (.iconst 1, 1) := by decide +kernel
theorem dX5_init_145 : decode cX5_init 145 = .ok (.if_icmp .ge 7, 3) := by decide +kernel
theorem dX5_init_148 : decode cX5_init 148 = .ok (.iconst 1, 1) := by decide +kernel
theorem dX5_init_149 : decode cX5_init 149 = .ok (.goto 15, 3) := by decide +kernel
theorem dX5_init_152 : decode cX5_init 152 = .ok (.iload_n 1, 1) := by decide +kernel
theorem dX5_init_153 : decode cX5_init 153 = .ok (.bipush 12, 2) := by decide +kernel
theorem dX5_init_155 : decode cX5_init 155 = .ok (.if_icmp .le 8, 3) := by decide +kernel
theorem dX5_init_158 : decode cX5_init 158 = .ok (.bipush 12, 2) := by decide +kernel
theorem dX5_init_160 : decode cX5_init 160 = .ok (.goto 4, 3) := by decide +kernel
theorem dX5_init_163 : decode cX5_init 163 = .ok (.iload_n 1, 1) := by decide +kernel
theorem dX5_init_164 : decode cX5_init 164 = .ok (.putfield 64, 3) := by decide +kernel
theorem dX5_init_167 : decode cX5_init 167 = .ok (.iconst 0, 1) := by decide +kernel
theorem dX5_init_168 : decode cX5_init 168 = .ok (.istore_n 2, 1) := by decide +kernel
theorem dX5_init_169 : decode cX5_init 169 = .ok (.iload_n 2, 1) := by decide +kernel
theorem dX5_init_170 : decode cX5_init 170 = .ok (.aload_n 0, 1) := by decide +kernel
theorem dX5_init_171 : decode cX5_init 171 = .ok (.getfield 64, 3) := by decide +kernel
theorem dX5_init_174 : decode cX5_init 174 = .ok (.if_icmp .ge 60, 3) := by decide +kernel
theorem dX5_init_177 : decode cX5_init 177 = .ok (.iconst 0, 1) := by decide +kernel
theorem dX5_init_178 : decode cX5_init 178 = .ok (.istore_n 3, 1) := by decide +kernel
theorem dX5_init_179 : decode cX5_init 179 = .ok (.iload_n 3, 1) := by decide +kernel
theorem dX5_init_180 : decode cX5_init 180 = .ok (.bipush 8, 2) := by decide +kernel
theorem dX5_init_182 : decode cX5_init 182 = .ok (.if_icmp .ge 21, 3) := by decide +kernel
theorem dX5_init_185 : decode cX5_init 185 = .ok (.aload_n 0, 1) := by decide +kernel
theorem dX5_init_186 : decode cX5_init 186 = .ok (.getfield 7, 3) := by decide +kernel
theorem dX5_init_189 : decode cX5_init 189 = .ok (.bipush 8, 2) := by decide +kernel
theorem dX5_init_191 : decode cX5_init 191 = .ok (.iload_n 2, 1) := by decide +kernel
theorem dX5_init_192 : decode cX5_init 192 = .ok (.imul, 1) := by decide +kernel
theorem dX5_init_193 : decode cX5_init 193 = .ok (.iload_n 3, 1) := by decide +kernel
theorem dX5_init_194 : decode cX5_init 194 = .ok (.iadd, 1) := by decide +kernel
theorem dX5_init_195 : decode cX5_init 195 = .ok (.iload_n 2, 1) := by decide +kernel
theorem dX5_init_196 : decode cX5_init 196 = .ok (.iastore, 1) := by decide +kernel
theorem dX5_init_197 : decode cX5_init 197 = .ok (.iinc 3 1, 3) := by decide +kernel
theorem dX5_init_200 : decode cX5_init 200 = .ok (.goto (-21), 3) := by decide +kernel
theorem dX5_init_203 : decode cX5_init 203 = .ok (.iconst 0, 1) := by decide +kernel
theorem dX5_init_204 : decode cX5_init 204 = .ok (.istore_n 3, 1) := by decide +kernel
theorem dX5_init_205 : decode cX5_init 205 = .ok (.iload_n 3, 1) := by decide +kernel
theorem dX5_init_206 : decode cX5_init 206 = .ok (.iconst 4, 1) := by decide +kernel
theorem dX5_init_207 : decode cX5_init 207 = .ok (.if_icmp .ge 21, 3) := by decide +kernel
theorem dX5_init_210 : decode cX5_init 210 = .ok (.aload_n 0, 1) := by decide +kernel
theorem dX5_init_211 : decode cX5_init 211 = .ok (.getfield 13, 3) := by decide +kernel
theorem dX5_init_214 : decode cX5_init 214 = .ok (.iconst 4, 1) := by decide +kernel
theorem dX5_init_215 : decode cX5_init 215 = .ok (.iload_n 2, 1) := by decide +kernel
theorem dX5_init_216 : decode cX5_init 216 = .ok (.imul, 1) := by decide +kernel
theorem dX5_init_217 : decode cX5_init 217 = .ok (.iload_n 3, 1) := by decide +kernel
theorem dX5_init_218 : decode cX5_init 218 = .ok (.iadd, 1) := by decide +kernel
theorem dX5_init_219 : decode cX5_init 219 = .ok (.bipush (-2), 2) := by decide +kernel
theorem dX5_init_221 : decode cX5_init 221 = .ok (.iastore, 1) := by decide +kernel
theorem dX5_init_222 : decode cX5_init 222 = .ok (.iinc 3 1, 3) := by decide +kernel
theorem dX5_init_225 : decode cX5_init 225 = .ok (.goto (-20), 3) := by decide +kernel
theorem dX5_init_228 : decode cX5_init 228 = .ok (.iinc 2 1, 3) := by decide +kernel
theorem dX5_init_231 : decode cX5_init 231 = .ok (.goto (-62), 3) := by decide +kernel
theorem dX5_init_234 : decode cX5_init 234 = .ok (.iconst 0, 1) := by decide +kernel
theorem dX5_init_235 : decode cX5_init 235 = .ok (.istore_n 2, 1) := by decide +kernel
theorem dX5_init_236 : decode cX5_init 236 = .ok (.iload_n 2, 1) := by decide +kernel
theorem dX5_init_237 : decode cX5_init 237 = .ok (.bipush 64, 2) := by decide +kernel
theorem dX5_init_239 : decode cX5_init 239 = .ok (.if_icmp .ge 16, 3) := by decide +kernel
theorem dX5_init_242 : decode cX5_init 242 = .ok (.aload_n 0, 1) := by decide +kernel
theorem dX5_init_243 : decode cX5_init 243 = .ok (.getfield 20, 3) := by decide +kernel
theorem dX5_init_246 : decode cX5_init 246 = .ok (.iload_n 2, 1) := by decide +kernel
theorem dX5_init_247 : decode cX5_init 247 = .ok (.iconst 1, 1) := by decide +kernel
theorem dX5_init_248 : decode cX5_init 248 = .ok (.bastore, 1) := by decide +kernel
theorem dX5_init_249 : decode cX5_init 249 = .ok (.iinc 2 1, 3) := by decide +kernel
theorem dX5_init_252 : decode cX5_init 252 = .ok (.goto (-16), 3) := by decide +kernel
theorem dX5_init_255 : decode cX5_init 255 = .ok (.aload_n 0, 1) := by decide +kernel
theorem dX5_init_256 : decode cX5_init 256 = .ok (.getfield 27, 3) := by decide +kernel
theorem dX5_init_259 : decode cX5_init 259 = .ok (.iconst 0, 1) := by decide +kernel
theorem dX5_init_260 : decode cX5_init 260 = .ok (.iconst 1, 1) := by decide +kernel
theorem dX5_init_261 : decode cX5_init 261 = .ok (.iastore, 1) := by decide +kernel
theorem dX5_init_262 : decode cX5_init 262 = .ok (.return_, 1) := by decide +kernel
theorem dX5_in_0 : decode cX5_in 0 = .ok (.lload_n 0, 1) := by decide +kernel
theorem dX5_in_1 : decode cX5_in 1 = .ok (.lload_n 2, 1) := by decide +kernel
theorem dX5_in_2 : decode cX5_in 2 = .ok (.lcmp, 1) := by decide +kernel
theorem dX5_in_3 : decode cX5_in 3 = .ok (.ifCond .lt 14, 3) := by decide +kernel
theorem dX5_in_6 : decode cX5_in 6 = .ok (.lload_n 0, 1) := by decide +kernel
theorem dX5_in_7 : decode cX5_in 7 = .ok (.lload 4, 2) := by decide +kernel
theorem dX5_in_9 : decode cX5_in 9 = .ok (.lcmp, 1) := by decide +kernel
theorem dX5_in_10 : decode cX5_in 10 = .ok (.ifCond .gt 7, 3) := by decide +kernel
theorem dX5_in_13 : decode cX5_in 13 = .ok (.iconst 1, 1) := by decide +kernel
theorem dX5_in_14 : decode cX5_in 14 = .ok (.goto 4, 3) := by decide +kernel
theorem dX5_in_17 : decode cX5_in 17 = .ok (.iconst 0, 1) := by decide +kernel
theorem dX5_in_18 : decode cX5_in 18 = .ok (.ireturn, 1) := by decide +kernel
set_option maxRecDepth 20000 in
theorem ggX5_isState_X5_in : GoodIn wsX5_isState wsX5_in := goodIn_r _ [5] (by decide +kernel) (by decide +kernel)
set_option maxRecDepth 20000 in
theorem gX5_isState_X5_in : GoodIn wsX5_isState (va_wsS RX5 67 yX5_in wsX5_in) := goodIn_app (goodIn_of _ (by decide +kernel)) ggX5_isState_X5_in
theorem dX5_isState_0 : decode cX5_isState 0 = .ok (.iload_n 1, 1) := by decide +kernel
theorem dX5_isState_1 : decode cX5_isState 1 = .ok (.i2l, 1) := by decide +kernel
theorem dX5_isState_2 : decode cX5_isState 2 = .ok (.lconst 0, 1) := by decide +kernel
theorem dX5_isState_3 : decode cX5_isState 3 = .ok (.aload_n 0, 1) := by decide +kernel
theorem dX5_isState_4 : decode cX5_isState 4 = .ok (.getfield 64, 3) := by decide +kernel
theorem dX5_isState_7 : decode cX5_isState 7 = .ok (.iconst 1, 1) := by decide +kernel
theorem dX5_isState_8 : decode cX5_isState 8 = .ok (.isub, 1) := by decide +kernel
theorem dX5_isState_9 : decode cX5_isState 9 = .ok (.i2l, 1) := by decide +kernel
theorem dX5_isState_10 : decode cX5_isState 10 = .ok (.invokestatic 67, 3) := by decide +kernel
theorem dX5_isState_13 : decode cX5_isState 13 = .ok (.ireturn, 1) := by decide +kernel
theorem dX5_hash_0 : decode cX5_hash 0 = .ok (.iload_n 1, 1) := by decide +kernel
theorem dX5_hash_1 : decode cX5_hash 1 = .ok (.iload_n 2, 1) := by decide +kernel
theorem dX5_hash_2 : decode cX5_hash 2 = .ok (.ldc 71, 2) := by decide +kernel
theorem dX5_hash_4 : decode cX5_hash 4 = .ok (.imul, 1) := by decide +kernel
theorem dX5_hash_5 : decode cX5_hash 5 = .ok (.iadd, 1) := by decide +kernel
theorem dX5_hash_6 : decode cX5_hash 6 = .ok (.istore_n 3, 1) := by decide +kernel
theorem dX5_hash_7 : decode cX5_hash 7 = .ok (.iload_n 3, 1) := by decide +kernel
theorem dX5_hash_8 : decode cX5_hash 8 = .ok (.iload_n 3, 1) := by decide +kernel
theorem dX5_hash_9 : decode cX5_hash 9 = .ok (.bipush 16, 2) := by decide +kernel
theorem dX5_hash_11 : decode cX5_hash 11 = .ok (.iushr, 1) := by decide +kernel
theorem dX5_hash_12 : decode cX5_hash 12 = .ok (.ixor, 1) := by decide +kernel
theorem dX5_hash_13 : decode cX5_hash 13 = .ok (.ldc 72, 2) := by decide +kernel
theorem dX5_hash_15 : decode cX5_hash 15 = .ok (.imul, 1) := by decide +kernel
theorem dX5_hash_16 : decode cX5_hash 16 = .ok (.istore_n 3, 1) := by decide +kernel
theorem dX5_hash_17 : decode cX5_hash 17 = .ok (.iload_n 3, 1) := by decide +kernel
