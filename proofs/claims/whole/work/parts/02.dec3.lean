theorem dX5_hash_18 : decode cX5_hash 18 = .ok (.iload_n 3, 1) := by decide +kernel
theorem dX5_hash_19 : decode cX5_hash 19 = .ok (.bipush 13, 2) := by decide +kernel
theorem dX5_hash_21 : decode cX5_hash 21 = .ok (.iushr, 1) := by decide +kernel
theorem dX5_hash_22 : decode cX5_hash 22 = .ok (.ixor, 1) := by decide +kernel
theorem dX5_hash_23 : decode cX5_hash 23 = .ok (.ldc 73, 2) := by decide +kernel
theorem dX5_hash_25 : decode cX5_hash 25 = .ok (.imul, 1) := by decide +kernel
theorem dX5_hash_26 : decode cX5_hash 26 = .ok (.istore_n 3, 1) := by decide +kernel
theorem dX5_hash_27 : decode cX5_hash 27 = .ok (.iload_n 3, 1) := by decide +kernel
theorem dX5_hash_28 : decode cX5_hash 28 = .ok (.iload_n 3, 1) := by decide +kernel
theorem dX5_hash_29 : decode cX5_hash 29 = .ok (.bipush 16, 2) := by decide +kernel
theorem dX5_hash_31 : decode cX5_hash 31 = .ok (.iushr, 1) := by decide +kernel
theorem dX5_hash_32 : decode cX5_hash 32 = .ok (.ixor, 1) := by decide +kernel
theorem dX5_hash_33 : decode cX5_hash 33 = .ok (.ireturn, 1) := by decide +kernel
set_option maxRecDepth 20000 in
theorem ggX5_sign_X5_hash : GoodIn wsX5_sign wsX5_hash := goodIn_r _ [5, 6, 7, 8] (by decide +kernel) (by decide +kernel)
set_option maxRecDepth 20000 in
theorem gX5_sign_X5_hash : GoodIn wsX5_sign (wsV RX5 74 RX5 yX5_hash wsX5_hash) := goodIn_app (goodIn_of _ (by decide +kernel)) ggX5_sign_X5_hash
theorem dX5_sign_0 : decode cX5_sign 0 = .ok (.aload_n 0, 1) := by decide +kernel
theorem dX5_sign_1 : decode cX5_sign 1 = .ok (.iload_n 1, 1) := by decide +kernel
theorem dX5_sign_2 : decode cX5_sign 2 = .ok (.iload_n 2, 1) := by decide +kernel
theorem dX5_sign_3 : decode cX5_sign 3 = .ok (.invokevirtual 74, 3) := by decide +kernel
theorem dX5_sign_6 : decode cX5_sign 6 = .ok (.bipush 29, 2) := by decide +kernel
theorem dX5_sign_8 : decode cX5_sign 8 = .ok (.iushr, 1) := by decide +kernel
theorem dX5_sign_9 : decode cX5_sign 9 = .ok (.ireturn, 1) := by decide +kernel
set_option maxRecDepth 20000 in
theorem ggX5_find_X5_hash : GoodIn wsX5_find wsX5_hash := goodIn_r _ [8, 9, 10, 11] (by decide +kernel) (by decide +kernel)
set_option maxRecDepth 20000 in
theorem gX5_find_X5_hash : GoodIn wsX5_find (wsV RX5 74 RX5 yX5_hash wsX5_hash) := goodIn_app (goodIn_of _ (by decide +kernel)) ggX5_find_X5_hash
theorem dX5_find_0 : decode cX5_find 0 = .ok (.iconst 0, 1) := by decide +kernel
theorem dX5_find_1 : decode cX5_find 1 = .ok (.istore 4, 2) := by decide +kernel
theorem dX5_find_3 : decode cX5_find 3 = .ok (.lconst 1, 1) := by decide +kernel
theorem dX5_find_4 : decode cX5_find 4 = .ok (.iload 4, 2) := by decide +kernel
theorem dX5_find_6 : decode cX5_find 6 = .ok (.lshl, 1) := by decide +kernel
theorem dX5_find_7 : decode cX5_find 7 = .ok (.lload_n 2, 1) := by decide +kernel
theorem dX5_find_8 : decode cX5_find 8 = .ok (.lcmp, 1) := by decide +kernel
theorem dX5_find_9 : decode cX5_find 9 = .ok (.ifCond .ge 9, 3) := by decide +kernel
theorem dX5_find_12 : decode cX5_find 12 = .ok (.iinc 4 1, 3) := by decide +kernel
theorem dX5_find_15 : decode cX5_find 15 = .ok (.goto (-12), 3) := by decide +kernel
theorem dX5_find_18 : decode cX5_find 18 = .ok (.aload_n 0, 1) := by decide +kernel
theorem dX5_find_19 : decode cX5_find 19 = .ok (.iconst 0, 1) := by decide +kernel
theorem dX5_find_20 : decode cX5_find 20 = .ok (.putfield 78, 3) := by decide +kernel
theorem dX5_find_23 : decode cX5_find 23 = .ok (.aload_n 0, 1) := by decide +kernel
theorem dX5_find_24 : decode cX5_find 24 = .ok (.lload_n 2, 1) := by decide +kernel
theorem dX5_find_25 : decode cX5_find 25 = .ok (.putfield 81, 3) := by decide +kernel
theorem dX5_find_28 : decode cX5_find 28 = .ok (.aload_n 0, 1) := by decide +kernel
theorem dX5_find_29 : decode cX5_find 29 = .ok (.getfield 81, 3) := by decide +kernel
theorem dX5_find_32 : decode cX5_find 32 = .ok (.lload_n 2, 1) := by decide +kernel
theorem dX5_find_33 : decode cX5_find 33 = .ok (.lcmp, 1) := by decide +kernel
theorem dX5_find_34 : decode cX5_find 34 = .ok (.ifCond .lt 75, 3) := by decide +kernel
theorem dX5_find_37 : decode cX5_find 37 = .ok (.aload_n 0, 1) := by decide +kernel
theorem dX5_find_38 : decode cX5_find 38 = .ok (.iload_n 1, 1) := by decide +kernel
theorem dX5_find_39 : decode cX5_find 39 = .ok (.iconst 2, 1) := by decide +kernel
theorem dX5_find_40 : decode cX5_find 40 = .ok (.aload_n 0, 1) := by decide +kernel
theorem dX5_find_41 : decode cX5_find 41 = .ok (.getfield 78, 3) := by decide +kernel
theorem dX5_find_44 : decode cX5_find 44 = .ok (.imul, 1) := by decide +kernel
theorem dX5_find_45 : decode cX5_find 45 = .ok (.iconst 1, 1) := by decide +kernel
theorem dX5_find_46 : decode cX5_find 46 = .ok (.iadd, 1) := by decide +kernel
theorem dX5_find_47 : decode cX5_find 47 = .ok (.invokevirtual 74, 3) := by decide +kernel
theorem dX5_find_50 : decode cX5_find 50 = .ok (.i2l, 1) := by decide +kernel
theorem dX5_find_51 : decode cX5_find 51 = .ok (.bipush 32, 2) := by decide +kernel
theorem dX5_find_53 : decode cX5_find 53 = .ok (.lshl, 1) := by decide +kernel
theorem dX5_find_54 : decode cX5_find 54 = .ok (.aload_n 0, 1) := by decide +kernel
theorem dX5_find_55 : decode cX5_find 55 = .ok (.iload_n 1, 1) := by decide +kernel
theorem dX5_find_56 : decode cX5_find 56 = .ok (.iconst 2, 1) := by decide +kernel
theorem dX5_find_57 : decode cX5_find 57 = .ok (.aload_n 0, 1) := by decide +kernel
theorem dX5_find_58 : decode cX5_find 58 = .ok (.getfield 78, 3) := by decide +kernel
theorem dX5_find_61 : decode cX5_find 61 = .ok (.imul, 1) := by decide +kernel
theorem dX5_find_62 : decode cX5_find 62 = .ok (.iconst 2, 1) := by decide +kernel
theorem dX5_find_63 : decode cX5_find 63 = .ok (.iadd, 1) := by decide +kernel
theorem dX5_find_64 : decode cX5_find 64 = .ok (.invokevirtual 74, 3) := by decide +kernel
theorem dX5_find_67 : decode cX5_find 67 = .ok (.i2l, 1) := by decide +kernel
theorem dX5_find_68 : decode cX5_find 68 = .ok (.ldc2_w 85, 3) := by decide +kernel
theorem dX5_find_71 : decode cX5_find 71 = .ok (.land, 1) := by decide +kernel
theorem dX5_find_72 : decode cX5_find 72 = .ok (.lor, 1) := by decide +kernel
theorem dX5_find_73 : decode cX5_find 73 = .ok (.lstore 5, 2) := by decide +kernel
theorem dX5_find_75 : decode cX5_find 75 = .ok (.aload_n 0, 1) := by decide +kernel
theorem dX5_find_76 : decode cX5_find 76 = .ok (.iload 4, 2) := by decide +kernel
theorem dX5_find_78 : decode cX5_find 78 = .ok (.ifCond .ne 7, 3) := by decide +kernel
theorem dX5_find_81 : decode cX5_find 81 = .ok (.lconst 0, 1) := by decide +kernel
theorem dX5_find_82 : decode cX5_find 82 = .ok (.goto 11, 3) := by decide +kernel
theorem dX5_find_85 : decode cX5_find 85 = .ok (.lload 5, 2) := by decide +kernel
theorem dX5_find_87 : decode cX5_find 87 = .ok (.bipush 64, 2) := by decide +kernel
theorem dX5_find_89 : decode cX5_find 89 = .ok (.iload 4, 2) := by decide +kernel
theorem dX5_find_91 : decode cX5_find 91 = .ok (.isub, 1) := by decide +kernel
theorem dX5_find_92 : decode cX5_find 92 = .ok (.lushr, 1) := by decide +kernel
theorem dX5_find_93 : decode cX5_find 93 = .ok (.putfield 81, 3) := by decide +kernel
theorem dX5_find_96 : decode cX5_find 96 = .ok (.aload_n 0, 1) := by decide +kernel
theorem dX5_find_97 : decode cX5_find 97 = .ok (.dup, 1) := by decide +kernel
theorem dX5_find_98 : decode cX5_find 98 = .ok (.getfield 78, 3) := by decide +kernel
theorem dX5_find_101 : decode cX5_find 101 = .ok (.iconst 1, 1) := by decide +kernel
theorem dX5_find_102 : decode cX5_find 102 = .ok (.iadd, 1) := by decide +kernel
theorem dX5_find_103 : decode cX5_find 103 = .ok (.putfield 78, 3) := by decide +kernel
theorem dX5_find_106 : decode cX5_find 106 = .ok (.goto (-78), 3) := by decide +kernel
theorem dX5_find_109 : decode cX5_find 109 = .ok (.return_, 1) := by decide +kernel
set_option maxRecDepth 20000 in
theorem ggX5_pick_X5_in : GoodIn wsX5_pick wsX5_in := goodIn_r _ [7] (by decide +kernel) (by decide +kernel)
set_option maxRecDepth 20000 in
theorem gX5_pick_X5_in : GoodIn wsX5_pick (va_wsS RX5 67 yX5_in wsX5_in) := goodIn_app (goodIn_of _ (by decide +kernel)) ggX5_pick_X5_in
set_option maxRecDepth 20000 in
theorem ggX5_pick_X5_find : GoodIn wsX5_pick wsX5_find := goodIn_r _ [11, 12, 3, 13, 14, 15, 16, 6, 17, 18, 19, 20, 21, 22, 23, 24, 25, 26, 27, 28, 29, 30, 31, 32, 33, 34, 35, 36, 37, 38, 39, 40] (by decide +kernel) (by decide +kernel)
set_option maxRecDepth 20000 in
theorem gX5_pick_X5_find : GoodIn wsX5_pick (wsV RX5 91 RX5 yX5_find wsX5_find) := goodIn_app (goodIn_of _ (by decide +kernel)) ggX5_pick_X5_find
theorem dX5_pick_0 : decode cX5_pick 0 = .ok (.lload_n 2, 1) := by decide +kernel
theorem dX5_pick_1 : decode cX5_pick 1 = .ok (.lconst 1, 1) := by decide +kernel
theorem dX5_pick_2 : decode cX5_pick 2 = .ok (.ldc2_w 87, 3) := by decide +kernel
theorem dX5_pick_5 : decode cX5_pick 5 = .ok (.invokestatic 67, 3) := by decide +kernel
theorem dX5_pick_8 : decode cX5_pick 8 = .ok (.ifCond .ne 7, 3) := by decide +kernel
theorem dX5_pick_11 : decode cX5_pick 11 = .ok (.ldc2_w 89, 3) := by decide +kernel
theorem dX5_pick_14 : decode cX5_pick 14 = .ok (.lreturn, 1) := by decide +kernel
theorem dX5_pick_15 : decode cX5_pick 15 = .ok (.aload_n 0, 1) := by decide +kernel
theorem dX5_pick_16 : decode cX5_pick 16 = .ok (.iload_n 1, 1) := by decide +kernel
theorem dX5_pick_17 : decode cX5_pick 17 = .ok (.lload_n 2, 1) := by decide +kernel
theorem dX5_pick_18 : decode cX5_pick 18 = .ok (.invokevirtual 91, 3) := by decide +kernel
theorem dX5_pick_21 : decode cX5_pick 21 = .ok (.aload_n 0, 1) := by decide +kernel
theorem dX5_pick_22 : decode cX5_pick 22 = .ok (.getfield 81, 3) := by decide +kernel
theorem dX5_pick_25 : decode cX5_pick 25 = .ok (.lreturn, 1) := by decide +kernel
set_option maxRecDepth 20000 in
theorem ggX5_tries_X5_in : GoodIn wsX5_tries wsX5_in := goodIn_r _ [6] (by decide +kernel) (by decide +kernel)
set_option maxRecDepth 20000 in
theorem gX5_tries_X5_in : GoodIn wsX5_tries (va_wsS RX5 67 yX5_in wsX5_in) := goodIn_app (goodIn_of _ (by decide +kernel)) ggX5_tries_X5_in
set_option maxRecDepth 20000 in
theorem ggX5_tries_X5_find : GoodIn wsX5_tries wsX5_find := goodIn_r _ [10, 2, 11, 12, 13, 14, 15, 5, 16, 17, 18, 19, 20, 21, 22, 23, 24, 25, 26, 27, 28, 29, 30, 31, 32, 33, 34, 35, 36, 37, 38, 39] (by decide +kernel) (by decide +kernel)
set_option maxRecDepth 20000 in
theorem gX5_tries_X5_find : GoodIn wsX5_tries (wsV RX5 91 RX5 yX5_find wsX5_find) := goodIn_app (goodIn_of _ (by decide +kernel)) ggX5_tries_X5_find
theorem dX5_tries_0 : decode cX5_tries 0 = .ok (.lload_n 2, 1) := by decide +kernel
theorem dX5_tries_1 : decode cX5_tries 1 = .ok (.lconst 1, 1) := by decide +kernel
theorem dX5_tries_2 : decode cX5_tries 2 = .ok (.ldc2_w 87, 3) := by decide +kernel
theorem dX5_tries_5 : decode cX5_tries 5 = .ok (.invokestatic 67, 3) := by decide +kernel
theorem dX5_tries_8 : decode cX5_tries 8 = .ok (.ifCond .ne 5, 3) := by decide +kernel
theorem dX5_tries_11 : decode cX5_tries 11 = .ok (.iconst (-1), 1) := by decide +kernel
theorem dX5_tries_12 : decode cX5_tries 12 = .ok (.ireturn, 1) := by decide +kernel
theorem dX5_tries_13 : decode cX5_tries 13 = .ok (.aload_n 0, 1) := by decide +kernel
theorem dX5_tries_14 : decode cX5_tries 14 = .ok (.iload_n 1, 1) := by decide +kernel
theorem dX5_tries_15 : decode cX5_tries 15 = .ok (.lload_n 2, 1) := by decide +kernel
theorem dX5_tries_16 : decode cX5_tries 16 = .ok (.invokevirtual 91, 3) := by decide +kernel
theorem dX5_tries_19 : decode cX5_tries 19 = .ok (.aload_n 0, 1) := by decide +kernel
theorem dX5_tries_20 : decode cX5_tries 20 = .ok (.getfield 78, 3) := by decide +kernel
theorem dX5_tries_23 : decode cX5_tries 23 = .ok (.ireturn, 1) := by decide +kernel
set_option maxRecDepth 20000 in
theorem ggX5_rule_X5_isState : GoodIn wsX5_rule wsX5_isState := goodIn_r _ [7, 8, 9, 10, 6, 11, 12, 13, 14, 15, 16, 17, 18, 19, 20, 21, 22, 23, 24, 25, 26, 27, 28, 29, 30, 31] (by decide +kernel) (by decide +kernel)
set_option maxRecDepth 20000 in
theorem gX5_rule_X5_isState : GoodIn wsX5_rule (wsV RX5 95 RX5 yX5_isState wsX5_isState) := goodIn_app (goodIn_of _ (by decide +kernel)) ggX5_rule_X5_isState
set_option maxRecDepth 20000 in
theorem ggX5_rule_X5_in : GoodIn wsX5_rule wsX5_in := goodIn_r _ [11] (by decide +kernel) (by decide +kernel)
set_option maxRecDepth 20000 in
theorem gX5_rule_X5_in : GoodIn wsX5_rule (va_wsS RX5 67 yX5_in wsX5_in) := goodIn_app (goodIn_of _ (by decide +kernel)) ggX5_rule_X5_in
theorem dX5_rule_0 : decode cX5_rule 0 = .ok (.aload_n 0, 1) := by decide +kernel
theorem dX5_rule_1 : decode cX5_rule 1 = .ok (.iload_n 1, 1) := by decide +kernel
theorem dX5_rule_2 : decode cX5_rule 2 = .ok (.invokevirtual 95, 3) := by decide +kernel
theorem dX5_rule_5 : decode cX5_rule 5 = .ok (.ifCond .eq 23, 3) := by decide +kernel
theorem dX5_rule_8 : decode cX5_rule 8 = .ok (.iload_n 2, 1) := by decide +kernel
theorem dX5_rule_9 : decode cX5_rule 9 = .ok (.i2l, 1) := by decide +kernel
theorem dX5_rule_10 : decode cX5_rule 10 = .ok (.lconst 0, 1) := by decide +kernel
theorem dX5_rule_11 : decode cX5_rule 11 = .ok (.ldc2_w 99, 3) := by decide +kernel
theorem dX5_rule_14 : decode cX5_rule 14 = .ok (.invokestatic 67, 3) := by decide +kernel
theorem dX5_rule_17 : decode cX5_rule 17 = .ok (.ifCond .eq 11, 3) := by decide +kernel
theorem dX5_rule_20 : decode cX5_rule 20 = .ok (.aload_n 0, 1) := by decide +kernel
theorem dX5_rule_21 : decode cX5_rule 21 = .ok (.iload_n 3, 1) := by decide +kernel
theorem dX5_rule_22 : decode cX5_rule 22 = .ok (.invokevirtual 95, 3) := by decide +kernel
theorem dX5_rule_25 : decode cX5_rule 25 = .ok (.ifCond .ne 5, 3) := by decide +kernel
theorem dX5_rule_28 : decode cX5_rule 28 = .ok (.iconst (-1), 1) := by decide +kernel
theorem dX5_rule_29 : decode cX5_rule 29 = .ok (.ireturn, 1) := by decide +kernel
theorem dX5_rule_30 : decode cX5_rule 30 = .ok (.aload_n 0, 1) := by decide +kernel
theorem dX5_rule_31 : decode cX5_rule 31 = .ok (.getfield 7, 3) := by decide +kernel
theorem dX5_rule_34 : decode cX5_rule 34 = .ok (.bipush 8, 2) := by decide +kernel
theorem dX5_rule_36 : decode cX5_rule 36 = .ok (.iload_n 1, 1) := by decide +kernel
theorem dX5_rule_37 : decode cX5_rule 37 = .ok (.imul, 1) := by decide +kernel
theorem dX5_rule_38 : decode cX5_rule 38 = .ok (.iload_n 2, 1) := by decide +kernel
theorem dX5_rule_39 : decode cX5_rule 39 = .ok (.iadd, 1) := by decide +kernel
theorem dX5_rule_40 : decode cX5_rule 40 = .ok (.iaload, 1) := by decide +kernel
theorem dX5_rule_41 : decode cX5_rule 41 = .ok (.istore 4, 2) := by decide +kernel
theorem dX5_rule_43 : decode cX5_rule 43 = .ok (.aload_n 0, 1) := by decide +kernel
theorem dX5_rule_44 : decode cX5_rule 44 = .ok (.getfield 7, 3) := by decide +kernel
theorem dX5_rule_47 : decode cX5_rule 47 = .ok (.bipush 8, 2) := by decide +kernel
theorem dX5_rule_49 : decode cX5_rule 49 = .ok (.iload_n 1, 1) := by decide +kernel
theorem dX5_rule_50 : decode cX5_rule 50 = .ok (.imul, 1) := by decide +kernel
theorem dX5_rule_51 : decode cX5_rule 51 = .ok (.iload_n 2, 1) := by decide +kernel
theorem dX5_rule_52 : decode cX5_rule 52 = .ok (.iadd, 1) := by decide +kernel
theorem dX5_rule_53 : decode cX5_rule 53 = .ok (.iload_n 3, 1) := by decide +kernel
theorem dX5_rule_54 : decode cX5_rule 54 = .ok (.iastore, 1) := by decide +kernel
theorem dX5_rule_55 : decode cX5_rule 55 = .ok (.iload 4, 2) := by decide +kernel
theorem dX5_rule_57 : decode cX5_rule 57 = .ok (.ireturn, 1) := by decide +kernel
set_option maxRecDepth 20000 in
theorem ggX5_isLong_X5_in : GoodIn wsX5_isLong wsX5_in := goodIn_r _ [5] (by decide +kernel) (by decide +kernel)
set_option maxRecDepth 20000 in
theorem gX5_isLong_X5_in : GoodIn wsX5_isLong (va_wsS RX5 67 yX5_in wsX5_in) := goodIn_app (goodIn_of _ (by decide +kernel)) ggX5_isLong_X5_in
theorem dX5_isLong_0 : decode cX5_isLong 0 = .ok (.iload_n 0, 1) := by decide +kernel
theorem dX5_isLong_1 : decode cX5_isLong 1 = .ok (.i2l, 1) := by decide +kernel
theorem dX5_isLong_2 : decode cX5_isLong 2 = .ok (.lconst 1, 1) := by decide +kernel
theorem dX5_isLong_3 : decode cX5_isLong 3 = .ok (.ldc2_w 101, 3) := by decide +kernel
theorem dX5_isLong_6 : decode cX5_isLong 6 = .ok (.invokestatic 67, 3) := by decide +kernel
theorem dX5_isLong_9 : decode cX5_isLong 9 = .ok (.ireturn, 1) := by decide +kernel
set_option maxRecDepth 20000 in
theorem ggX5_taken_X5_isLong : GoodIn wsX5_taken wsX5_isLong := goodIn_r _ [5, 6, 7, 8, 4, 9] (by decide +kernel) (by decide +kernel)
set_option maxRecDepth 20000 in
theorem gX5_taken_X5_isLong : GoodIn wsX5_taken (va_wsS RX5 103 yX5_isLong wsX5_isLong) := goodIn_app (goodIn_of _ (by decide +kernel)) ggX5_taken_X5_isLong
set_option maxRecDepth 20000 in
theorem ggX5_taken_X5_isState : GoodIn wsX5_taken wsX5_isState := goodIn_r _ [13, 14, 7, 8, 4, 9, 26, 27, 28, 29, 30, 31, 32, 33, 34, 35, 36, 37, 38, 39, 40, 41, 42, 43, 44, 45] (by decide +kernel) (by decide +kernel)
set_option maxRecDepth 20000 in
theorem gX5_taken_X5_isState : GoodIn wsX5_taken (wsV RX5 95 RX5 yX5_isState wsX5_isState) := goodIn_app (goodIn_of _ (by decide +kernel)) ggX5_taken_X5_isState
set_option maxRecDepth 20000 in
theorem ggX5_taken_X5_sign : GoodIn wsX5_taken wsX5_sign := goodIn_r _ [18, 19, 20, 21, 4, 22, 23, 24, 25] (by decide +kernel) (by decide +kernel)
set_option maxRecDepth 20000 in
theorem gX5_taken_X5_sign : GoodIn wsX5_taken (wsV RX5 106 RX5 yX5_sign wsX5_sign) := goodIn_app (goodIn_of _ (by decide +kernel)) ggX5_taken_X5_sign
theorem dX5_taken_0 : decode cX5_taken 0 = .ok (.iload_n 2, 1) := by decide +kernel
theorem dX5_taken_1 : decode cX5_taken 1 = .ok (.invokestatic 103, 3) := by decide +kernel
theorem dX5_taken_4 : decode cX5_taken 4 = .ok (.ifCond .eq 11, 3) := by decide +kernel
theorem dX5_taken_7 : decode cX5_taken 7 = .ok (.aload_n 0, 1) := by decide +kernel
theorem dX5_taken_8 : decode cX5_taken 8 = .ok (.iload_n 3, 1) := by decide +kernel
theorem dX5_taken_9 : decode cX5_taken 9 = .ok (.invokevirtual 95, 3) := by decide +kernel
theorem dX5_taken_12 : decode cX5_taken 12 = .ok (.ifCond .ne 5, 3) := by decide +kernel
theorem dX5_taken_15 : decode cX5_taken 15 = .ok (.iconst (-1), 1) := by decide +kernel
theorem dX5_taken_16 : decode cX5_taken 16 = .ok (.ireturn, 1) := by decide +kernel
theorem dX5_taken_17 : decode cX5_taken 17 = .ok (.iload_n 3, 1) := by decide +kernel
theorem dX5_taken_18 : decode cX5_taken 18 = .ok (.istore 4, 2) := by decide +kernel
theorem dX5_taken_20 : decode cX5_taken 20 = .ok (.iload_n 2, 1) := by decide +kernel
theorem dX5_taken_21 : decode cX5_taken 21 = .ok (.istore 5, 2) := by decide +kernel
theorem dX5_taken_23 : decode cX5_taken 23 = .ok (.iload 5, 2) := by decide +kernel
theorem dX5_taken_25 : decode cX5_taken 25 = .ok (.ifCond .le 29, 3) := by decide +kernel
theorem dX5_taken_28 : decode cX5_taken 28 = .ok (.aload_n 0, 1) := by decide +kernel
theorem dX5_taken_29 : decode cX5_taken 29 = .ok (.getfield 7, 3) := by decide +kernel
theorem dX5_taken_32 : decode cX5_taken 32 = .ok (.bipush 8, 2) := by decide +kernel
theorem dX5_taken_34 : decode cX5_taken 34 = .ok (.iload 4, 2) := by decide +kernel
theorem dX5_taken_36 : decode cX5_taken 36 = .ok (.imul, 1) := by decide +kernel
theorem dX5_taken_37 : decode cX5_taken 37 = .ok (.aload_n 0, 1) := by decide +kernel
theorem dX5_taken_38 : decode cX5_taken 38 = .ok (.iload_n 1, 1) := by decide +kernel
theorem dX5_taken_39 : decode cX5_taken 39 = .ok (.iload 5, 2) := by decide +kernel
theorem dX5_taken_41 : decode cX5_taken 41 = .ok (.invokevirtual 106, 3) := by decide +kernel
theorem dX5_taken_44 : decode cX5_taken 44 = .ok (.iadd, 1) := by decide +kernel
theorem dX5_taken_45 : decode cX5_taken 45 = .ok (.iaload, 1) := by decide +kernel
theorem dX5_taken_46 : decode cX5_taken 46 = .ok (.istore 4, 2) := by decide +kernel
theorem dX5_taken_48 : decode cX5_taken 48 = .ok (.iinc 5 (-1), 3) := by decide +kernel
theorem dX5_taken_51 : decode cX5_taken 51 = .ok (.goto (-28), 3) := by decide +kernel
theorem dX5_taken_54 : decode cX5_taken 54 = .ok (.iload 4, 2) := by decide +kernel
theorem dX5_taken_56 : decode cX5_taken 56 = .ok (.ireturn, 1) := by decide +kernel
theorem dX5_begin_0 : decode cX5_begin 0 = .ok (.iconst 0, 1) := by decide +kernel
theorem dX5_begin_1 : decode cX5_begin 1 = .ok (.istore_n 1, 1) := by decide +kernel
theorem dX5_begin_2 : decode cX5_begin 2 = .ok (.iload_n 1, 1) := by decide +kernel
theorem dX5_begin_3 : decode cX5_begin 3 = .ok (.aload_n 0, 1) := by decide +kernel
theorem dX5_begin_4 : decode cX5_begin 4 = .ok (.getfield 64, 3) := by decide +kernel
theorem dX5_begin_7 : decode cX5_begin 7 = .ok (.if_icmp .ge 16, 3) := by decide +kernel
theorem dX5_begin_10 : decode cX5_begin 10 = .ok (.aload_n 0, 1) := by decide +kernel
theorem dX5_begin_11 : decode cX5_begin 11 = .ok (.getfield 30, 3) := by decide +kernel
theorem dX5_begin_14 : decode cX5_begin 14 = .ok (.iload_n 1, 1) := by decide +kernel
theorem dX5_begin_15 : decode cX5_begin 15 = .ok (.iload_n 1, 1) := by decide +kernel
theorem dX5_begin_16 : decode cX5_begin 16 = .ok (.iastore, 1) := by decide +kernel
theorem dX5_begin_17 : decode cX5_begin 17 = .ok (.iinc 1 1, 3) := by decide +kernel
theorem dX5_begin_20 : decode cX5_begin 20 = .ok (.goto (-18), 3) := by decide +kernel
theorem dX5_begin_23 : decode cX5_begin 23 = .ok (.return_, 1) := by decide +kernel
theorem dX5_ahead_0 : decode cX5_ahead 0 = .ok (.iconst 0, 1) := by decide +kernel
theorem dX5_ahead_1 : decode cX5_ahead 1 = .ok (.istore_n 2, 1) := by decide +kernel
theorem dX5_ahead_2 : decode cX5_ahead 2 = .ok (.iload_n 2, 1) := by decide +kernel
theorem dX5_ahead_3 : decode cX5_ahead 3 = .ok (.aload_n 0, 1) := by decide +kernel
theorem dX5_ahead_4 : decode cX5_ahead 4 = .ok (.getfield 64, 3) := by decide +kernel
theorem dX5_ahead_7 : decode cX5_ahead 7 = .ok (.if_icmp .ge 31, 3) := by decide +kernel
theorem dX5_ahead_10 : decode cX5_ahead 10 = .ok (.aload_n 0, 1) := by decide +kernel
theorem dX5_ahead_11 : decode cX5_ahead 11 = .ok (.getfield 33, 3) := by decide +kernel
theorem dX5_ahead_14 : decode cX5_ahead 14 = .ok (.iload_n 2, 1) := by decide +kernel
theorem dX5_ahead_15 : decode cX5_ahead 15 = .ok (.aload_n 0, 1) := by decide +kernel
theorem dX5_ahead_16 : decode cX5_ahead 16 = .ok (.getfield 30, 3) := by decide +kernel
theorem dX5_ahead_19 : decode cX5_ahead 19 = .ok (.aload_n 0, 1) := by decide +kernel
theorem dX5_ahead_20 : decode cX5_ahead 20 = .ok (.getfield 7, 3) := by decide +kernel
theorem dX5_ahead_23 : decode cX5_ahead 23 = .ok (.bipush 8, 2) := by decide +kernel
theorem dX5_ahead_25 : decode cX5_ahead 25 = .ok (.iload_n 2, 1) := by decide +kernel
theorem dX5_ahead_26 : decode cX5_ahead 26 = .ok (.imul, 1) := by decide +kernel
theorem dX5_ahead_27 : decode cX5_ahead 27 = .ok (.iload_n 1, 1) := by decide +kernel
theorem dX5_ahead_28 : decode cX5_ahead 28 = .ok (.iadd, 1) := by decide +kernel
theorem dX5_ahead_29 : decode cX5_ahead 29 = .ok (.iaload, 1) := by decide +kernel
theorem dX5_ahead_30 : decode cX5_ahead 30 = .ok (.iaload, 1) := by decide +kernel
theorem dX5_ahead_31 : decode cX5_ahead 31 = .ok (.iastore, 1) := by decide +kernel
theorem dX5_ahead_32 : decode cX5_ahead 32 = .ok (.iinc 2 1, 3) := by decide +kernel
theorem dX5_ahead_35 : decode cX5_ahead 35 = .ok (.goto (-33), 3) := by decide +kernel
theorem dX5_ahead_38 : decode cX5_ahead 38 = .ok (.iconst 0, 1) := by decide +kernel
theorem dX5_ahead_39 : decode cX5_ahead 39 = .ok (.istore_n 2, 1) := by decide +kernel
theorem dX5_ahead_40 : decode cX5_ahead 40 = .ok (.iload_n 2, 1) := by decide +kernel
theorem dX5_ahead_41 : decode cX5_ahead 41 = .ok (.aload_n 0, 1) := by decide +kernel
theorem dX5_ahead_42 : decode cX5_ahead 42 = .ok (.getfield 64, 3) := by decide +kernel
theorem dX5_ahead_45 : decode cX5_ahead 45 = .ok (.if_icmp .ge 21, 3) := by decide +kernel
theorem dX5_ahead_48 : decode cX5_ahead 48 = .ok (.aload_n 0, 1) := by decide +kernel
theorem dX5_ahead_49 : decode cX5_ahead 49 = .ok (.getfield 30, 3) := by decide +kernel
theorem dX5_ahead_52 : decode cX5_ahead 52 = .ok (.iload_n 2, 1) := by decide +kernel
theorem dX5_ahead_53 : decode cX5_ahead 53 = .ok (.aload_n 0, 1) := by decide +kernel
theorem dX5_ahead_54 : decode cX5_ahead 54 = .ok (.getfield 33, 3) := by decide +kernel
theorem dX5_ahead_57 : decode cX5_ahead 57 = .ok (.iload_n 2, 1) := by decide +kernel
theorem dX5_ahead_58 : decode cX5_ahead 58 = .ok (.iaload, 1) := by decide +kernel
theorem dX5_ahead_59 : decode cX5_ahead 59 = .ok (.iastore, 1) := by decide +kernel
theorem dX5_ahead_60 : decode cX5_ahead 60 = .ok (.iinc 2 1, 3) := by decide +kernel
theorem dX5_ahead_63 : decode cX5_ahead 63 = .ok (.goto (-23), 3) := by decide +kernel
theorem dX5_ahead_66 : decode cX5_ahead 66 = .ok (.return_, 1) := by decide +kernel
theorem dX5_behind_0 : decode cX5_behind 0 = .ok (.iconst 0, 1) := by decide +kernel
theorem dX5_behind_1 : decode cX5_behind 1 = .ok (.istore_n 2, 1) := by decide +kernel
theorem dX5_behind_2 : decode cX5_behind 2 = .ok (.iload_n 2, 1) := by decide +kernel
theorem dX5_behind_3 : decode cX5_behind 3 = .ok (.aload_n 0, 1) := by decide +kernel
theorem dX5_behind_4 : decode cX5_behind 4 = .ok (.getfield 64, 3) := by decide +kernel
theorem dX5_behind_7 : decode cX5_behind 7 = .ok (.if_icmp .ge 31, 3) := by decide +kernel
theorem dX5_behind_10 : decode cX5_behind 10 = .ok (.aload_n 0, 1) := by decide +kernel
theorem dX5_behind_11 : decode cX5_behind 11 = .ok (.getfield 30, 3) := by decide +kernel
theorem dX5_behind_14 : decode cX5_behind 14 = .ok (.iload_n 2, 1) := by decide +kernel
theorem dX5_behind_15 : decode cX5_behind 15 = .ok (.aload_n 0, 1) := by decide +kernel
theorem dX5_behind_16 : decode cX5_behind 16 = .ok (.getfield 7, 3) := by decide +kernel
theorem dX5_behind_19 : decode cX5_behind 19 = .ok (.bipush 8, 2) := by decide +kernel
theorem dX5_behind_21 : decode cX5_behind 21 = .ok (.aload_n 0, 1) := by decide +kernel
theorem dX5_behind_22 : decode cX5_behind 22 = .ok (.getfield 30, 3) := by decide +kernel
theorem dX5_behind_25 : decode cX5_behind 25 = .ok (.iload_n 2, 1) := by decide +kernel
theorem dX5_behind_26 : decode cX5_behind 26 = .ok (.iaload, 1) := by decide +kernel
theorem dX5_behind_27 : decode cX5_behind 27 = .ok (.imul, 1) := by decide +kernel
theorem dX5_behind_28 : decode cX5_behind 28 = .ok (.iload_n 1, 1) := by decide +kernel
theorem dX5_behind_29 : decode cX5_behind 29 = .ok (.iadd, 1) := by decide +kernel
theorem dX5_behind_30 : decode cX5_behind 30 = .ok (.iaload, 1) := by decide +kernel
theorem dX5_behind_31 : decode cX5_behind 31 = .ok (.iastore, 1) := by decide +kernel
theorem dX5_behind_32 : decode cX5_behind 32 = .ok (.iinc 2 1, 3) := by decide +kernel
theorem dX5_behind_35 : decode cX5_behind 35 = .ok (.goto (-33), 3) := by decide +kernel
theorem dX5_behind_38 : decode cX5_behind 38 = .ok (.return_, 1) := by decide +kernel
theorem dX5_meets_0 : decode cX5_meets 0 = .ok (.iconst 1, 1) := by decide +kernel
theorem dX5_meets_1 : decode cX5_meets 1 = .ok (.istore_n 1, 1) := by decide +kernel
theorem dX5_meets_2 : decode cX5_meets 2 = .ok (.iconst 1, 1) := by decide +kernel
theorem dX5_meets_3 : decode cX5_meets 3 = .ok (.istore_n 2, 1) := by decide +kernel
theorem dX5_meets_4 : decode cX5_meets 4 = .ok (.iload_n 2, 1) := by decide +kernel
theorem dX5_meets_5 : decode cX5_meets 5 = .ok (.aload_n 0, 1) := by decide +kernel
theorem dX5_meets_6 : decode cX5_meets 6 = .ok (.getfield 64, 3) := by decide +kernel
theorem dX5_meets_9 : decode cX5_meets 9 = .ok (.if_icmp .ge 34, 3) := by decide +kernel
theorem dX5_meets_12 : decode cX5_meets 12 = .ok (.iload_n 1, 1) := by decide +kernel
theorem dX5_meets_13 : decode cX5_meets 13 = .ok (.ifCond .eq 22, 3) := by decide +kernel
theorem dX5_meets_16 : decode cX5_meets 16 = .ok (.aload_n 0, 1) := by decide +kernel
theorem dX5_meets_17 : decode cX5_meets 17 = .ok (.getfield 30, 3) := by decide +kernel
theorem dX5_meets_20 : decode cX5_meets 20 = .ok (.iload_n 2, 1) := by decide +kernel
theorem dX5_meets_21 : decode cX5_meets 21 = .ok (.iaload, 1) := by decide +kernel
theorem dX5_meets_22 : decode cX5_meets 22 = .ok (.aload_n 0, 1) := by decide +kernel
theorem dX5_meets_23 : decode cX5_meets 23 = .ok (.getfield 30, 3) := by decide +kernel
theorem dX5_meets_26 : decode cX5_meets 26 = .ok (.iconst 0, 1) := by decide +kernel
theorem dX5_meets_27 : decode cX5_meets 27 = .ok (.iaload, 1) := by decide +kernel
theorem dX5_meets_28 : decode cX5_meets 28 = .ok (.if_icmp .ne 7, 3) := by decide +kernel
theorem dX5_meets_31 : decode cX5_meets 31 = .ok (.iconst 1, 1) := by decide +kernel
theorem dX5_meets_32 : decode cX5_meets 32 = .ok (.goto 4, 3) := by decide +kernel
theorem dX5_meets_35 : decode cX5_meets 35 = .ok (.iconst 0, 1) := by decide +kernel
theorem dX5_meets_36 : decode cX5_meets 36 = .ok (.istore_n 1, 1) := by decide +kernel
theorem dX5_meets_37 : decode cX5_meets 37 = .ok (.iinc 2 1, 3) := by decide +kernel
theorem dX5_meets_40 : decode cX5_meets 40 = .ok (.goto (-36), 3) := by decide +kernel
theorem dX5_meets_43 : decode cX5_meets 43 = .ok (.iload_n 1, 1) := by decide +kernel
theorem dX5_meets_44 : decode cX5_meets 44 = .ok (.ireturn, 1) := by decide +kernel
set_option maxRecDepth 20000 in
theorem ggX5_past_X5_isLong : GoodIn wsX5_past wsX5_isLong := goodIn_r _ [5, 6, 7, 8, 4, 9] (by decide +kernel) (by decide +kernel)
set_option maxRecDepth 20000 in
theorem gX5_past_X5_isLong : GoodIn wsX5_past (va_wsS RX5 103 yX5_isLong wsX5_isLong) := goodIn_app (goodIn_of _ (by decide +kernel)) ggX5_past_X5_isLong
set_option maxRecDepth 20000 in
theorem ggX5_past_X5_begin : GoodIn wsX5_past wsX5_begin := goodIn_r _ [13, 14, 1, 36, 37, 38, 39, 40, 41, 42, 43, 44, 45, 46, 47, 48, 49, 50, 51, 52, 53, 54, 55] (by decide +kernel) (by decide +kernel)
set_option maxRecDepth 20000 in
theorem gX5_past_X5_begin : GoodIn wsX5_past (wsV RX5 109 RX5 yX5_begin wsX5_begin) := goodIn_app (goodIn_of _ (by decide +kernel)) ggX5_past_X5_begin
set_option maxRecDepth 20000 in
theorem ggX5_past_X5_sign : GoodIn wsX5_past wsX5_sign := goodIn_r _ [18, 19, 20, 21, 4, 22, 23, 24, 25] (by decide +kernel) (by decide +kernel)
set_option maxRecDepth 20000 in
theorem gX5_past_X5_sign : GoodIn wsX5_past (wsV RX5 106 RX5 yX5_sign wsX5_sign) := goodIn_app (goodIn_of _ (by decide +kernel)) ggX5_past_X5_sign
set_option maxRecDepth 20000 in
theorem ggX5_past_X5_ahead : GoodIn wsX5_past wsX5_ahead := goodIn_r _ [29, 14, 30, 1, 31, 36, 37, 38, 39, 40, 41, 42, 43, 44, 45, 46, 47, 48, 49, 50, 51, 52, 53, 54, 55] (by decide +kernel) (by decide +kernel)
set_option maxRecDepth 20000 in
theorem gX5_past_X5_ahead : GoodIn wsX5_past (wsV RX5 112 RX5 yX5_ahead wsX5_ahead) := goodIn_app (goodIn_of _ (by decide +kernel)) ggX5_past_X5_ahead
set_option maxRecDepth 20000 in
theorem ggX5_past_X5_meets : GoodIn wsX5_past wsX5_meets := goodIn_r _ [35, 14, 1, 36, 37, 38, 39, 40, 41, 42, 43, 44, 45, 46, 47, 48, 49, 50, 51, 52, 53, 54, 55] (by decide +kernel) (by decide +kernel)
set_option maxRecDepth 20000 in
theorem gX5_past_X5_meets : GoodIn wsX5_past (wsV RX5 116 RX5 yX5_meets wsX5_meets) := goodIn_app (goodIn_of _ (by decide +kernel)) ggX5_past_X5_meets
theorem dX5_past_0 : decode cX5_past 0 = .ok (.iload_n 2, 1) := by decide +kernel
theorem dX5_past_1 : decode cX5_past 1 = .ok (.invokestatic 103, 3) := by decide +kernel
theorem dX5_past_4 : decode cX5_past 4 = .ok (.ifCond .ne 5, 3) := by decide +kernel
theorem dX5_past_7 : decode cX5_past 7 = .ok (.iconst (-1), 1) := by decide +kernel
theorem dX5_past_8 : decode cX5_past 8 = .ok (.ireturn, 1) := by decide +kernel
theorem dX5_past_9 : decode cX5_past 9 = .ok (.aload_n 0, 1) := by decide +kernel
theorem dX5_past_10 : decode cX5_past 10 = .ok (.invokevirtual 109, 3) := by decide +kernel
theorem dX5_past_13 : decode cX5_past 13 = .ok (.iconst 1, 1) := by decide +kernel
theorem dX5_past_14 : decode cX5_past 14 = .ok (.istore_n 3, 1) := by decide +kernel
theorem dX5_past_15 : decode cX5_past 15 = .ok (.iconst 1, 1) := by decide +kernel
theorem dX5_past_16 : decode cX5_past 16 = .ok (.istore 4, 2) := by decide +kernel
theorem dX5_past_18 : decode cX5_past 18 = .ok (.iload 4, 2) := by decide +kernel
theorem dX5_past_20 : decode cX5_past 20 = .ok (.iload_n 2, 1) := by decide +kernel
theorem dX5_past_21 : decode cX5_past 21 = .ok (.if_icmp .gt 44, 3) := by decide +kernel
theorem dX5_past_24 : decode cX5_past 24 = .ok (.aload_n 0, 1) := by decide +kernel
theorem dX5_past_25 : decode cX5_past 25 = .ok (.aload_n 0, 1) := by decide +kernel
theorem dX5_past_26 : decode cX5_past 26 = .ok (.iload_n 1, 1) := by decide +kernel
theorem dX5_past_27 : decode cX5_past 27 = .ok (.iload 4, 2) := by decide +kernel
theorem dX5_past_29 : decode cX5_past 29 = .ok (.invokevirtual 106, 3) := by decide +kernel
theorem dX5_past_32 : decode cX5_past 32 = .ok (.invokevirtual 112, 3) := by decide +kernel
theorem dX5_past_35 : decode cX5_past 35 = .ok (.iload 4, 2) := by decide +kernel
theorem dX5_past_37 : decode cX5_past 37 = .ok (.iload_n 3, 1) := by decide +kernel
theorem dX5_past_38 : decode cX5_past 38 = .ok (.if_icmp .ne 21, 3) := by decide +kernel
theorem dX5_past_41 : decode cX5_past 41 = .ok (.aload_n 0, 1) := by decide +kernel
theorem dX5_past_42 : decode cX5_past 42 = .ok (.invokevirtual 116, 3) := by decide +kernel
theorem dX5_past_45 : decode cX5_past 45 = .ok (.ifCond .eq 10, 3) := by decide +kernel
theorem dX5_past_48 : decode cX5_past 48 = .ok (.aload_n 0, 1) := by decide +kernel
theorem dX5_past_49 : decode cX5_past 49 = .ok (.getfield 30, 3) := by decide +kernel
theorem dX5_past_52 : decode cX5_past 52 = .ok (.iconst 0, 1) := by decide +kernel
theorem dX5_past_53 : decode cX5_past 53 = .ok (.iaload, 1) := by decide +kernel
theorem dX5_past_54 : decode cX5_past 54 = .ok (.ireturn, 1) := by decide +kernel
theorem dX5_past_55 : decode cX5_past 55 = .ok (.iload_n 3, 1) := by decide +kernel
theorem dX5_past_56 : decode cX5_past 56 = .ok (.iconst 2, 1) := by decide +kernel
theorem dX5_past_57 : decode cX5_past 57 = .ok (.imul, 1) := by decide +kernel
theorem dX5_past_58 : decode cX5_past 58 = .ok (.istore_n 3, 1) := by decide +kernel
theorem dX5_past_59 : decode cX5_past 59 = .ok (.iinc 4 1, 3) := by decide +kernel
theorem dX5_past_62 : decode cX5_past 62 = .ok (.goto (-44), 3) := by decide +kernel
theorem dX5_past_65 : decode cX5_past 65 = .ok (.bipush (-2), 2) := by decide +kernel
theorem dX5_past_67 : decode cX5_past 67 = .ok (.ireturn, 1) := by decide +kernel
set_option maxRecDepth 20000 in
theorem ggX5_fold_X5_isLong : GoodIn wsX5_fold wsX5_isLong := goodIn_r _ [4, 5, 6, 7, 3, 8] (by decide +kernel) (by decide +kernel)
set_option maxRecDepth 20000 in
theorem gX5_fold_X5_isLong : GoodIn wsX5_fold (va_wsS RX5 103 yX5_isLong wsX5_isLong) := goodIn_app (goodIn_of _ (by decide +kernel)) ggX5_fold_X5_isLong
set_option maxRecDepth 20000 in
theorem ggX5_fold_X5_begin : GoodIn wsX5_fold wsX5_begin := goodIn_r _ [12, 13, 14, 36, 37, 38, 39, 40, 41, 42, 43, 44, 45, 46, 47, 48, 49, 50, 51, 52, 53, 54, 55] (by decide +kernel) (by decide +kernel)
set_option maxRecDepth 20000 in
theorem gX5_fold_X5_begin : GoodIn wsX5_fold (wsV RX5 109 RX5 yX5_begin wsX5_begin) := goodIn_app (goodIn_of _ (by decide +kernel)) ggX5_fold_X5_begin
set_option maxRecDepth 20000 in
theorem ggX5_fold_X5_sign : GoodIn wsX5_fold wsX5_sign := goodIn_r _ [18, 19, 20, 21, 3, 22, 23, 24, 25] (by decide +kernel) (by decide +kernel)
set_option maxRecDepth 20000 in
theorem gX5_fold_X5_sign : GoodIn wsX5_fold (wsV RX5 106 RX5 yX5_sign wsX5_sign) := goodIn_app (goodIn_of _ (by decide +kernel)) ggX5_fold_X5_sign
set_option maxRecDepth 20000 in
theorem ggX5_fold_X5_ahead : GoodIn wsX5_fold wsX5_ahead := goodIn_r _ [29, 13, 30, 14, 31, 36, 37, 38, 39, 40, 41, 42, 43, 44, 45, 46, 47, 48, 49, 50, 51, 52, 53, 54, 55] (by decide +kernel) (by decide +kernel)
set_option maxRecDepth 20000 in
theorem gX5_fold_X5_ahead : GoodIn wsX5_fold (wsV RX5 112 RX5 yX5_ahead wsX5_ahead) := goodIn_app (goodIn_of _ (by decide +kernel)) ggX5_fold_X5_ahead
set_option maxRecDepth 20000 in
theorem ggX5_fold_X5_meets : GoodIn wsX5_fold wsX5_meets := goodIn_r _ [35, 13, 14, 36, 37, 38, 39, 40, 41, 42, 43, 44, 45, 46, 47, 48, 49, 50, 51, 52, 53, 54, 55] (by decide +kernel) (by decide +kernel)
set_option maxRecDepth 20000 in
theorem gX5_fold_X5_meets : GoodIn wsX5_fold (wsV RX5 116 RX5 yX5_meets wsX5_meets) := goodIn_app (goodIn_of _ (by decide +kernel)) ggX5_fold_X5_meets
theorem dX5_fold_0 : decode cX5_fold 0 = .ok (.iload_n 2, 1) := by decide +kernel
theorem dX5_fold_1 : decode cX5_fold 1 = .ok (.invokestatic 103, 3) := by decide +kernel
theorem dX5_fold_4 : decode cX5_fold 4 = .ok (.ifCond .ne 5, 3) := by decide +kernel
theorem dX5_fold_7 : decode cX5_fold 7 = .ok (.iconst (-1), 1) := by decide +kernel
theorem dX5_fold_8 : decode cX5_fold 8 = .ok (.ireturn, 1) := by decide +kernel
theorem dX5_fold_9 : decode cX5_fold 9 = .ok (.aload_n 0, 1) := by decide +kernel
theorem dX5_fold_10 : decode cX5_fold 10 = .ok (.invokevirtual 109, 3) := by decide +kernel
theorem dX5_fold_13 : decode cX5_fold 13 = .ok (.iconst 1, 1) := by decide +kernel
theorem dX5_fold_14 : decode cX5_fold 14 = .ok (.istore_n 3, 1) := by decide +kernel
theorem dX5_fold_15 : decode cX5_fold 15 = .ok (.iload_n 3, 1) := by decide +kernel
theorem dX5_fold_16 : decode cX5_fold 16 = .ok (.iload_n 2, 1) := by decide +kernel
theorem dX5_fold_17 : decode cX5_fold 17 = .ok (.if_icmp .gt 28, 3) := by decide +kernel
theorem dX5_fold_20 : decode cX5_fold 20 = .ok (.aload_n 0, 1) := by decide +kernel
theorem dX5_fold_21 : decode cX5_fold 21 = .ok (.aload_n 0, 1) := by decide +kernel
theorem dX5_fold_22 : decode cX5_fold 22 = .ok (.iload_n 1, 1) := by decide +kernel
theorem dX5_fold_23 : decode cX5_fold 23 = .ok (.iload_n 3, 1) := by decide +kernel
theorem dX5_fold_24 : decode cX5_fold 24 = .ok (.invokevirtual 106, 3) := by decide +kernel
theorem dX5_fold_27 : decode cX5_fold 27 = .ok (.invokevirtual 112, 3) := by decide +kernel
theorem dX5_fold_30 : decode cX5_fold 30 = .ok (.aload_n 0, 1) := by decide +kernel
theorem dX5_fold_31 : decode cX5_fold 31 = .ok (.invokevirtual 116, 3) := by decide +kernel
theorem dX5_fold_34 : decode cX5_fold 34 = .ok (.ifCond .eq 5, 3) := by decide +kernel
theorem dX5_fold_37 : decode cX5_fold 37 = .ok (.iload_n 3, 1) := by decide +kernel
theorem dX5_fold_38 : decode cX5_fold 38 = .ok (.ireturn, 1) := by decide +kernel
theorem dX5_fold_39 : decode cX5_fold 39 = .ok (.iinc 3 1, 3) := by decide +kernel
theorem dX5_fold_42 : decode cX5_fold 42 = .ok (.goto (-27), 3) := by decide +kernel
theorem dX5_fold_45 : decode cX5_fold 45 = .ok (.bipush (-2), 2) := by decide +kernel
theorem dX5_fold_47 : decode cX5_fold 47 = .ok (.ireturn, 1) := by decide +kernel
theorem dX5_bound_0 : decode cX5_bound 0 = .ok (.aload_n 0, 1) := by decide +kernel
theorem dX5_bound_1 : decode cX5_bound 1 = .ok (.getfield 64, 3) := by decide +kernel
theorem dX5_bound_4 : decode cX5_bound 4 = .ok (.istore 4, 2) := by decide +kernel
theorem dX5_bound_6 : decode cX5_bound 6 = .ok (.iconst (-1), 1) := by decide +kernel
theorem dX5_bound_7 : decode cX5_bound 7 = .ok (.istore 5, 2) := by decide +kernel
theorem dX5_bound_9 : decode cX5_bound 9 = .ok (.iload_n 1, 1) := by decide +kernel
theorem dX5_bound_10 : decode cX5_bound 10 = .ok (.istore 6, 2) := by decide +kernel
theorem dX5_bound_12 : decode cX5_bound 12 = .ok (.iload 6, 2) := by decide +kernel
theorem dX5_bound_14 : decode cX5_bound 14 = .ok (.iload_n 2, 1) := by decide +kernel
theorem dX5_bound_15 : decode cX5_bound 15 = .ok (.if_icmp .gt 55, 3) := by decide +kernel
theorem dX5_bound_18 : decode cX5_bound 18 = .ok (.aload_n 0, 1) := by decide +kernel
theorem dX5_bound_19 : decode cX5_bound 19 = .ok (.getfield 7, 3) := by decide +kernel
theorem dX5_bound_22 : decode cX5_bound 22 = .ok (.bipush 8, 2) := by decide +kernel
theorem dX5_bound_24 : decode cX5_bound 24 = .ok (.iload 6, 2) := by decide +kernel
theorem dX5_bound_26 : decode cX5_bound 26 = .ok (.imul, 1) := by decide +kernel
theorem dX5_bound_27 : decode cX5_bound 27 = .ok (.iload_n 3, 1) := by decide +kernel
theorem dX5_bound_28 : decode cX5_bound 28 = .ok (.iadd, 1) := by decide +kernel
theorem dX5_bound_29 : decode cX5_bound 29 = .ok (.iaload, 1) := by decide +kernel
theorem dX5_bound_30 : decode cX5_bound 30 = .ok (.istore 7, 2) := by decide +kernel
theorem dX5_bound_32 : decode cX5_bound 32 = .ok (.iload 7, 2) := by decide +kernel
theorem dX5_bound_34 : decode cX5_bound 34 = .ok (.iload 4, 2) := by decide +kernel
theorem dX5_bound_36 : decode cX5_bound 36 = .ok (.if_icmp .ge 8, 3) := by decide +kernel
theorem dX5_bound_39 : decode cX5_bound 39 = .ok (.iload 7, 2) := by decide +kernel
theorem dX5_bound_41 : decode cX5_bound 41 = .ok (.goto 5, 3) := by decide +kernel
theorem dX5_bound_44 : decode cX5_bound 44 = .ok (.iload 4, 2) := by decide +kernel
theorem dX5_bound_46 : decode cX5_bound 46 = .ok (.istore 4, 2) := by decide +kernel
theorem dX5_bound_48 : decode cX5_bound 48 = .ok (.iload 7, 2) := by decide +kernel
theorem dX5_bound_50 : decode cX5_bound 50 = .ok (.iload 5, 2) := by decide +kernel
theorem dX5_bound_52 : decode cX5_bound 52 = .ok (.if_icmp .le 8, 3) := by decide +kernel
theorem dX5_bound_55 : decode cX5_bound 55 = .ok (.iload 7, 2) := by decide +kernel
theorem dX5_bound_57 : decode cX5_bound 57 = .ok (.goto 5, 3) := by decide +kernel
theorem dX5_bound_60 : decode cX5_bound 60 = .ok (.iload 5, 2) := by decide +kernel
theorem dX5_bound_62 : decode cX5_bound 62 = .ok (.istore 5, 2) := by decide +kernel
theorem dX5_bound_64 : decode cX5_bound 64 = .ok (.iinc 6 1, 3) := by decide +kernel
theorem dX5_bound_67 : decode cX5_bound 67 = .ok (.goto (-55), 3) := by decide +kernel
theorem dX5_bound_70 : decode cX5_bound 70 = .ok (.bipush 12, 2) := by decide +kernel
theorem dX5_bound_72 : decode cX5_bound 72 = .ok (.iload 4, 2) := by decide +kernel
theorem dX5_bound_74 : decode cX5_bound 74 = .ok (.imul, 1) := by decide +kernel
theorem dX5_bound_75 : decode cX5_bound 75 = .ok (.iload 5, 2) := by decide +kernel
theorem dX5_bound_77 : decode cX5_bound 77 = .ok (.iadd, 1) := by decide +kernel
theorem dX5_bound_78 : decode cX5_bound 78 = .ok (.ireturn, 1) := by decide +kernel
set_option maxRecDepth 20000 in
theorem ggX5_bounding_X5_in : GoodIn wsX5_bounding wsX5_in := goodIn_r _ [8] (by decide +kernel) (by decide +kernel)
set_option maxRecDepth 20000 in
theorem gX5_bounding_X5_in : GoodIn wsX5_bounding (va_wsS RX5 67 yX5_in wsX5_in) := goodIn_app (goodIn_of _ (by decide +kernel)) ggX5_bounding_X5_in
set_option maxRecDepth 20000 in
theorem ggX5_bounding_X5_sign : GoodIn wsX5_bounding wsX5_sign := goodIn_r _ [12, 13, 14, 15, 7, 16, 17, 18, 19] (by decide +kernel) (by decide +kernel)
set_option maxRecDepth 20000 in
theorem gX5_bounding_X5_sign : GoodIn wsX5_bounding (wsV RX5 106 RX5 yX5_sign wsX5_sign) := goodIn_app (goodIn_of _ (by decide +kernel)) ggX5_bounding_X5_sign
set_option maxRecDepth 20000 in
theorem ggX5_bounding_X5_bound : GoodIn wsX5_bounding wsX5_bound := goodIn_r _ [23, 3, 24, 25, 26, 27, 28, 29, 30, 31, 32, 33, 34, 35, 36, 37, 38, 39, 40, 41, 42, 43, 44] (by decide +kernel) (by decide +kernel)
set_option maxRecDepth 20000 in
theorem gX5_bounding_X5_bound : GoodIn wsX5_bounding (wsV RX5 122 RX5 yX5_bound wsX5_bound) := goodIn_app (goodIn_of _ (by decide +kernel)) ggX5_bounding_X5_bound
theorem dX5_bounding_0 : decode cX5_bounding 0 = .ok (.iload_n 2, 1) := by decide +kernel
theorem dX5_bounding_1 : decode cX5_bounding 1 = .ok (.i2l, 1) := by decide +kernel
theorem dX5_bounding_2 : decode cX5_bounding 2 = .ok (.lconst 1, 1) := by decide +kernel
theorem dX5_bounding_3 : decode cX5_bounding 3 = .ok (.ldc2_w 120, 3) := by decide +kernel
theorem dX5_bounding_6 : decode cX5_bounding 6 = .ok (.invokestatic 67, 3) := by decide +kernel
theorem dX5_bounding_9 : decode cX5_bounding 9 = .ok (.ifCond .ne 5, 3) := by decide +kernel
theorem dX5_bounding_12 : decode cX5_bounding 12 = .ok (.iconst (-1), 1) := by decide +kernel
theorem dX5_bounding_13 : decode cX5_bounding 13 = .ok (.ireturn, 1) := by decide +kernel
theorem dX5_bounding_14 : decode cX5_bounding 14 = .ok (.iconst 0, 1) := by decide +kernel
theorem dX5_bounding_15 : decode cX5_bounding 15 = .ok (.istore_n 3, 1) := by decide +kernel
theorem dX5_bounding_16 : decode cX5_bounding 16 = .ok (.iload_n 3, 1) := by decide +kernel
theorem dX5_bounding_17 : decode cX5_bounding 17 = .ok (.sipush 144, 3) := by decide +kernel
theorem dX5_bounding_20 : decode cX5_bounding 20 = .ok (.if_icmp .ge 16, 3) := by decide +kernel
theorem dX5_bounding_23 : decode cX5_bounding 23 = .ok (.aload_n 0, 1) := by decide +kernel
theorem dX5_bounding_24 : decode cX5_bounding 24 = .ok (.getfield 36, 3) := by decide +kernel
theorem dX5_bounding_27 : decode cX5_bounding 27 = .ok (.iload_n 3, 1) := by decide +kernel
theorem dX5_bounding_28 : decode cX5_bounding 28 = .ok (.iload_n 3, 1) := by decide +kernel
theorem dX5_bounding_29 : decode cX5_bounding 29 = .ok (.iastore, 1) := by decide +kernel
theorem dX5_bounding_30 : decode cX5_bounding 30 = .ok (.iinc 3 1, 3) := by decide +kernel
theorem dX5_bounding_33 : decode cX5_bounding 33 = .ok (.goto (-17), 3) := by decide +kernel
theorem dX5_bounding_36 : decode cX5_bounding 36 = .ok (.iconst 1, 1) := by decide +kernel
theorem dX5_bounding_37 : decode cX5_bounding 37 = .ok (.istore_n 3, 1) := by decide +kernel
theorem dX5_bounding_38 : decode cX5_bounding 38 = .ok (.iload_n 3, 1) := by decide +kernel
theorem dX5_bounding_39 : decode cX5_bounding 39 = .ok (.iload_n 2, 1) := by decide +kernel
theorem dX5_bounding_40 : decode cX5_bounding 40 = .ok (.if_icmp .gt 146, 3) := by decide +kernel
theorem dX5_bounding_43 : decode cX5_bounding 43 = .ok (.aload_n 0, 1) := by decide +kernel
theorem dX5_bounding_44 : decode cX5_bounding 44 = .ok (.iload_n 1, 1) := by decide +kernel
theorem dX5_bounding_45 : decode cX5_bounding 45 = .ok (.iload_n 3, 1) := by decide +kernel
theorem dX5_bounding_46 : decode cX5_bounding 46 = .ok (.invokevirtual 106, 3) := by decide +kernel
theorem dX5_bounding_49 : decode cX5_bounding 49 = .ok (.istore 4, 2) := by decide +kernel
theorem dX5_bounding_51 : decode cX5_bounding 51 = .ok (.iconst 0, 1) := by decide +kernel
theorem dX5_bounding_52 : decode cX5_bounding 52 = .ok (.istore 5, 2) := by decide +kernel
theorem dX5_bounding_54 : decode cX5_bounding 54 = .ok (.iload 5, 2) := by decide +kernel
theorem dX5_bounding_56 : decode cX5_bounding 56 = .ok (.aload_n 0, 1) := by decide +kernel
theorem dX5_bounding_57 : decode cX5_bounding 57 = .ok (.getfield 64, 3) := by decide +kernel
theorem dX5_bounding_60 : decode cX5_bounding 60 = .ok (.if_icmp .ge 56, 3) := by decide +kernel
theorem dX5_bounding_63 : decode cX5_bounding 63 = .ok (.iload 5, 2) := by decide +kernel
theorem dX5_bounding_65 : decode cX5_bounding 65 = .ok (.istore 6, 2) := by decide +kernel
theorem dX5_bounding_67 : decode cX5_bounding 67 = .ok (.iload 6, 2) := by decide +kernel
theorem dX5_bounding_69 : decode cX5_bounding 69 = .ok (.aload_n 0, 1) := by decide +kernel
theorem dX5_bounding_70 : decode cX5_bounding 70 = .ok (.getfield 64, 3) := by decide +kernel
theorem dX5_bounding_73 : decode cX5_bounding 73 = .ok (.if_icmp .ge 37, 3) := by decide +kernel
theorem dX5_bounding_76 : decode cX5_bounding 76 = .ok (.aload_n 0, 1) := by decide +kernel
theorem dX5_bounding_77 : decode cX5_bounding 77 = .ok (.getfield 39, 3) := by decide +kernel
theorem dX5_bounding_80 : decode cX5_bounding 80 = .ok (.bipush 12, 2) := by decide +kernel
theorem dX5_bounding_82 : decode cX5_bounding 82 = .ok (.iload 5, 2) := by decide +kernel
theorem dX5_bounding_84 : decode cX5_bounding 84 = .ok (.imul, 1) := by decide +kernel
theorem dX5_bounding_85 : decode cX5_bounding 85 = .ok (.iload 6, 2) := by decide +kernel
theorem dX5_bounding_87 : decode cX5_bounding 87 = .ok (.iadd, 1) := by decide +kernel
theorem dX5_bounding_88 : decode cX5_bounding 88 = .ok (.aload_n 0, 1) := by decide +kernel
theorem dX5_bounding_89 : decode cX5_bounding 89 = .ok (.getfield 36, 3) := by decide +kernel
theorem dX5_bounding_92 : decode cX5_bounding 92 = .ok (.aload_n 0, 1) := by decide +kernel
theorem dX5_bounding_93 : decode cX5_bounding 93 = .ok (.iload 5, 2) := by decide +kernel
theorem dX5_bounding_95 : decode cX5_bounding 95 = .ok (.iload 6, 2) := by decide +kernel
theorem dX5_bounding_97 : decode cX5_bounding 97 = .ok (.iload 4, 2) := by decide +kernel
theorem dX5_bounding_99 : decode cX5_bounding 99 = .ok (.invokevirtual 122, 3) := by decide +kernel
theorem dX5_bounding_102 : decode cX5_bounding 102 = .ok (.iaload, 1) := by decide +kernel
theorem dX5_bounding_103 : decode cX5_bounding 103 = .ok (.iastore, 1) := by decide +kernel
theorem dX5_bounding_104 : decode cX5_bounding 104 = .ok (.iinc 6 1, 3) := by decide +kernel
theorem dX5_bounding_107 : decode cX5_bounding 107 = .ok (.goto (-40), 3) := by decide +kernel
theorem dX5_bounding_110 : decode cX5_bounding 110 = .ok (.iinc 5 1, 3) := by decide +kernel
theorem dX5_bounding_113 : decode cX5_bounding 113 = .ok (.goto (-59), 3) := by decide +kernel
theorem dX5_bounding_116 : decode cX5_bounding 116 = .ok (.iconst 0, 1) := by decide +kernel
theorem dX5_bounding_117 : decode cX5_bounding 117 = .ok (.istore 5, 2) := by decide +kernel
theorem dX5_bounding_119 : decode cX5_bounding 119 = .ok (.iload 5, 2) := by decide +kernel
theorem dX5_bounding_121 : decode cX5_bounding 121 = .ok (.sipush 144, 3) := by decide +kernel
theorem dX5_bounding_124 : decode cX5_bounding 124 = .ok (.if_icmp .ge 23, 3) := by decide +kernel
theorem dX5_bounding_127 : decode cX5_bounding 127 = .ok (.aload_n 0, 1) := by decide +kernel
theorem dX5_bounding_128 : decode cX5_bounding 128 = .ok (.getfield 36, 3) := by decide +kernel
theorem dX5_bounding_131 : decode cX5_bounding 131 = .ok (.iload 5, 2) := by decide +kernel
theorem dX5_bounding_133 : decode cX5_bounding 133 = .ok (.aload_n 0, 1) := by decide +kernel
theorem dX5_bounding_134 : decode cX5_bounding 134 = .ok (.getfield 39, 3) := by decide +kernel
theorem dX5_bounding_137 : decode cX5_bounding 137 = .ok (.iload 5, 2) := by decide +kernel
theorem dX5_bounding_139 : decode cX5_bounding 139 = .ok (.iaload, 1) := by decide +kernel
theorem dX5_bounding_140 : decode cX5_bounding 140 = .ok (.iastore, 1) := by decide +kernel
theorem dX5_bounding_141 : decode cX5_bounding 141 = .ok (.iinc 5 1, 3) := by decide +kernel
theorem dX5_bounding_144 : decode cX5_bounding 144 = .ok (.goto (-25), 3) := by decide +kernel
theorem dX5_bounding_147 : decode cX5_bounding 147 = .ok (.aload_n 0, 1) := by decide +kernel
theorem dX5_bounding_148 : decode cX5_bounding 148 = .ok (.getfield 36, 3) := by decide +kernel
theorem dX5_bounding_151 : decode cX5_bounding 151 = .ok (.aload_n 0, 1) := by decide +kernel
theorem dX5_bounding_152 : decode cX5_bounding 152 = .ok (.getfield 64, 3) := by decide +kernel
theorem dX5_bounding_155 : decode cX5_bounding 155 = .ok (.iconst 1, 1) := by decide +kernel
theorem dX5_bounding_156 : decode cX5_bounding 156 = .ok (.isub, 1) := by decide +kernel
theorem dX5_bounding_157 : decode cX5_bounding 157 = .ok (.iaload, 1) := by decide +kernel
theorem dX5_bounding_158 : decode cX5_bounding 158 = .ok (.bipush 12, 2) := by decide +kernel
theorem dX5_bounding_160 : decode cX5_bounding 160 = .ok (.idiv, 1) := by decide +kernel
theorem dX5_bounding_161 : decode cX5_bounding 161 = .ok (.aload_n 0, 1) := by decide +kernel
theorem dX5_bounding_162 : decode cX5_bounding 162 = .ok (.getfield 36, 3) := by decide +kernel
theorem dX5_bounding_165 : decode cX5_bounding 165 = .ok (.aload_n 0, 1) := by decide +kernel
theorem dX5_bounding_166 : decode cX5_bounding 166 = .ok (.getfield 64, 3) := by decide +kernel
theorem dX5_bounding_169 : decode cX5_bounding 169 = .ok (.iconst 1, 1) := by decide +kernel
theorem dX5_bounding_170 : decode cX5_bounding 170 = .ok (.isub, 1) := by decide +kernel
theorem dX5_bounding_171 : decode cX5_bounding 171 = .ok (.iaload, 1) := by decide +kernel
theorem dX5_bounding_172 : decode cX5_bounding 172 = .ok (.bipush 12, 2) := by decide +kernel
theorem dX5_bounding_174 : decode cX5_bounding 174 = .ok (.irem, 1) := by decide +kernel
theorem dX5_bounding_175 : decode cX5_bounding 175 = .ok (.if_icmp .ne 5, 3) := by decide +kernel
theorem dX5_bounding_178 : decode cX5_bounding 178 = .ok (.iload_n 3, 1) := by decide +kernel
theorem dX5_bounding_179 : decode cX5_bounding 179 = .ok (.ireturn, 1) := by decide +kernel
theorem dX5_bounding_180 : decode cX5_bounding 180 = .ok (.iinc 3 1, 3) := by decide +kernel
theorem dX5_bounding_183 : decode cX5_bounding 183 = .ok (.goto (-145), 3) := by decide +kernel
theorem dX5_bounding_186 : decode cX5_bounding 186 = .ok (.bipush (-2), 2) := by decide +kernel
theorem dX5_bounding_188 : decode cX5_bounding 188 = .ok (.ireturn, 1) := by decide +kernel
theorem dX5_monotone_0 : decode cX5_monotone 0 = .ok (.iconst 1, 1) := by decide +kernel
theorem dX5_monotone_1 : decode cX5_monotone 1 = .ok (.istore_n 1, 1) := by decide +kernel
theorem dX5_monotone_2 : decode cX5_monotone 2 = .ok (.iconst 0, 1) := by decide +kernel
theorem dX5_monotone_3 : decode cX5_monotone 3 = .ok (.istore_n 2, 1) := by decide +kernel
theorem dX5_monotone_4 : decode cX5_monotone 4 = .ok (.iload_n 2, 1) := by decide +kernel
theorem dX5_monotone_5 : decode cX5_monotone 5 = .ok (.bipush 8, 2) := by decide +kernel
theorem dX5_monotone_7 : decode cX5_monotone 7 = .ok (.if_icmp .ge 63, 3) := by decide +kernel
theorem dX5_monotone_10 : decode cX5_monotone 10 = .ok (.iconst 1, 1) := by decide +kernel
theorem dX5_monotone_11 : decode cX5_monotone 11 = .ok (.istore_n 3, 1) := by decide +kernel
theorem dX5_monotone_12 : decode cX5_monotone 12 = .ok (.iload_n 3, 1) := by decide +kernel
theorem dX5_monotone_13 : decode cX5_monotone 13 = .ok (.aload_n 0, 1) := by decide +kernel
theorem dX5_monotone_14 : decode cX5_monotone 14 = .ok (.getfield 64, 3) := by decide +kernel
theorem dX5_monotone_17 : decode cX5_monotone 17 = .ok (.if_icmp .ge 47, 3) := by decide +kernel
theorem dX5_monotone_20 : decode cX5_monotone 20 = .ok (.iload_n 1, 1) := by decide +kernel
theorem dX5_monotone_21 : decode cX5_monotone 21 = .ok (.ifCond .eq 35, 3) := by decide +kernel
theorem dX5_monotone_24 : decode cX5_monotone 24 = .ok (.aload_n 0, 1) := by decide +kernel
theorem dX5_monotone_25 : decode cX5_monotone 25 = .ok (.getfield 7, 3) := by decide +kernel
theorem dX5_monotone_28 : decode cX5_monotone 28 = .ok (.bipush 8, 2) := by decide +kernel
theorem dX5_monotone_30 : decode cX5_monotone 30 = .ok (.iload_n 3, 1) := by decide +kernel
theorem dX5_monotone_31 : decode cX5_monotone 31 = .ok (.imul, 1) := by decide +kernel
theorem dX5_monotone_32 : decode cX5_monotone 32 = .ok (.bipush 8, 2) := by decide +kernel
theorem dX5_monotone_34 : decode cX5_monotone 34 = .ok (.isub, 1) := by decide +kernel
theorem dX5_monotone_35 : decode cX5_monotone 35 = .ok (.iload_n 2, 1) := by decide +kernel
theorem dX5_monotone_36 : decode cX5_monotone 36 = .ok (.iadd, 1) := by decide +kernel
theorem dX5_monotone_37 : decode cX5_monotone 37 = .ok (.iaload, 1) := by decide +kernel
theorem dX5_monotone_38 : decode cX5_monotone 38 = .ok (.aload_n 0, 1) := by decide +kernel
theorem dX5_monotone_39 : decode cX5_monotone 39 = .ok (.getfield 7, 3) := by decide +kernel
theorem dX5_monotone_42 : decode cX5_monotone 42 = .ok (.bipush 8, 2) := by decide +kernel
theorem dX5_monotone_44 : decode cX5_monotone 44 = .ok (.iload_n 3, 1) := by decide +kernel
theorem dX5_monotone_45 : decode cX5_monotone 45 = .ok (.imul, 1) := by decide +kernel
theorem dX5_monotone_46 : decode cX5_monotone 46 = .ok (.iload_n 2, 1) := by decide +kernel
theorem dX5_monotone_47 : decode cX5_monotone 47 = .ok (.iadd, 1) := by decide +kernel
theorem dX5_monotone_48 : decode cX5_monotone 48 = .ok (.iaload, 1) := by decide +kernel
theorem dX5_monotone_49 : decode cX5_monotone 49 = .ok (.if_icmp .gt 7, 3) := by decide +kernel
theorem dX5_monotone_52 : decode cX5_monotone 52 = .ok (.iconst 1, 1) := by decide +kernel
theorem dX5_monotone_53 : decode cX5_monotone 53 = .ok (.goto 4, 3) := by decide +kernel
theorem dX5_monotone_56 : decode cX5_monotone 56 = .ok (.iconst 0, 1) := by decide +kernel
theorem dX5_monotone_57 : decode cX5_monotone 57 = .ok (.istore_n 1, 1) := by decide +kernel
theorem dX5_monotone_58 : decode cX5_monotone 58 = .ok (.iinc 3 1, 3) := by decide +kernel
theorem dX5_monotone_61 : decode cX5_monotone 61 = .ok (.goto (-49), 3) := by decide +kernel
theorem dX5_monotone_64 : decode cX5_monotone 64 = .ok (.iinc 2 1, 3) := by decide +kernel
theorem dX5_monotone_67 : decode cX5_monotone 67 = .ok (.goto (-63), 3) := by decide +kernel
theorem dX5_monotone_70 : decode cX5_monotone 70 = .ok (.iload_n 1, 1) := by decide +kernel
theorem dX5_monotone_71 : decode cX5_monotone 71 = .ok (.ifCond .eq 7, 3) := by decide +kernel
theorem dX5_monotone_74 : decode cX5_monotone 74 = .ok (.iconst 1, 1) := by decide +kernel
theorem dX5_monotone_75 : decode cX5_monotone 75 = .ok (.goto 4, 3) := by decide +kernel
theorem dX5_monotone_78 : decode cX5_monotone 78 = .ok (.iconst 0, 1) := by decide +kernel
theorem dX5_monotone_79 : decode cX5_monotone 79 = .ok (.ireturn, 1) := by decide +kernel
set_option maxRecDepth 20000 in
theorem ggX5_counted_X5_in : GoodIn wsX5_counted wsX5_in := goodIn_r _ [6] (by decide +kernel) (by decide +kernel)
set_option maxRecDepth 20000 in
theorem gX5_counted_X5_in : GoodIn wsX5_counted (va_wsS RX5 67 yX5_in wsX5_in) := goodIn_app (goodIn_of _ (by decide +kernel)) ggX5_counted_X5_in
set_option maxRecDepth 20000 in
theorem ggX5_counted_X5_isState : GoodIn wsX5_counted wsX5_isState := goodIn_r _ [10, 11, 3, 4, 5, 6, 25, 26, 27, 28, 29, 30, 31, 32, 33, 34, 35, 36, 37, 38, 39, 40, 41, 42, 43, 44] (by decide +kernel) (by decide +kernel)
set_option maxRecDepth 20000 in
theorem gX5_counted_X5_isState : GoodIn wsX5_counted (wsV RX5 95 RX5 yX5_isState wsX5_isState) := goodIn_app (goodIn_of _ (by decide +kernel)) ggX5_counted_X5_isState
set_option maxRecDepth 20000 in
theorem ggX5_counted_X5_begin : GoodIn wsX5_counted wsX5_begin := goodIn_r _ [15, 11, 2, 25, 26, 27, 28, 29, 30, 31, 32, 33, 34, 35, 36, 37, 38, 39, 40, 41, 42, 43, 44] (by decide +kernel) (by decide +kernel)
set_option maxRecDepth 20000 in
theorem gX5_counted_X5_begin : GoodIn wsX5_counted (wsV RX5 109 RX5 yX5_begin wsX5_begin) := goodIn_app (goodIn_of _ (by decide +kernel)) ggX5_counted_X5_begin
set_option maxRecDepth 20000 in
theorem ggX5_counted_X5_behind : GoodIn wsX5_counted wsX5_behind := goodIn_r _ [19, 11, 2, 20, 25, 26, 27, 28, 29, 30, 31, 32, 33, 34, 35, 36, 37, 38, 39, 40, 41, 42, 43, 44] (by decide +kernel) (by decide +kernel)
set_option maxRecDepth 20000 in
theorem gX5_counted_X5_behind : GoodIn wsX5_counted (wsV RX5 128 RX5 yX5_behind wsX5_behind) := goodIn_app (goodIn_of _ (by decide +kernel)) ggX5_counted_X5_behind
set_option maxRecDepth 20000 in
theorem ggX5_counted_X5_meets : GoodIn wsX5_counted wsX5_meets := goodIn_r _ [24, 11, 2, 25, 26, 27, 28, 29, 30, 31, 32, 33, 34, 35, 36, 37, 38, 39, 40, 41, 42, 43, 44] (by decide +kernel) (by decide +kernel)
set_option maxRecDepth 20000 in
theorem gX5_counted_X5_meets : GoodIn wsX5_counted (wsV RX5 116 RX5 yX5_meets wsX5_meets) := goodIn_app (goodIn_of _ (by decide +kernel)) ggX5_counted_X5_meets
theorem dX5_counted_0 : decode cX5_counted 0 = .ok (.iload_n 1, 1) := by decide +kernel
theorem dX5_counted_1 : decode cX5_counted 1 = .ok (.i2l, 1) := by decide +kernel
theorem dX5_counted_2 : decode cX5_counted 2 = .ok (.lconst 1, 1) := by decide +kernel
theorem dX5_counted_3 : decode cX5_counted 3 = .ok (.ldc2_w 126, 3) := by decide +kernel
theorem dX5_counted_6 : decode cX5_counted 6 = .ok (.invokestatic 67, 3) := by decide +kernel
theorem dX5_counted_9 : decode cX5_counted 9 = .ok (.ifCond .eq 16, 3) := by decide +kernel
theorem dX5_counted_12 : decode cX5_counted 12 = .ok (.iload_n 2, 1) := by decide +kernel
theorem dX5_counted_13 : decode cX5_counted 13 = .ok (.iconst (-1), 1) := by decide +kernel
theorem dX5_counted_14 : decode cX5_counted 14 = .ok (.if_icmp .eq 13, 3) := by decide +kernel
theorem dX5_counted_17 : decode cX5_counted 17 = .ok (.aload_n 0, 1) := by decide +kernel
theorem dX5_counted_18 : decode cX5_counted 18 = .ok (.iload_n 2, 1) := by decide +kernel
theorem dX5_counted_19 : decode cX5_counted 19 = .ok (.invokevirtual 95, 3) := by decide +kernel
theorem dX5_counted_22 : decode cX5_counted 22 = .ok (.ifCond .ne 5, 3) := by decide +kernel
theorem dX5_counted_25 : decode cX5_counted 25 = .ok (.iconst (-1), 1) := by decide +kernel
theorem dX5_counted_26 : decode cX5_counted 26 = .ok (.ireturn, 1) := by decide +kernel
theorem dX5_counted_27 : decode cX5_counted 27 = .ok (.iconst 0, 1) := by decide +kernel
theorem dX5_counted_28 : decode cX5_counted 28 = .ok (.istore_n 3, 1) := by decide +kernel
theorem dX5_counted_29 : decode cX5_counted 29 = .ok (.iconst 0, 1) := by decide +kernel
theorem dX5_counted_30 : decode cX5_counted 30 = .ok (.istore 4, 2) := by decide +kernel
theorem dX5_counted_32 : decode cX5_counted 32 = .ok (.iload 4, 2) := by decide +kernel
theorem dX5_counted_34 : decode cX5_counted 34 = .ok (.iconst 1, 1) := by decide +kernel
theorem dX5_counted_35 : decode cX5_counted 35 = .ok (.iconst 3, 1) := by decide +kernel
theorem dX5_counted_36 : decode cX5_counted 36 = .ok (.iload_n 1, 1) := by decide +kernel
theorem dX5_counted_37 : decode cX5_counted 37 = .ok (.imul, 1) := by decide +kernel
theorem dX5_counted_38 : decode cX5_counted 38 = .ok (.ishl, 1) := by decide +kernel
theorem dX5_counted_39 : decode cX5_counted 39 = .ok (.if_icmp .ge 71, 3) := by decide +kernel
theorem dX5_counted_42 : decode cX5_counted 42 = .ok (.aload_n 0, 1) := by decide +kernel
theorem dX5_counted_43 : decode cX5_counted 43 = .ok (.invokevirtual 109, 3) := by decide +kernel
theorem dX5_counted_46 : decode cX5_counted 46 = .ok (.iconst 0, 1) := by decide +kernel
theorem dX5_counted_47 : decode cX5_counted 47 = .ok (.istore 5, 2) := by decide +kernel
theorem dX5_counted_49 : decode cX5_counted 49 = .ok (.iload 5, 2) := by decide +kernel
theorem dX5_counted_51 : decode cX5_counted 51 = .ok (.iload_n 1, 1) := by decide +kernel
theorem dX5_counted_52 : decode cX5_counted 52 = .ok (.if_icmp .ge 23, 3) := by decide +kernel
theorem dX5_counted_55 : decode cX5_counted 55 = .ok (.aload_n 0, 1) := by decide +kernel
theorem dX5_counted_56 : decode cX5_counted 56 = .ok (.iload 4, 2) := by decide +kernel
theorem dX5_counted_58 : decode cX5_counted 58 = .ok (.iconst 3, 1) := by decide +kernel
theorem dX5_counted_59 : decode cX5_counted 59 = .ok (.iload 5, 2) := by decide +kernel
theorem dX5_counted_61 : decode cX5_counted 61 = .ok (.imul, 1) := by decide +kernel
theorem dX5_counted_62 : decode cX5_counted 62 = .ok (.ishr, 1) := by decide +kernel
theorem dX5_counted_63 : decode cX5_counted 63 = .ok (.bipush 7, 2) := by decide +kernel
theorem dX5_counted_65 : decode cX5_counted 65 = .ok (.iand, 1) := by decide +kernel
theorem dX5_counted_66 : decode cX5_counted 66 = .ok (.invokevirtual 128, 3) := by decide +kernel
theorem dX5_counted_69 : decode cX5_counted 69 = .ok (.iinc 5 1, 3) := by decide +kernel
theorem dX5_counted_72 : decode cX5_counted 72 = .ok (.goto (-23), 3) := by decide +kernel
theorem dX5_counted_75 : decode cX5_counted 75 = .ok (.iload_n 3, 1) := by decide +kernel
theorem dX5_counted_76 : decode cX5_counted 76 = .ok (.aload_n 0, 1) := by decide +kernel
theorem dX5_counted_77 : decode cX5_counted 77 = .ok (.invokevirtual 116, 3) := by decide +kernel
theorem dX5_counted_80 : decode cX5_counted 80 = .ok (.ifCond .eq 12, 3) := by decide +kernel
theorem dX5_counted_83 : decode cX5_counted 83 = .ok (.aload_n 0, 1) := by decide +kernel
theorem dX5_counted_84 : decode cX5_counted 84 = .ok (.getfield 30, 3) := by decide +kernel
theorem dX5_counted_87 : decode cX5_counted 87 = .ok (.iconst 0, 1) := by decide +kernel
theorem dX5_counted_88 : decode cX5_counted 88 = .ok (.iaload, 1) := by decide +kernel
theorem dX5_counted_89 : decode cX5_counted 89 = .ok (.goto 4, 3) := by decide +kernel
theorem dX5_counted_92 : decode cX5_counted 92 = .ok (.iconst (-1), 1) := by decide +kernel
theorem dX5_counted_93 : decode cX5_counted 93 = .ok (.iload_n 2, 1) := by decide +kernel
theorem dX5_counted_94 : decode cX5_counted 94 = .ok (.if_icmp .ne 7, 3) := by decide +kernel
theorem dX5_counted_97 : decode cX5_counted 97 = .ok (.iconst 1, 1) := by decide +kernel
theorem dX5_counted_98 : decode cX5_counted 98 = .ok (.goto 4, 3) := by decide +kernel
theorem dX5_counted_101 : decode cX5_counted 101 = .ok (.iconst 0, 1) := by decide +kernel
theorem dX5_counted_102 : decode cX5_counted 102 = .ok (.iadd, 1) := by decide +kernel
theorem dX5_counted_103 : decode cX5_counted 103 = .ok (.istore_n 3, 1) := by decide +kernel
theorem dX5_counted_104 : decode cX5_counted 104 = .ok (.iinc 4 1, 3) := by decide +kernel
theorem dX5_counted_107 : decode cX5_counted 107 = .ok (.goto (-75), 3) := by decide +kernel
theorem dX5_counted_110 : decode cX5_counted 110 = .ok (.iload_n 3, 1) := by decide +kernel
theorem dX5_counted_111 : decode cX5_counted 111 = .ok (.ireturn, 1) := by decide +kernel
set_option maxRecDepth 20000 in
theorem ggX5_treesOf_X5_cellOf : GoodIn wsX5_treesOf wsX5_cellOf := goodIn_r _ [7, 8, 13, 14, 15, 16, 17, 18, 19, 20, 21, 22, 23, 24, 25, 26, 27, 28, 29, 30, 31, 32] (by decide +kernel) (by decide +kernel)
set_option maxRecDepth 20000 in
theorem gX5_treesOf_X5_cellOf : GoodIn wsX5_treesOf (wsV RX5 131 RX5 yX5_cellOf wsX5_cellOf) := goodIn_app (goodIn_of _ (by decide +kernel)) ggX5_treesOf_X5_cellOf
set_option maxRecDepth 20000 in
theorem ggX5_treesOf_X5_determinant : GoodIn wsX5_treesOf wsX5_determinant := goodIn_r _ [12, 2, 13, 14, 15, 16, 17, 18, 19, 20, 21, 22, 23, 24, 25, 26, 27, 28, 29, 30, 31, 32] (by decide +kernel) (by decide +kernel)
set_option maxRecDepth 20000 in
theorem gX5_treesOf_X5_determinant : GoodIn wsX5_treesOf (wsV RX5 135 RX5 yX5_determinant wsX5_determinant) := goodIn_app (goodIn_of _ (by decide +kernel)) ggX5_treesOf_X5_determinant
theorem dX5_treesOf_0 : decode cX5_treesOf 0 = .ok (.iconst 0, 1) := by decide +kernel
theorem dX5_treesOf_1 : decode cX5_treesOf 1 = .ok (.istore_n 2, 1) := by decide +kernel
theorem dX5_treesOf_2 : decode cX5_treesOf 2 = .ok (.iconst 0, 1) := by decide +kernel
theorem dX5_treesOf_3 : decode cX5_treesOf 3 = .ok (.istore_n 3, 1) := by decide +kernel
theorem dX5_treesOf_4 : decode cX5_treesOf 4 = .ok (.iload_n 3, 1) := by decide +kernel
theorem dX5_treesOf_5 : decode cX5_treesOf 5 = .ok (.aload_n 0, 1) := by decide +kernel
theorem dX5_treesOf_6 : decode cX5_treesOf 6 = .ok (.getfield 64, 3) := by decide +kernel
theorem dX5_treesOf_9 : decode cX5_treesOf 9 = .ok (.if_icmp .ge 69, 3) := by decide +kernel
theorem dX5_treesOf_12 : decode cX5_treesOf 12 = .ok (.iload_n 3, 1) := by decide +kernel
theorem dX5_treesOf_13 : decode cX5_treesOf 13 = .ok (.iload_n 1, 1) := by decide +kernel
theorem dX5_treesOf_14 : decode cX5_treesOf 14 = .ok (.if_icmp .ne 6, 3) := by decide +kernel
theorem dX5_treesOf_17 : decode cX5_treesOf 17 = .ok (.goto 55, 3) := by decide +kernel
theorem dX5_treesOf_20 : decode cX5_treesOf 20 = .ok (.iconst 0, 1) := by decide +kernel
theorem dX5_treesOf_21 : decode cX5_treesOf 21 = .ok (.istore 4, 2) := by decide +kernel
theorem dX5_treesOf_23 : decode cX5_treesOf 23 = .ok (.iconst 0, 1) := by decide +kernel
theorem dX5_treesOf_24 : decode cX5_treesOf 24 = .ok (.istore 5, 2) := by decide +kernel
theorem dX5_treesOf_26 : decode cX5_treesOf 26 = .ok (.iload 5, 2) := by decide +kernel
theorem dX5_treesOf_28 : decode cX5_treesOf 28 = .ok (.aload_n 0, 1) := by decide +kernel
theorem dX5_treesOf_29 : decode cX5_treesOf 29 = .ok (.getfield 64, 3) := by decide +kernel
theorem dX5_treesOf_32 : decode cX5_treesOf 32 = .ok (.if_icmp .ge 37, 3) := by decide +kernel
theorem dX5_treesOf_35 : decode cX5_treesOf 35 = .ok (.iload 5, 2) := by decide +kernel
theorem dX5_treesOf_37 : decode cX5_treesOf 37 = .ok (.iload_n 1, 1) := by decide +kernel
theorem dX5_treesOf_38 : decode cX5_treesOf 38 = .ok (.if_icmp .eq 25, 3) := by decide +kernel
theorem dX5_treesOf_41 : decode cX5_treesOf 41 = .ok (.aload_n 0, 1) := by decide +kernel
theorem dX5_treesOf_42 : decode cX5_treesOf 42 = .ok (.getfield 42, 3) := by decide +kernel
theorem dX5_treesOf_45 : decode cX5_treesOf 45 = .ok (.bipush 12, 2) := by decide +kernel
theorem dX5_treesOf_47 : decode cX5_treesOf 47 = .ok (.iload_n 2, 1) := by decide +kernel
theorem dX5_treesOf_48 : decode cX5_treesOf 48 = .ok (.imul, 1) := by decide +kernel
theorem dX5_treesOf_49 : decode cX5_treesOf 49 = .ok (.iload 4, 2) := by decide +kernel
theorem dX5_treesOf_51 : decode cX5_treesOf 51 = .ok (.iadd, 1) := by decide +kernel
theorem dX5_treesOf_52 : decode cX5_treesOf 52 = .ok (.aload_n 0, 1) := by decide +kernel
theorem dX5_treesOf_53 : decode cX5_treesOf 53 = .ok (.iload_n 3, 1) := by decide +kernel
theorem dX5_treesOf_54 : decode cX5_treesOf 54 = .ok (.iload 5, 2) := by decide +kernel
theorem dX5_treesOf_56 : decode cX5_treesOf 56 = .ok (.invokevirtual 131, 3) := by decide +kernel
theorem dX5_treesOf_59 : decode cX5_treesOf 59 = .ok (.lastore, 1) := by decide +kernel
theorem dX5_treesOf_60 : decode cX5_treesOf 60 = .ok (.iinc 4 1, 3) := by decide +kernel
theorem dX5_treesOf_63 : decode cX5_treesOf 63 = .ok (.iinc 5 1, 3) := by decide +kernel
theorem dX5_treesOf_66 : decode cX5_treesOf 66 = .ok (.goto (-40), 3) := by decide +kernel
theorem dX5_treesOf_69 : decode cX5_treesOf 69 = .ok (.iinc 2 1, 3) := by decide +kernel
theorem dX5_treesOf_72 : decode cX5_treesOf 72 = .ok (.iinc 3 1, 3) := by decide +kernel
theorem dX5_treesOf_75 : decode cX5_treesOf 75 = .ok (.goto (-71), 3) := by decide +kernel
theorem dX5_treesOf_78 : decode cX5_treesOf 78 = .ok (.aload_n 0, 1) := by decide +kernel
theorem dX5_treesOf_79 : decode cX5_treesOf 79 = .ok (.iload_n 2, 1) := by decide +kernel
theorem dX5_treesOf_80 : decode cX5_treesOf 80 = .ok (.invokevirtual 135, 3) := by decide +kernel
theorem dX5_treesOf_83 : decode cX5_treesOf 83 = .ok (.lreturn, 1) := by decide +kernel
theorem dX5_cellOf_0 : decode cX5_cellOf 0 = .ok (.iconst 0, 1) := by decide +kernel
theorem dX5_cellOf_1 : decode cX5_cellOf 1 = .ok (.istore_n 3, 1) := by decide +kernel
theorem dX5_cellOf_2 : decode cX5_cellOf 2 = .ok (.iconst 0, 1) := by decide +kernel
theorem dX5_cellOf_3 : decode cX5_cellOf 3 = .ok (.istore 4, 2) := by decide +kernel
theorem dX5_cellOf_5 : decode cX5_cellOf 5 = .ok (.iload 4, 2) := by decide +kernel
theorem dX5_cellOf_7 : decode cX5_cellOf 7 = .ok (.bipush 8, 2) := by decide +kernel
theorem dX5_cellOf_9 : decode cX5_cellOf 9 = .ok (.if_icmp .ge 56, 3) := by decide +kernel
theorem dX5_cellOf_12 : decode cX5_cellOf 12 = .ok (.aload_n 0, 1) := by decide +kernel
theorem dX5_cellOf_13 : decode cX5_cellOf 13 = .ok (.getfield 7, 3) := by decide +kernel
theorem dX5_cellOf_16 : decode cX5_cellOf 16 = .ok (.bipush 8, 2) := by decide +kernel
theorem dX5_cellOf_18 : decode cX5_cellOf 18 = .ok (.iload_n 1, 1) := by decide +kernel
theorem dX5_cellOf_19 : decode cX5_cellOf 19 = .ok (.imul, 1) := by decide +kernel
theorem dX5_cellOf_20 : decode cX5_cellOf 20 = .ok (.iload 4, 2) := by decide +kernel
theorem dX5_cellOf_22 : decode cX5_cellOf 22 = .ok (.iadd, 1) := by decide +kernel
theorem dX5_cellOf_23 : decode cX5_cellOf 23 = .ok (.iaload, 1) := by decide +kernel
theorem dX5_cellOf_24 : decode cX5_cellOf 24 = .ok (.istore 5, 2) := by decide +kernel
theorem dX5_cellOf_26 : decode cX5_cellOf 26 = .ok (.iload_n 3, 1) := by decide +kernel
theorem dX5_cellOf_27 : decode cX5_cellOf 27 = .ok (.iload_n 1, 1) := by decide +kernel
theorem dX5_cellOf_28 : decode cX5_cellOf 28 = .ok (.iload_n 2, 1) := by decide +kernel
theorem dX5_cellOf_29 : decode cX5_cellOf 29 = .ok (.if_icmp .ne 17, 3) := by decide +kernel
theorem dX5_cellOf_32 : decode cX5_cellOf 32 = .ok (.iload 5, 2) := by decide +kernel
theorem dX5_cellOf_34 : decode cX5_cellOf 34 = .ok (.iload_n 1, 1) := by decide +kernel
theorem dX5_cellOf_35 : decode cX5_cellOf 35 = .ok (.if_icmp .eq 7, 3) := by decide +kernel
theorem dX5_cellOf_38 : decode cX5_cellOf 38 = .ok (.iconst 1, 1) := by decide +kernel
theorem dX5_cellOf_39 : decode cX5_cellOf 39 = .ok (.goto 18, 3) := by decide +kernel
theorem dX5_cellOf_42 : decode cX5_cellOf 42 = .ok (.iconst 0, 1) := by decide +kernel
theorem dX5_cellOf_43 : decode cX5_cellOf 43 = .ok (.goto 14, 3) := by decide +kernel
theorem dX5_cellOf_46 : decode cX5_cellOf 46 = .ok (.iload 5, 2) := by decide +kernel
theorem dX5_cellOf_48 : decode cX5_cellOf 48 = .ok (.iload_n 2, 1) := by decide +kernel
theorem dX5_cellOf_49 : decode cX5_cellOf 49 = .ok (.if_icmp .ne 7, 3) := by decide +kernel
theorem dX5_cellOf_52 : decode cX5_cellOf 52 = .ok (.iconst (-1), 1) := by decide +kernel
theorem dX5_cellOf_53 : decode cX5_cellOf 53 = .ok (.goto 4, 3) := by decide +kernel
theorem dX5_cellOf_56 : decode cX5_cellOf 56 = .ok (.iconst 0, 1) := by decide +kernel
theorem dX5_cellOf_57 : decode cX5_cellOf 57 = .ok (.iadd, 1) := by decide +kernel
theorem dX5_cellOf_58 : decode cX5_cellOf 58 = .ok (.istore_n 3, 1) := by decide +kernel
theorem dX5_cellOf_59 : decode cX5_cellOf 59 = .ok (.iinc 4 1, 3) := by decide +kernel
theorem dX5_cellOf_62 : decode cX5_cellOf 62 = .ok (.goto (-57), 3) := by decide +kernel
theorem dX5_cellOf_65 : decode cX5_cellOf 65 = .ok (.iload_n 3, 1) := by decide +kernel
theorem dX5_cellOf_66 : decode cX5_cellOf 66 = .ok (.i2l, 1) := by decide +kernel
theorem dX5_cellOf_67 : decode cX5_cellOf 67 = .ok (.lreturn, 1) := by decide +kernel
theorem dX5_determinant_0 : decode cX5_determinant 0 = .ok (.lconst 1, 1) := by decide +kernel
theorem dX5_determinant_1 : decode cX5_determinant 1 = .ok (.lstore_n 2, 1) := by decide +kernel
theorem dX5_determinant_2 : decode cX5_determinant 2 = .ok (.lconst 1, 1) := by decide +kernel
theorem dX5_determinant_3 : decode cX5_determinant 3 = .ok (.lstore 4, 2) := by decide +kernel
theorem dX5_determinant_5 : decode cX5_determinant 5 = .ok (.iconst 0, 1) := by decide +kernel
theorem dX5_determinant_6 : decode cX5_determinant 6 = .ok (.istore 6, 2) := by decide +kernel
theorem dX5_determinant_8 : decode cX5_determinant 8 = .ok (.iload 6, 2) := by decide +kernel
theorem dX5_determinant_10 : decode cX5_determinant 10 = .ok (.iload_n 1, 1) := by decide +kernel
theorem dX5_determinant_11 : decode cX5_determinant 11 = .ok (.if_icmp .ge 266, 3) := by decide +kernel
theorem dX5_determinant_14 : decode cX5_determinant 14 = .ok (.iload 6, 2) := by decide +kernel
theorem dX5_determinant_16 : decode cX5_determinant 16 = .ok (.istore 7, 2) := by decide +kernel
theorem dX5_determinant_18 : decode cX5_determinant 18 = .ok (.iload 7, 2) := by decide +kernel
theorem dX5_determinant_20 : decode cX5_determinant 20 = .ok (.iload_n 1, 1) := by decide +kernel
theorem dX5_determinant_21 : decode cX5_determinant 21 = .ok (.if_icmp .ge 27, 3) := by decide +kernel
theorem dX5_determinant_24 : decode cX5_determinant 24 = .ok (.aload_n 0, 1) := by decide +kernel
theorem dX5_determinant_25 : decode cX5_determinant 25 = .ok (.getfield 42, 3) := by decide +kernel
theorem dX5_determinant_28 : decode cX5_determinant 28 = .ok (.bipush 12, 2) := by decide +kernel
theorem dX5_determinant_30 : decode cX5_determinant 30 = .ok (.iload 7, 2) := by decide +kernel
theorem dX5_determinant_32 : decode cX5_determinant 32 = .ok (.imul, 1) := by decide +kernel
theorem dX5_determinant_33 : decode cX5_determinant 33 = .ok (.iload 6, 2) := by decide +kernel
theorem dX5_determinant_35 : decode cX5_determinant 35 = .ok (.iadd, 1) := by decide +kernel
theorem dX5_determinant_36 : decode cX5_determinant 36 = .ok (.laload, 1) := by decide +kernel
theorem dX5_determinant_37 : decode cX5_determinant 37 = .ok (.lconst 0, 1) := by decide +kernel
theorem dX5_determinant_38 : decode cX5_determinant 38 = .ok (.lcmp, 1) := by decide +kernel
theorem dX5_determinant_39 : decode cX5_determinant 39 = .ok (.ifCond .ne 9, 3) := by decide +kernel
theorem dX5_determinant_42 : decode cX5_determinant 42 = .ok (.iinc 7 1, 3) := by decide +kernel
theorem dX5_determinant_45 : decode cX5_determinant 45 = .ok (.goto (-27), 3) := by decide +kernel
theorem dX5_determinant_48 : decode cX5_determinant 48 = .ok (.iload 7, 2) := by decide +kernel
theorem dX5_determinant_50 : decode cX5_determinant 50 = .ok (.iload_n 1, 1) := by decide +kernel
theorem dX5_determinant_51 : decode cX5_determinant 51 = .ok (.if_icmp .ne 5, 3) := by decide +kernel
theorem dX5_determinant_54 : decode cX5_determinant 54 = .ok (.lconst 0, 1) := by decide +kernel
theorem dX5_determinant_55 : decode cX5_determinant 55 = .ok (.lreturn, 1) := by decide +kernel
theorem dX5_determinant_56 : decode cX5_determinant 56 = .ok (.iconst 0, 1) := by decide +kernel
theorem dX5_determinant_57 : decode cX5_determinant 57 = .ok (.istore 8, 2) := by decide +kernel
theorem dX5_determinant_59 : decode cX5_determinant 59 = .ok (.iload 8, 2) := by decide +kernel
theorem dX5_determinant_61 : decode cX5_determinant 61 = .ok (.iload_n 1, 1) := by decide +kernel
theorem dX5_determinant_62 : decode cX5_determinant 62 = .ok (.if_icmp .ge 72, 3) := by decide +kernel
theorem dX5_determinant_65 : decode cX5_determinant 65 = .ok (.iload 7, 2) := by decide +kernel
theorem dX5_determinant_67 : decode cX5_determinant 67 = .ok (.iload 6, 2) := by decide +kernel
theorem dX5_determinant_69 : decode cX5_determinant 69 = .ok (.if_icmp .eq 65, 3) := by decide +kernel
theorem dX5_determinant_72 : decode cX5_determinant 72 = .ok (.aload_n 0, 1) := by decide +kernel
theorem dX5_determinant_73 : decode cX5_determinant 73 = .ok (.getfield 42, 3) := by decide +kernel
theorem dX5_determinant_76 : decode cX5_determinant 76 = .ok (.bipush 12, 2) := by decide +kernel
theorem dX5_determinant_78 : decode cX5_determinant 78 = .ok (.iload 7, 2) := by decide +kernel
theorem dX5_determinant_80 : decode cX5_determinant 80 = .ok (.imul, 1) := by decide +kernel
theorem dX5_determinant_81 : decode cX5_determinant 81 = .ok (.iload 8, 2) := by decide +kernel
theorem dX5_determinant_83 : decode cX5_determinant 83 = .ok (.iadd, 1) := by decide +kernel
theorem dX5_determinant_84 : decode cX5_determinant 84 = .ok (.laload, 1) := by decide +kernel
theorem dX5_determinant_85 : decode cX5_determinant 85 = .ok (.lstore 9, 2) := by decide +kernel
theorem dX5_determinant_87 : decode cX5_determinant 87 = .ok (.aload_n 0, 1) := by decide +kernel
theorem dX5_determinant_88 : decode cX5_determinant 88 = .ok (.getfield 42, 3) := by decide +kernel
theorem dX5_determinant_91 : decode cX5_determinant 91 = .ok (.bipush 12, 2) := by decide +kernel
theorem dX5_determinant_93 : decode cX5_determinant 93 = .ok (.iload 7, 2) := by decide +kernel
theorem dX5_determinant_95 : decode cX5_determinant 95 = .ok (.imul, 1) := by decide +kernel
theorem dX5_determinant_96 : decode cX5_determinant 96 = .ok (.iload 8, 2) := by decide +kernel
theorem dX5_determinant_98 : decode cX5_determinant 98 = .ok (.iadd, 1) := by decide +kernel
theorem dX5_determinant_99 : decode cX5_determinant 99 = .ok (.aload_n 0, 1) := by decide +kernel
theorem dX5_determinant_100 : decode cX5_determinant 100 = .ok (.getfield 42, 3) := by decide +kernel
theorem dX5_determinant_103 : decode cX5_determinant 103 = .ok (.bipush 12, 2) := by decide +kernel
theorem dX5_determinant_105 : decode cX5_determinant 105 = .ok (.iload 6, 2) := by decide +kernel
theorem dX5_determinant_107 : decode cX5_determinant 107 = .ok (.imul, 1) := by decide +kernel
theorem dX5_determinant_108 : decode cX5_determinant 108 = .ok (.iload 8, 2) := by decide +kernel
theorem dX5_determinant_110 : decode cX5_determinant 110 = .ok (.iadd, 1) := by decide +kernel
theorem dX5_determinant_111 : decode cX5_determinant 111 = .ok (.laload, 1) := by decide +kernel
theorem dX5_determinant_112 : decode cX5_determinant 112 = .ok (.lastore, 1) := by decide +kernel
theorem dX5_determinant_113 : decode cX5_determinant 113 = .ok (.aload_n 0, 1) := by decide +kernel
theorem dX5_determinant_114 : decode cX5_determinant 114 = .ok (.getfield 42, 3) := by decide +kernel
theorem dX5_determinant_117 : decode cX5_determinant 117 = .ok (.bipush 12, 2) := by decide +kernel
theorem dX5_determinant_119 : decode cX5_determinant 119 = .ok (.iload 6, 2) := by decide +kernel
theorem dX5_determinant_121 : decode cX5_determinant 121 = .ok (.imul, 1) := by decide +kernel
theorem dX5_determinant_122 : decode cX5_determinant 122 = .ok (.iload 8, 2) := by decide +kernel
theorem dX5_determinant_124 : decode cX5_determinant 124 = .ok (.iadd, 1) := by decide +kernel
theorem dX5_determinant_125 : decode cX5_determinant 125 = .ok (.lload 9, 2) := by decide +kernel
theorem dX5_determinant_127 : decode cX5_determinant 127 = .ok (.lastore, 1) := by decide +kernel
theorem dX5_determinant_128 : decode cX5_determinant 128 = .ok (.iinc 8 1, 3) := by decide +kernel
theorem dX5_determinant_131 : decode cX5_determinant 131 = .ok (.goto (-72), 3) := by decide +kernel
theorem dX5_determinant_134 : decode cX5_determinant 134 = .ok (.iload 7, 2) := by decide +kernel
theorem dX5_determinant_136 : decode cX5_determinant 136 = .ok (.iload 6, 2) := by decide +kernel
theorem dX5_determinant_138 : decode cX5_determinant 138 = .ok (.if_icmp .ne 8, 3) := by decide +kernel
theorem dX5_determinant_141 : decode cX5_determinant 141 = .ok (.lload 4, 2) := by decide +kernel
theorem dX5_determinant_143 : decode cX5_determinant 143 = .ok (.goto 6, 3) := by decide +kernel
theorem dX5_determinant_146 : decode cX5_determinant 146 = .ok (.lload 4, 2) := by decide +kernel
theorem dX5_determinant_148 : decode cX5_determinant 148 = .ok (.lneg, 1) := by decide +kernel
theorem dX5_determinant_149 : decode cX5_determinant 149 = .ok (.lstore 4, 2) := by decide +kernel
theorem dX5_determinant_151 : decode cX5_determinant 151 = .ok (.iload 6, 2) := by decide +kernel
theorem dX5_determinant_153 : decode cX5_determinant 153 = .ok (.iconst 1, 1) := by decide +kernel
theorem dX5_determinant_154 : decode cX5_determinant 154 = .ok (.iadd, 1) := by decide +kernel
theorem dX5_determinant_155 : decode cX5_determinant 155 = .ok (.istore 8, 2) := by decide +kernel
theorem dX5_determinant_157 : decode cX5_determinant 157 = .ok (.iload 8, 2) := by decide +kernel
theorem dX5_determinant_159 : decode cX5_determinant 159 = .ok (.iload_n 1, 1) := by decide +kernel
theorem dX5_determinant_160 : decode cX5_determinant 160 = .ok (.if_icmp .ge 97, 3) := by decide +kernel
theorem dX5_determinant_163 : decode cX5_determinant 163 = .ok (.iload 6, 2) := by decide +kernel
theorem dX5_determinant_165 : decode cX5_determinant 165 = .ok (.iconst 1, 1) := by decide +kernel
theorem dX5_determinant_166 : decode cX5_determinant 166 = .ok (.iadd, 1) := by decide +kernel
theorem dX5_determinant_167 : decode cX5_determinant 167 = .ok (.istore 9, 2) := by decide +kernel
theorem dX5_determinant_169 : decode cX5_determinant 169 = .ok (.iload 9, 2) := by decide +kernel
theorem dX5_determinant_171 : decode cX5_determinant 171 = .ok (.iload_n 1, 1) := by decide +kernel
theorem dX5_determinant_172 : decode cX5_determinant 172 = .ok (.if_icmp .ge 79, 3) := by decide +kernel
theorem dX5_determinant_175 : decode cX5_determinant 175 = .ok (.aload_n 0, 1) := by decide +kernel
theorem dX5_determinant_176 : decode cX5_determinant 176 = .ok (.getfield 42, 3) := by decide +kernel
theorem dX5_determinant_179 : decode cX5_determinant 179 = .ok (.bipush 12, 2) := by decide +kernel
theorem dX5_determinant_181 : decode cX5_determinant 181 = .ok (.iload 8, 2) := by decide +kernel
theorem dX5_determinant_183 : decode cX5_determinant 183 = .ok (.imul, 1) := by decide +kernel
theorem dX5_determinant_184 : decode cX5_determinant 184 = .ok (.iload 9, 2) := by decide +kernel
theorem dX5_determinant_186 : decode cX5_determinant 186 = .ok (.iadd, 1) := by decide +kernel
theorem dX5_determinant_187 : decode cX5_determinant 187 = .ok (.aload_n 0, 1) := by decide +kernel
theorem dX5_determinant_188 : decode cX5_determinant 188 = .ok (.getfield 42, 3) := by decide +kernel
theorem dX5_determinant_191 : decode cX5_determinant 191 = .ok (.bipush 12, 2) := by decide +kernel
theorem dX5_determinant_193 : decode cX5_determinant 193 = .ok (.iload 8, 2) := by decide +kernel
theorem dX5_determinant_195 : decode cX5_determinant 195 = .ok (.imul, 1) := by decide +kernel
theorem dX5_determinant_196 : decode cX5_determinant 196 = .ok (.iload 9, 2) := by decide +kernel
theorem dX5_determinant_198 : decode cX5_determinant 198 = .ok (.iadd, 1) := by decide +kernel
theorem dX5_determinant_199 : decode cX5_determinant 199 = .ok (.laload, 1) := by decide +kernel
theorem dX5_determinant_200 : decode cX5_determinant 200 = .ok (.aload_n 0, 1) := by decide +kernel
theorem dX5_determinant_201 : decode cX5_determinant 201 = .ok (.getfield 42, 3) := by decide +kernel
theorem dX5_determinant_204 : decode cX5_determinant 204 = .ok (.bipush 12, 2) := by decide +kernel
theorem dX5_determinant_206 : decode cX5_determinant 206 = .ok (.iload 6, 2) := by decide +kernel
theorem dX5_determinant_208 : decode cX5_determinant 208 = .ok (.imul, 1) := by decide +kernel
theorem dX5_determinant_209 : decode cX5_determinant 209 = .ok (.iload 6, 2) := by decide +kernel
theorem dX5_determinant_211 : decode cX5_determinant 211 = .ok (.iadd, 1) := by decide +kernel
theorem dX5_determinant_212 : decode cX5_determinant 212 = .ok (.laload, 1) := by decide +kernel
theorem dX5_determinant_213 : decode cX5_determinant 213 = .ok (.lmul, 1) := by decide +kernel
theorem dX5_determinant_214 : decode cX5_determinant 214 = .ok (.aload_n 0, 1) := by decide +kernel
theorem dX5_determinant_215 : decode cX5_determinant 215 = .ok (.getfield 42, 3) := by decide +kernel
theorem dX5_determinant_218 : decode cX5_determinant 218 = .ok (.bipush 12, 2) := by decide +kernel
theorem dX5_determinant_220 : decode cX5_determinant 220 = .ok (.iload 8, 2) := by decide +kernel
theorem dX5_determinant_222 : decode cX5_determinant 222 = .ok (.imul, 1) := by decide +kernel
theorem dX5_determinant_223 : decode cX5_determinant 223 = .ok (.iload 6, 2) := by decide +kernel
theorem dX5_determinant_225 : decode cX5_determinant 225 = .ok (.iadd, 1) := by decide +kernel
theorem dX5_determinant_226 : decode cX5_determinant 226 = .ok (.laload, 1) := by decide +kernel
theorem dX5_determinant_227 : decode cX5_determinant 227 = .ok (.aload_n 0, 1) := by decide +kernel
theorem dX5_determinant_228 : decode cX5_determinant 228 = .ok (.getfield 42, 3) := by decide +kernel
theorem dX5_determinant_231 : decode cX5_determinant 231 = .ok (.bipush 12, 2) := by decide +kernel
theorem dX5_determinant_233 : decode cX5_determinant 233 = .ok (.iload 6, 2) := by decide +kernel
theorem dX5_determinant_235 : decode cX5_determinant 235 = .ok (.imul, 1) := by decide +kernel
theorem dX5_determinant_236 : decode cX5_determinant 236 = .ok (.iload 9, 2) := by decide +kernel
theorem dX5_determinant_238 : decode cX5_determinant 238 = .ok (.iadd, 1) := by decide +kernel
theorem dX5_determinant_239 : decode cX5_determinant 239 = .ok (.laload, 1) := by decide +kernel
theorem dX5_determinant_240 : decode cX5_determinant 240 = .ok (.lmul, 1) := by decide +kernel
theorem dX5_determinant_241 : decode cX5_determinant 241 = .ok (.lsub, 1) := by decide +kernel
theorem dX5_determinant_242 : decode cX5_determinant 242 = .ok (.lload_n 2, 1) := by decide +kernel
theorem dX5_determinant_243 : decode cX5_determinant 243 = .ok (.ldiv, 1) := by decide +kernel
theorem dX5_determinant_244 : decode cX5_determinant 244 = .ok (.lastore, 1) := by decide +kernel
theorem dX5_determinant_245 : decode cX5_determinant 245 = .ok (.iinc 9 1, 3) := by decide +kernel
theorem dX5_determinant_248 : decode cX5_determinant 248 = .ok (.goto (-79), 3) := by decide +kernel
theorem dX5_determinant_251 : decode cX5_determinant 251 = .ok (.iinc 8 1, 3) := by decide +kernel
theorem dX5_determinant_254 : decode cX5_determinant 254 = .ok (.goto (-97), 3) := by decide +kernel
theorem dX5_determinant_257 : decode cX5_determinant 257 = .ok (.aload_n 0, 1) := by decide +kernel
theorem dX5_determinant_258 : decode cX5_determinant 258 = .ok (.getfield 42, 3) := by decide +kernel
theorem dX5_determinant_261 : decode cX5_determinant 261 = .ok (.bipush 12, 2) := by decide +kernel
theorem dX5_determinant_263 : decode cX5_determinant 263 = .ok (.iload 6, 2) := by decide +kernel
theorem dX5_determinant_265 : decode cX5_determinant 265 = .ok (.imul, 1) := by decide +kernel
theorem dX5_determinant_266 : decode cX5_determinant 266 = .ok (.iload 6, 2) := by decide +kernel
theorem dX5_determinant_268 : decode cX5_determinant 268 = .ok (.iadd, 1) := by decide +kernel
theorem dX5_determinant_269 : decode cX5_determinant 269 = .ok (.laload, 1) := by decide +kernel
theorem dX5_determinant_270 : decode cX5_determinant 270 = .ok (.lstore_n 2, 1) := by decide +kernel
theorem dX5_determinant_271 : decode cX5_determinant 271 = .ok (.iinc 6 1, 3) := by decide +kernel
theorem dX5_determinant_274 : decode cX5_determinant 274 = .ok (.goto (-266), 3) := by decide +kernel
theorem dX5_determinant_277 : decode cX5_determinant 277 = .ok (.iload_n 1, 1) := by decide +kernel
theorem dX5_determinant_278 : decode cX5_determinant 278 = .ok (.ifCond .ne 7, 3) := by decide +kernel
theorem dX5_determinant_281 : decode cX5_determinant 281 = .ok (.lconst 1, 1) := by decide +kernel
theorem dX5_determinant_282 : decode cX5_determinant 282 = .ok (.goto 7, 3) := by decide +kernel
theorem dX5_determinant_285 : decode cX5_determinant 285 = .ok (.lload 4, 2) := by decide +kernel
theorem dX5_determinant_287 : decode cX5_determinant 287 = .ok (.lload_n 2, 1) := by decide +kernel
theorem dX5_determinant_288 : decode cX5_determinant 288 = .ok (.lmul, 1) := by decide +kernel
theorem dX5_determinant_289 : decode cX5_determinant 289 = .ok (.lreturn, 1) := by decide +kernel
set_option maxRecDepth 20000 in
theorem ggX5_trees_X5_isState : GoodIn wsX5_trees wsX5_isState := goodIn_r _ [7, 2, 8, 9, 6, 10, 25, 26, 27, 28, 29, 30, 31, 32, 33, 34, 35, 36, 37, 38, 39, 40, 41, 42, 43, 44] (by decide +kernel) (by decide +kernel)
set_option maxRecDepth 20000 in
theorem gX5_trees_X5_isState : GoodIn wsX5_trees (wsV RX5 95 RX5 yX5_isState wsX5_isState) := goodIn_app (goodIn_of _ (by decide +kernel)) ggX5_trees_X5_isState
set_option maxRecDepth 20000 in
theorem ggX5_trees_X5_treesOf : GoodIn wsX5_trees wsX5_treesOf := goodIn_r _ [14, 2, 15, 16, 17, 18, 6, 19, 20, 21, 22, 23, 24, 25, 26, 27, 28, 29, 30, 31, 32, 33, 34, 35, 36, 37, 38, 39, 40, 41, 42, 43, 44] (by decide +kernel) (by decide +kernel)
set_option maxRecDepth 20000 in
theorem gX5_trees_X5_treesOf : GoodIn wsX5_trees (wsV RX5 139 RX5 yX5_treesOf wsX5_treesOf) := goodIn_app (goodIn_of _ (by decide +kernel)) ggX5_trees_X5_treesOf
theorem dX5_trees_0 : decode cX5_trees 0 = .ok (.iload_n 1, 1) := by decide +kernel
theorem dX5_trees_1 : decode cX5_trees 1 = .ok (.iconst (-1), 1) := by decide +kernel
theorem dX5_trees_2 : decode cX5_trees 2 = .ok (.if_icmp .eq 15, 3) := by decide +kernel
theorem dX5_trees_5 : decode cX5_trees 5 = .ok (.aload_n 0, 1) := by decide +kernel
theorem dX5_trees_6 : decode cX5_trees 6 = .ok (.iload_n 1, 1) := by decide +kernel
theorem dX5_trees_7 : decode cX5_trees 7 = .ok (.invokevirtual 95, 3) := by decide +kernel
theorem dX5_trees_10 : decode cX5_trees 10 = .ok (.ifCond .ne 7, 3) := by decide +kernel
theorem dX5_trees_13 : decode cX5_trees 13 = .ok (.ldc2_w 89, 3) := by decide +kernel
theorem dX5_trees_16 : decode cX5_trees 16 = .ok (.lreturn, 1) := by decide +kernel
theorem dX5_trees_17 : decode cX5_trees 17 = .ok (.lconst 0, 1) := by decide +kernel
theorem dX5_trees_18 : decode cX5_trees 18 = .ok (.lstore_n 2, 1) := by decide +kernel
theorem dX5_trees_19 : decode cX5_trees 19 = .ok (.iconst 0, 1) := by decide +kernel
theorem dX5_trees_20 : decode cX5_trees 20 = .ok (.istore 4, 2) := by decide +kernel
theorem dX5_trees_22 : decode cX5_trees 22 = .ok (.iload 4, 2) := by decide +kernel
theorem dX5_trees_24 : decode cX5_trees 24 = .ok (.aload_n 0, 1) := by decide +kernel
theorem dX5_trees_25 : decode cX5_trees 25 = .ok (.getfield 64, 3) := by decide +kernel
theorem dX5_trees_28 : decode cX5_trees 28 = .ok (.if_icmp .ge 33, 3) := by decide +kernel
theorem dX5_trees_31 : decode cX5_trees 31 = .ok (.lload_n 2, 1) := by decide +kernel
theorem dX5_trees_32 : decode cX5_trees 32 = .ok (.iload_n 1, 1) := by decide +kernel
theorem dX5_trees_33 : decode cX5_trees 33 = .ok (.iconst (-1), 1) := by decide +kernel
theorem dX5_trees_34 : decode cX5_trees 34 = .ok (.if_icmp .eq 9, 3) := by decide +kernel
theorem dX5_trees_37 : decode cX5_trees 37 = .ok (.iload_n 1, 1) := by decide +kernel
theorem dX5_trees_38 : decode cX5_trees 38 = .ok (.iload 4, 2) := by decide +kernel
theorem dX5_trees_40 : decode cX5_trees 40 = .ok (.if_icmp .ne 12, 3) := by decide +kernel
theorem dX5_trees_43 : decode cX5_trees 43 = .ok (.aload_n 0, 1) := by decide +kernel
theorem dX5_trees_44 : decode cX5_trees 44 = .ok (.iload 4, 2) := by decide +kernel
theorem dX5_trees_46 : decode cX5_trees 46 = .ok (.invokevirtual 139, 3) := by decide +kernel
theorem dX5_trees_49 : decode cX5_trees 49 = .ok (.goto 4, 3) := by decide +kernel
theorem dX5_trees_52 : decode cX5_trees 52 = .ok (.lconst 0, 1) := by decide +kernel
theorem dX5_trees_53 : decode cX5_trees 53 = .ok (.ladd, 1) := by decide +kernel
theorem dX5_trees_54 : decode cX5_trees 54 = .ok (.lstore_n 2, 1) := by decide +kernel
theorem dX5_trees_55 : decode cX5_trees 55 = .ok (.iinc 4 1, 3) := by decide +kernel
theorem dX5_trees_58 : decode cX5_trees 58 = .ok (.goto (-36), 3) := by decide +kernel
theorem dX5_trees_61 : decode cX5_trees 61 = .ok (.lload_n 2, 1) := by decide +kernel
theorem dX5_trees_62 : decode cX5_trees 62 = .ok (.lreturn, 1) := by decide +kernel
set_option maxRecDepth 20000 in
theorem ggX5_once_X5_in : GoodIn wsX5_once wsX5_in := goodIn_r _ [7] (by decide +kernel) (by decide +kernel)
set_option maxRecDepth 20000 in
theorem gX5_once_X5_in : GoodIn wsX5_once (va_wsS RX5 67 yX5_in wsX5_in) := goodIn_app (goodIn_of _ (by decide +kernel)) ggX5_once_X5_in
set_option maxRecDepth 20000 in
theorem ggX5_once_X5_begin : GoodIn wsX5_once wsX5_begin := goodIn_r _ [11, 12, 3, 33, 34, 35, 36, 37, 38, 39, 40, 41, 42, 43, 44, 45, 46, 47, 48, 49, 50, 51, 52] (by decide +kernel) (by decide +kernel)
set_option maxRecDepth 20000 in
theorem gX5_once_X5_begin : GoodIn wsX5_once (wsV RX5 109 RX5 yX5_begin wsX5_begin) := goodIn_app (goodIn_of _ (by decide +kernel)) ggX5_once_X5_begin
set_option maxRecDepth 20000 in
theorem ggX5_once_X5_sign : GoodIn wsX5_once wsX5_sign := goodIn_r _ [16, 17, 18, 19, 6, 20, 21, 22, 23] (by decide +kernel) (by decide +kernel)
set_option maxRecDepth 20000 in
theorem gX5_once_X5_sign : GoodIn wsX5_once (wsV RX5 106 RX5 yX5_sign wsX5_sign) := goodIn_app (goodIn_of _ (by decide +kernel)) ggX5_once_X5_sign
set_option maxRecDepth 20000 in
theorem ggX5_once_X5_behind : GoodIn wsX5_once wsX5_behind := goodIn_r _ [27, 12, 3, 28, 33, 34, 35, 36, 37, 38, 39, 40, 41, 42, 43, 44, 45, 46, 47, 48, 49, 50, 51, 52] (by decide +kernel) (by decide +kernel)
set_option maxRecDepth 20000 in
theorem gX5_once_X5_behind : GoodIn wsX5_once (wsV RX5 128 RX5 yX5_behind wsX5_behind) := goodIn_app (goodIn_of _ (by decide +kernel)) ggX5_once_X5_behind
set_option maxRecDepth 20000 in
theorem ggX5_once_X5_meets : GoodIn wsX5_once wsX5_meets := goodIn_r _ [32, 12, 3, 33, 34, 35, 36, 37, 38, 39, 40, 41, 42, 43, 44, 45, 46, 47, 48, 49, 50, 51, 52] (by decide +kernel) (by decide +kernel)
set_option maxRecDepth 20000 in
theorem gX5_once_X5_meets : GoodIn wsX5_once (wsV RX5 116 RX5 yX5_meets wsX5_meets) := goodIn_app (goodIn_of _ (by decide +kernel)) ggX5_once_X5_meets
theorem dX5_once_0 : decode cX5_once 0 = .ok (.iload_n 2, 1) := by decide +kernel
theorem dX5_once_1 : decode cX5_once 1 = .ok (.i2l, 1) := by decide +kernel
theorem dX5_once_2 : decode cX5_once 2 = .ok (.lconst 1, 1) := by decide +kernel
theorem dX5_once_3 : decode cX5_once 3 = .ok (.ldc2_w 120, 3) := by decide +kernel
theorem dX5_once_6 : decode cX5_once 6 = .ok (.invokestatic 67, 3) := by decide +kernel
theorem dX5_once_9 : decode cX5_once 9 = .ok (.ifCond .eq 15, 3) := by decide +kernel
theorem dX5_once_12 : decode cX5_once 12 = .ok (.iload_n 3, 1) := by decide +kernel
theorem dX5_once_13 : decode cX5_once 13 = .ok (.i2l, 1) := by decide +kernel
theorem dX5_once_14 : decode cX5_once 14 = .ok (.lconst 0, 1) := by decide +kernel
theorem dX5_once_15 : decode cX5_once 15 = .ok (.ldc2_w 142, 3) := by decide +kernel
theorem dX5_once_18 : decode cX5_once 18 = .ok (.invokestatic 67, 3) := by decide +kernel
theorem dX5_once_21 : decode cX5_once 21 = .ok (.ifCond .ne 5, 3) := by decide +kernel
theorem dX5_once_24 : decode cX5_once 24 = .ok (.iconst (-1), 1) := by decide +kernel
theorem dX5_once_25 : decode cX5_once 25 = .ok (.ireturn, 1) := by decide +kernel
theorem dX5_once_26 : decode cX5_once 26 = .ok (.bipush (-2), 2) := by decide +kernel
theorem dX5_once_28 : decode cX5_once 28 = .ok (.istore 4, 2) := by decide +kernel
theorem dX5_once_30 : decode cX5_once 30 = .ok (.iconst 0, 1) := by decide +kernel
theorem dX5_once_31 : decode cX5_once 31 = .ok (.istore 5, 2) := by decide +kernel
theorem dX5_once_33 : decode cX5_once 33 = .ok (.iconst 0, 1) := by decide +kernel
theorem dX5_once_34 : decode cX5_once 34 = .ok (.istore 6, 2) := by decide +kernel
theorem dX5_once_36 : decode cX5_once 36 = .ok (.iload 6, 2) := by decide +kernel
theorem dX5_once_38 : decode cX5_once 38 = .ok (.sipush 500, 3) := by decide +kernel
theorem dX5_once_41 : decode cX5_once 41 = .ok (.if_icmp .ge 105, 3) := by decide +kernel
theorem dX5_once_44 : decode cX5_once 44 = .ok (.aload_n 0, 1) := by decide +kernel
theorem dX5_once_45 : decode cX5_once 45 = .ok (.invokevirtual 109, 3) := by decide +kernel
theorem dX5_once_48 : decode cX5_once 48 = .ok (.iconst 1, 1) := by decide +kernel
theorem dX5_once_49 : decode cX5_once 49 = .ok (.istore 7, 2) := by decide +kernel
theorem dX5_once_51 : decode cX5_once 51 = .ok (.iload 7, 2) := by decide +kernel
theorem dX5_once_53 : decode cX5_once 53 = .ok (.iload_n 2, 1) := by decide +kernel
theorem dX5_once_54 : decode cX5_once 54 = .ok (.if_icmp .gt 25, 3) := by decide +kernel
theorem dX5_once_57 : decode cX5_once 57 = .ok (.aload_n 0, 1) := by decide +kernel
theorem dX5_once_58 : decode cX5_once 58 = .ok (.aload_n 0, 1) := by decide +kernel
theorem dX5_once_59 : decode cX5_once 59 = .ok (.iload_n 1, 1) := by decide +kernel
theorem dX5_once_60 : decode cX5_once 60 = .ok (.iload_n 2, 1) := by decide +kernel
theorem dX5_once_61 : decode cX5_once 61 = .ok (.iload 6, 2) := by decide +kernel
theorem dX5_once_63 : decode cX5_once 63 = .ok (.imul, 1) := by decide +kernel
theorem dX5_once_64 : decode cX5_once 64 = .ok (.iload 7, 2) := by decide +kernel
theorem dX5_once_66 : decode cX5_once 66 = .ok (.iadd, 1) := by decide +kernel
theorem dX5_once_67 : decode cX5_once 67 = .ok (.invokevirtual 106, 3) := by decide +kernel
theorem dX5_once_70 : decode cX5_once 70 = .ok (.invokevirtual 128, 3) := by decide +kernel
theorem dX5_once_73 : decode cX5_once 73 = .ok (.iinc 7 1, 3) := by decide +kernel
theorem dX5_once_76 : decode cX5_once 76 = .ok (.goto (-25), 3) := by decide +kernel
theorem dX5_once_79 : decode cX5_once 79 = .ok (.aload_n 0, 1) := by decide +kernel
theorem dX5_once_80 : decode cX5_once 80 = .ok (.invokevirtual 116, 3) := by decide +kernel
theorem dX5_once_83 : decode cX5_once 83 = .ok (.istore 7, 2) := by decide +kernel
theorem dX5_once_85 : decode cX5_once 85 = .ok (.iload 7, 2) := by decide +kernel
theorem dX5_once_87 : decode cX5_once 87 = .ok (.ifCond .eq 20, 3) := by decide +kernel
theorem dX5_once_90 : decode cX5_once 90 = .ok (.iload 4, 2) := by decide +kernel
theorem dX5_once_92 : decode cX5_once 92 = .ok (.ifCond .lt 15, 3) := by decide +kernel
theorem dX5_once_95 : decode cX5_once 95 = .ok (.iload 5, 2) := by decide +kernel
theorem dX5_once_97 : decode cX5_once 97 = .ok (.iload_n 3, 1) := by decide +kernel
theorem dX5_once_98 : decode cX5_once 98 = .ok (.if_icmp .ne 6, 3) := by decide +kernel
theorem dX5_once_101 : decode cX5_once 101 = .ok (.iload 4, 2) := by decide +kernel
theorem dX5_once_103 : decode cX5_once 103 = .ok (.ireturn, 1) := by decide +kernel
theorem dX5_once_104 : decode cX5_once 104 = .ok (.iinc 5 1, 3) := by decide +kernel
theorem dX5_once_107 : decode cX5_once 107 = .ok (.iload 4, 2) := by decide +kernel
theorem dX5_once_109 : decode cX5_once 109 = .ok (.ifCond .lt 13, 3) := by decide +kernel
theorem dX5_once_112 : decode cX5_once 112 = .ok (.aload_n 0, 1) := by decide +kernel
theorem dX5_once_113 : decode cX5_once 113 = .ok (.getfield 30, 3) := by decide +kernel
theorem dX5_once_116 : decode cX5_once 116 = .ok (.iload 4, 2) := by decide +kernel
theorem dX5_once_118 : decode cX5_once 118 = .ok (.iaload, 1) := by decide +kernel
theorem dX5_once_119 : decode cX5_once 119 = .ok (.goto 19, 3) := by decide +kernel
theorem dX5_once_122 : decode cX5_once 122 = .ok (.iload 7, 2) := by decide +kernel
theorem dX5_once_124 : decode cX5_once 124 = .ok (.ifCond .eq 12, 3) := by decide +kernel
theorem dX5_once_127 : decode cX5_once 127 = .ok (.aload_n 0, 1) := by decide +kernel
theorem dX5_once_128 : decode cX5_once 128 = .ok (.getfield 30, 3) := by decide +kernel
theorem dX5_once_131 : decode cX5_once 131 = .ok (.iconst 0, 1) := by decide +kernel
theorem dX5_once_132 : decode cX5_once 132 = .ok (.iaload, 1) := by decide +kernel
theorem dX5_once_133 : decode cX5_once 133 = .ok (.goto 5, 3) := by decide +kernel
theorem dX5_once_136 : decode cX5_once 136 = .ok (.bipush (-2), 2) := by decide +kernel
theorem dX5_once_138 : decode cX5_once 138 = .ok (.istore 4, 2) := by decide +kernel
theorem dX5_once_140 : decode cX5_once 140 = .ok (.iinc 6 1, 3) := by decide +kernel
theorem dX5_once_143 : decode cX5_once 143 = .ok (.goto (-107), 3) := by decide +kernel
theorem dX5_once_146 : decode cX5_once 146 = .ok (.bipush (-2), 2) := by decide +kernel
theorem dX5_once_148 : decode cX5_once 148 = .ok (.ireturn, 1) := by decide +kernel
set_option maxRecDepth 20000 in
theorem ggX5_lead_X5_isState : GoodIn wsX5_lead wsX5_isState := goodIn_r _ [7, 8, 9, 10, 6, 11, 12, 13, 14, 15, 16, 17, 18, 19, 20, 21, 22, 23, 24, 25, 26, 27, 28, 29, 30, 31] (by decide +kernel) (by decide +kernel)
set_option maxRecDepth 20000 in
theorem gX5_lead_X5_isState : GoodIn wsX5_lead (wsV RX5 95 RX5 yX5_isState wsX5_isState) := goodIn_app (goodIn_of _ (by decide +kernel)) ggX5_lead_X5_isState
set_option maxRecDepth 20000 in
theorem ggX5_lead_X5_in : GoodIn wsX5_lead wsX5_in := goodIn_r _ [11] (by decide +kernel) (by decide +kernel)
set_option maxRecDepth 20000 in
theorem gX5_lead_X5_in : GoodIn wsX5_lead (va_wsS RX5 67 yX5_in wsX5_in) := goodIn_app (goodIn_of _ (by decide +kernel)) ggX5_lead_X5_in
theorem dX5_lead_0 : decode cX5_lead 0 = .ok (.aload_n 0, 1) := by decide +kernel
theorem dX5_lead_1 : decode cX5_lead 1 = .ok (.iload_n 1, 1) := by decide +kernel
theorem dX5_lead_2 : decode cX5_lead 2 = .ok (.invokevirtual 95, 3) := by decide +kernel
theorem dX5_lead_5 : decode cX5_lead 5 = .ok (.ifCond .eq 29, 3) := by decide +kernel
theorem dX5_lead_8 : decode cX5_lead 8 = .ok (.iload_n 2, 1) := by decide +kernel
theorem dX5_lead_9 : decode cX5_lead 9 = .ok (.i2l, 1) := by decide +kernel
theorem dX5_lead_10 : decode cX5_lead 10 = .ok (.lconst 0, 1) := by decide +kernel
theorem dX5_lead_11 : decode cX5_lead 11 = .ok (.ldc2_w 144, 3) := by decide +kernel
theorem dX5_lead_14 : decode cX5_lead 14 = .ok (.invokestatic 67, 3) := by decide +kernel
theorem dX5_lead_17 : decode cX5_lead 17 = .ok (.ifCond .eq 17, 3) := by decide +kernel
theorem dX5_lead_20 : decode cX5_lead 20 = .ok (.iload_n 3, 1) := by decide +kernel
theorem dX5_lead_21 : decode cX5_lead 21 = .ok (.bipush (-2), 2) := by decide +kernel
theorem dX5_lead_23 : decode cX5_lead 23 = .ok (.if_icmp .eq 13, 3) := by decide +kernel
theorem dX5_lead_26 : decode cX5_lead 26 = .ok (.aload_n 0, 1) := by decide +kernel
theorem dX5_lead_27 : decode cX5_lead 27 = .ok (.iload_n 3, 1) := by decide +kernel
theorem dX5_lead_28 : decode cX5_lead 28 = .ok (.invokevirtual 95, 3) := by decide +kernel
theorem dX5_lead_31 : decode cX5_lead 31 = .ok (.ifCond .ne 5, 3) := by decide +kernel
theorem dX5_lead_34 : decode cX5_lead 34 = .ok (.iconst (-1), 1) := by decide +kernel
theorem dX5_lead_35 : decode cX5_lead 35 = .ok (.ireturn, 1) := by decide +kernel
theorem dX5_lead_36 : decode cX5_lead 36 = .ok (.aload_n 0, 1) := by decide +kernel
theorem dX5_lead_37 : decode cX5_lead 37 = .ok (.getfield 13, 3) := by decide +kernel
theorem dX5_lead_40 : decode cX5_lead 40 = .ok (.iconst 4, 1) := by decide +kernel
theorem dX5_lead_41 : decode cX5_lead 41 = .ok (.iload_n 1, 1) := by decide +kernel
theorem dX5_lead_42 : decode cX5_lead 42 = .ok (.imul, 1) := by decide +kernel
theorem dX5_lead_43 : decode cX5_lead 43 = .ok (.iload_n 2, 1) := by decide +kernel
theorem dX5_lead_44 : decode cX5_lead 44 = .ok (.iadd, 1) := by decide +kernel
theorem dX5_lead_45 : decode cX5_lead 45 = .ok (.iaload, 1) := by decide +kernel
theorem dX5_lead_46 : decode cX5_lead 46 = .ok (.istore 4, 2) := by decide +kernel
theorem dX5_lead_48 : decode cX5_lead 48 = .ok (.aload_n 0, 1) := by decide +kernel
theorem dX5_lead_49 : decode cX5_lead 49 = .ok (.getfield 13, 3) := by decide +kernel
theorem dX5_lead_52 : decode cX5_lead 52 = .ok (.iconst 4, 1) := by decide +kernel
theorem dX5_lead_53 : decode cX5_lead 53 = .ok (.iload_n 1, 1) := by decide +kernel
theorem dX5_lead_54 : decode cX5_lead 54 = .ok (.imul, 1) := by decide +kernel
theorem dX5_lead_55 : decode cX5_lead 55 = .ok (.iload_n 2, 1) := by decide +kernel
theorem dX5_lead_56 : decode cX5_lead 56 = .ok (.iadd, 1) := by decide +kernel
theorem dX5_lead_57 : decode cX5_lead 57 = .ok (.iload_n 3, 1) := by decide +kernel
theorem dX5_lead_58 : decode cX5_lead 58 = .ok (.iastore, 1) := by decide +kernel
theorem dX5_lead_59 : decode cX5_lead 59 = .ok (.iload 4, 2) := by decide +kernel
theorem dX5_lead_61 : decode cX5_lead 61 = .ok (.ireturn, 1) := by decide +kernel
set_option maxRecDepth 20000 in
theorem ggX5_end_X5_isState : GoodIn wsX5_end wsX5_isState := goodIn_r _ [6, 7, 8, 9, 5, 10, 11, 12, 13, 14, 15, 16, 17, 18, 19, 20, 21, 22, 23, 24, 25, 26, 27, 28, 29, 30] (by decide +kernel) (by decide +kernel)
set_option maxRecDepth 20000 in
theorem gX5_end_X5_isState : GoodIn wsX5_end (wsV RX5 95 RX5 yX5_isState wsX5_isState) := goodIn_app (goodIn_of _ (by decide +kernel)) ggX5_end_X5_isState
theorem dX5_end_0 : decode cX5_end 0 = .ok (.aload_n 0, 1) := by decide +kernel
theorem dX5_end_1 : decode cX5_end 1 = .ok (.iload_n 1, 1) := by decide +kernel
theorem dX5_end_2 : decode cX5_end 2 = .ok (.invokevirtual 95, 3) := by decide +kernel
theorem dX5_end_5 : decode cX5_end 5 = .ok (.ifCond .ne 5, 3) := by decide +kernel
theorem dX5_end_8 : decode cX5_end 8 = .ok (.iconst (-1), 1) := by decide +kernel
theorem dX5_end_9 : decode cX5_end 9 = .ok (.ireturn, 1) := by decide +kernel
theorem dX5_end_10 : decode cX5_end 10 = .ok (.aload_n 0, 1) := by decide +kernel
theorem dX5_end_11 : decode cX5_end 11 = .ok (.getfield 16, 3) := by decide +kernel
theorem dX5_end_14 : decode cX5_end 14 = .ok (.iload_n 1, 1) := by decide +kernel
theorem dX5_end_15 : decode cX5_end 15 = .ok (.baload, 1) := by decide +kernel
theorem dX5_end_16 : decode cX5_end 16 = .ok (.istore_n 3, 1) := by decide +kernel
theorem dX5_end_17 : decode cX5_end 17 = .ok (.aload_n 0, 1) := by decide +kernel
theorem dX5_end_18 : decode cX5_end 18 = .ok (.getfield 16, 3) := by decide +kernel
theorem dX5_end_21 : decode cX5_end 21 = .ok (.iload_n 1, 1) := by decide +kernel
theorem dX5_end_22 : decode cX5_end 22 = .ok (.iload_n 2, 1) := by decide +kernel
theorem dX5_end_23 : decode cX5_end 23 = .ok (.bastore, 1) := by decide +kernel
theorem dX5_end_24 : decode cX5_end 24 = .ok (.iload_n 3, 1) := by decide +kernel
theorem dX5_end_25 : decode cX5_end 25 = .ok (.ifCond .eq 7, 3) := by decide +kernel
theorem dX5_end_28 : decode cX5_end 28 = .ok (.iconst 1, 1) := by decide +kernel
theorem dX5_end_29 : decode cX5_end 29 = .ok (.goto 4, 3) := by decide +kernel
theorem dX5_end_32 : decode cX5_end 32 = .ok (.iconst 0, 1) := by decide +kernel
theorem dX5_end_33 : decode cX5_end 33 = .ok (.ireturn, 1) := by decide +kernel
theorem dX5_countWords_0 : decode cX5_countWords 0 = .ok (.iconst 0, 1) := by decide +kernel
theorem dX5_countWords_1 : decode cX5_countWords 1 = .ok (.istore_n 2, 1) := by decide +kernel
theorem dX5_countWords_2 : decode cX5_countWords 2 = .ok (.iload_n 2, 1) := by decide +kernel
theorem dX5_countWords_3 : decode cX5_countWords 3 = .ok (.aload_n 0, 1) := by decide +kernel
theorem dX5_countWords_4 : decode cX5_countWords 4 = .ok (.getfield 64, 3) := by decide +kernel
theorem dX5_countWords_7 : decode cX5_countWords 7 = .ok (.if_icmp .ge 29, 3) := by decide +kernel
theorem dX5_countWords_10 : decode cX5_countWords 10 = .ok (.aload_n 0, 1) := by decide +kernel
theorem dX5_countWords_11 : decode cX5_countWords 11 = .ok (.getfield 46, 3) := by decide +kernel
theorem dX5_countWords_14 : decode cX5_countWords 14 = .ok (.iload_n 2, 1) := by decide +kernel
theorem dX5_countWords_15 : decode cX5_countWords 15 = .ok (.aload_n 0, 1) := by decide +kernel
theorem dX5_countWords_16 : decode cX5_countWords 16 = .ok (.getfield 16, 3) := by decide +kernel
theorem dX5_countWords_19 : decode cX5_countWords 19 = .ok (.iload_n 2, 1) := by decide +kernel
theorem dX5_countWords_20 : decode cX5_countWords 20 = .ok (.baload, 1) := by decide +kernel
theorem dX5_countWords_21 : decode cX5_countWords 21 = .ok (.ifCond .eq 7, 3) := by decide +kernel
theorem dX5_countWords_24 : decode cX5_countWords 24 = .ok (.lconst 1, 1) := by decide +kernel
theorem dX5_countWords_25 : decode cX5_countWords 25 = .ok (.goto 4, 3) := by decide +kernel
theorem dX5_countWords_28 : decode cX5_countWords 28 = .ok (.lconst 0, 1) := by decide +kernel
theorem dX5_countWords_29 : decode cX5_countWords 29 = .ok (.lastore, 1) := by decide +kernel
theorem dX5_countWords_30 : decode cX5_countWords 30 = .ok (.iinc 2 1, 3) := by decide +kernel
theorem dX5_countWords_33 : decode cX5_countWords 33 = .ok (.goto (-31), 3) := by decide +kernel
theorem dX5_countWords_36 : decode cX5_countWords 36 = .ok (.iconst 1, 1) := by decide +kernel
theorem dX5_countWords_37 : decode cX5_countWords 37 = .ok (.istore_n 2, 1) := by decide +kernel
theorem dX5_countWords_38 : decode cX5_countWords 38 = .ok (.iload_n 2, 1) := by decide +kernel
theorem dX5_countWords_39 : decode cX5_countWords 39 = .ok (.iload_n 1, 1) := by decide +kernel
theorem dX5_countWords_40 : decode cX5_countWords 40 = .ok (.if_icmp .gt 108, 3) := by decide +kernel
theorem dX5_countWords_43 : decode cX5_countWords 43 = .ok (.iconst 0, 1) := by decide +kernel
theorem dX5_countWords_44 : decode cX5_countWords 44 = .ok (.istore_n 3, 1) := by decide +kernel
theorem dX5_countWords_45 : decode cX5_countWords 45 = .ok (.iload_n 3, 1) := by decide +kernel
theorem dX5_countWords_46 : decode cX5_countWords 46 = .ok (.aload_n 0, 1) := by decide +kernel
theorem dX5_countWords_47 : decode cX5_countWords 47 = .ok (.getfield 64, 3) := by decide +kernel
theorem dX5_countWords_50 : decode cX5_countWords 50 = .ok (.if_icmp .ge 92, 3) := by decide +kernel
theorem dX5_countWords_53 : decode cX5_countWords 53 = .ok (.aload_n 0, 1) := by decide +kernel
theorem dX5_countWords_54 : decode cX5_countWords 54 = .ok (.getfield 46, 3) := by decide +kernel
theorem dX5_countWords_57 : decode cX5_countWords 57 = .ok (.bipush 12, 2) := by decide +kernel
theorem dX5_countWords_59 : decode cX5_countWords 59 = .ok (.iload_n 2, 1) := by decide +kernel
theorem dX5_countWords_60 : decode cX5_countWords 60 = .ok (.imul, 1) := by decide +kernel
theorem dX5_countWords_61 : decode cX5_countWords 61 = .ok (.iload_n 3, 1) := by decide +kernel
theorem dX5_countWords_62 : decode cX5_countWords 62 = .ok (.iadd, 1) := by decide +kernel
theorem dX5_countWords_63 : decode cX5_countWords 63 = .ok (.lconst 0, 1) := by decide +kernel
theorem dX5_countWords_64 : decode cX5_countWords 64 = .ok (.lastore, 1) := by decide +kernel
theorem dX5_countWords_65 : decode cX5_countWords 65 = .ok (.iconst 0, 1) := by decide +kernel
theorem dX5_countWords_66 : decode cX5_countWords 66 = .ok (.istore 4, 2) := by decide +kernel
theorem dX5_countWords_68 : decode cX5_countWords 68 = .ok (.iload 4, 2) := by decide +kernel
theorem dX5_countWords_70 : decode cX5_countWords 70 = .ok (.iconst 4, 1) := by decide +kernel
theorem dX5_countWords_71 : decode cX5_countWords 71 = .ok (.if_icmp .ge 65, 3) := by decide +kernel
theorem dX5_countWords_74 : decode cX5_countWords 74 = .ok (.aload_n 0, 1) := by decide +kernel
theorem dX5_countWords_75 : decode cX5_countWords 75 = .ok (.getfield 46, 3) := by decide +kernel
theorem dX5_countWords_78 : decode cX5_countWords 78 = .ok (.bipush 12, 2) := by decide +kernel
theorem dX5_countWords_80 : decode cX5_countWords 80 = .ok (.iload_n 2, 1) := by decide +kernel
theorem dX5_countWords_81 : decode cX5_countWords 81 = .ok (.imul, 1) := by decide +kernel
theorem dX5_countWords_82 : decode cX5_countWords 82 = .ok (.iload_n 3, 1) := by decide +kernel
theorem dX5_countWords_83 : decode cX5_countWords 83 = .ok (.iadd, 1) := by decide +kernel
theorem dX5_countWords_84 : decode cX5_countWords 84 = .ok (.dup2, 1) := by decide +kernel
theorem dX5_countWords_85 : decode cX5_countWords 85 = .ok (.laload, 1) := by decide +kernel
theorem dX5_countWords_86 : decode cX5_countWords 86 = .ok (.aload_n 0, 1) := by decide +kernel
theorem dX5_countWords_87 : decode cX5_countWords 87 = .ok (.getfield 13, 3) := by decide +kernel
theorem dX5_countWords_90 : decode cX5_countWords 90 = .ok (.iconst 4, 1) := by decide +kernel
theorem dX5_countWords_91 : decode cX5_countWords 91 = .ok (.iload_n 3, 1) := by decide +kernel
theorem dX5_countWords_92 : decode cX5_countWords 92 = .ok (.imul, 1) := by decide +kernel
theorem dX5_countWords_93 : decode cX5_countWords 93 = .ok (.iload 4, 2) := by decide +kernel
theorem dX5_countWords_95 : decode cX5_countWords 95 = .ok (.iadd, 1) := by decide +kernel
theorem dX5_countWords_96 : decode cX5_countWords 96 = .ok (.iaload, 1) := by decide +kernel
theorem dX5_countWords_97 : decode cX5_countWords 97 = .ok (.ifCond .ge 7, 3) := by decide +kernel
theorem dX5_countWords_100 : decode cX5_countWords 100 = .ok (.lconst 0, 1) := by decide +kernel
theorem dX5_countWords_101 : decode cX5_countWords 101 = .ok (.goto 27, 3) := by decide +kernel
theorem dX5_countWords_104 : decode cX5_countWords 104 = .ok (.aload_n 0, 1) := by decide +kernel
theorem dX5_countWords_105 : decode cX5_countWords 105 = .ok (.getfield 46, 3) := by decide +kernel
theorem dX5_countWords_108 : decode cX5_countWords 108 = .ok (.bipush 12, 2) := by decide +kernel
theorem dX5_countWords_110 : decode cX5_countWords 110 = .ok (.iload_n 2, 1) := by decide +kernel
theorem dX5_countWords_111 : decode cX5_countWords 111 = .ok (.imul, 1) := by decide +kernel
theorem dX5_countWords_112 : decode cX5_countWords 112 = .ok (.bipush 12, 2) := by decide +kernel
theorem dX5_countWords_114 : decode cX5_countWords 114 = .ok (.isub, 1) := by decide +kernel
theorem dX5_countWords_115 : decode cX5_countWords 115 = .ok (.aload_n 0, 1) := by decide +kernel
theorem dX5_countWords_116 : decode cX5_countWords 116 = .ok (.getfield 13, 3) := by decide +kernel
theorem dX5_countWords_119 : decode cX5_countWords 119 = .ok (.iconst 4, 1) := by decide +kernel
theorem dX5_countWords_120 : decode cX5_countWords 120 = .ok (.iload_n 3, 1) := by decide +kernel
theorem dX5_countWords_121 : decode cX5_countWords 121 = .ok (.imul, 1) := by decide +kernel
theorem dX5_countWords_122 : decode cX5_countWords 122 = .ok (.iload 4, 2) := by decide +kernel
theorem dX5_countWords_124 : decode cX5_countWords 124 = .ok (.iadd, 1) := by decide +kernel
theorem dX5_countWords_125 : decode cX5_countWords 125 = .ok (.iaload, 1) := by decide +kernel
theorem dX5_countWords_126 : decode cX5_countWords 126 = .ok (.iadd, 1) := by decide +kernel
theorem dX5_countWords_127 : decode cX5_countWords 127 = .ok (.laload, 1) := by decide +kernel
theorem dX5_countWords_128 : decode cX5_countWords 128 = .ok (.ladd, 1) := by decide +kernel
theorem dX5_countWords_129 : decode cX5_countWords 129 = .ok (.lastore, 1) := by decide +kernel
theorem dX5_countWords_130 : decode cX5_countWords 130 = .ok (.iinc 4 1, 3) := by decide +kernel
theorem dX5_countWords_133 : decode cX5_countWords 133 = .ok (.goto (-65), 3) := by decide +kernel
theorem dX5_countWords_136 : decode cX5_countWords 136 = .ok (.iinc 3 1, 3) := by decide +kernel
theorem dX5_countWords_139 : decode cX5_countWords 139 = .ok (.goto (-94), 3) := by decide +kernel
theorem dX5_countWords_142 : decode cX5_countWords 142 = .ok (.iinc 2 1, 3) := by decide +kernel
theorem dX5_countWords_145 : decode cX5_countWords 145 = .ok (.goto (-107), 3) := by decide +kernel
theorem dX5_countWords_148 : decode cX5_countWords 148 = .ok (.return_, 1) := by decide +kernel
set_option maxRecDepth 20000 in
theorem ggX5_words_X5_in : GoodIn wsX5_words wsX5_in := goodIn_r _ [7] (by decide +kernel) (by decide +kernel)
set_option maxRecDepth 20000 in
theorem gX5_words_X5_in : GoodIn wsX5_words (va_wsS RX5 67 yX5_in wsX5_in) := goodIn_app (goodIn_of _ (by decide +kernel)) ggX5_words_X5_in
set_option maxRecDepth 20000 in
theorem ggX5_words_X5_countWords : GoodIn wsX5_words wsX5_countWords := goodIn_r _ [11, 12, 3, 13, 14, 15, 16, 17, 18, 19, 20, 21, 22, 23, 24, 25, 26, 27, 28, 29, 30, 31, 32, 33, 34] (by decide +kernel) (by decide +kernel)
set_option maxRecDepth 20000 in
theorem gX5_words_X5_countWords : GoodIn wsX5_words (wsV RX5 148 RX5 yX5_countWords wsX5_countWords) := goodIn_app (goodIn_of _ (by decide +kernel)) ggX5_words_X5_countWords
theorem dX5_words_0 : decode cX5_words 0 = .ok (.iload_n 1, 1) := by decide +kernel
theorem dX5_words_1 : decode cX5_words 1 = .ok (.i2l, 1) := by decide +kernel
theorem dX5_words_2 : decode cX5_words 2 = .ok (.lconst 0, 1) := by decide +kernel
theorem dX5_words_3 : decode cX5_words 3 = .ok (.ldc2_w 146, 3) := by decide +kernel
theorem dX5_words_6 : decode cX5_words 6 = .ok (.invokestatic 67, 3) := by decide +kernel
theorem dX5_words_9 : decode cX5_words 9 = .ok (.ifCond .ne 7, 3) := by decide +kernel
theorem dX5_words_12 : decode cX5_words 12 = .ok (.ldc2_w 89, 3) := by decide +kernel
theorem dX5_words_15 : decode cX5_words 15 = .ok (.lreturn, 1) := by decide +kernel
theorem dX5_words_16 : decode cX5_words 16 = .ok (.aload_n 0, 1) := by decide +kernel
theorem dX5_words_17 : decode cX5_words 17 = .ok (.iload_n 1, 1) := by decide +kernel
theorem dX5_words_18 : decode cX5_words 18 = .ok (.invokevirtual 148, 3) := by decide +kernel
theorem dX5_words_21 : decode cX5_words 21 = .ok (.aload_n 0, 1) := by decide +kernel
theorem dX5_words_22 : decode cX5_words 22 = .ok (.getfield 46, 3) := by decide +kernel
theorem dX5_words_25 : decode cX5_words 25 = .ok (.bipush 12, 2) := by decide +kernel
theorem dX5_words_27 : decode cX5_words 27 = .ok (.iload_n 1, 1) := by decide +kernel
theorem dX5_words_28 : decode cX5_words 28 = .ok (.imul, 1) := by decide +kernel
theorem dX5_words_29 : decode cX5_words 29 = .ok (.laload, 1) := by decide +kernel
theorem dX5_words_30 : decode cX5_words 30 = .ok (.lreturn, 1) := by decide +kernel
set_option maxRecDepth 20000 in
theorem ggX5_word_X5_in : GoodIn wsX5_word wsX5_in := goodIn_r _ [7] (by decide +kernel) (by decide +kernel)
set_option maxRecDepth 20000 in
theorem gX5_word_X5_in : GoodIn wsX5_word (va_wsS RX5 67 yX5_in wsX5_in) := goodIn_app (goodIn_of _ (by decide +kernel)) ggX5_word_X5_in
set_option maxRecDepth 20000 in
theorem ggX5_word_X5_countWords : GoodIn wsX5_word wsX5_countWords := goodIn_r _ [11, 12, 2, 13, 3, 18, 19, 20, 21, 22, 23, 24, 25, 26, 27, 28, 29, 30, 31, 32, 33, 34, 35, 36, 37] (by decide +kernel) (by decide +kernel)
set_option maxRecDepth 20000 in
theorem gX5_word_X5_countWords : GoodIn wsX5_word (wsV RX5 148 RX5 yX5_countWords wsX5_countWords) := goodIn_app (goodIn_of _ (by decide +kernel)) ggX5_word_X5_countWords
set_option maxRecDepth 20000 in
theorem ggX5_word_X5_goesOn : GoodIn wsX5_word wsX5_goesOn := goodIn_r _ [17, 3, 2, 18, 19, 20, 21, 22, 23, 24, 25, 26, 27, 28, 29, 30, 31, 32, 33, 34, 35, 36, 37] (by decide +kernel) (by decide +kernel)
set_option maxRecDepth 20000 in
theorem gX5_word_X5_goesOn : GoodIn wsX5_word (wsV RX5 151 RX5 yX5_goesOn wsX5_goesOn) := goodIn_app (goodIn_of _ (by decide +kernel)) ggX5_word_X5_goesOn
theorem dX5_word_0 : decode cX5_word 0 = .ok (.iload_n 1, 1) := by decide +kernel
theorem dX5_word_1 : decode cX5_word 1 = .ok (.i2l, 1) := by decide +kernel
theorem dX5_word_2 : decode cX5_word 2 = .ok (.lconst 0, 1) := by decide +kernel
theorem dX5_word_3 : decode cX5_word 3 = .ok (.ldc2_w 146, 3) := by decide +kernel
theorem dX5_word_6 : decode cX5_word 6 = .ok (.invokestatic 67, 3) := by decide +kernel
theorem dX5_word_9 : decode cX5_word 9 = .ok (.ifCond .eq 17, 3) := by decide +kernel
theorem dX5_word_12 : decode cX5_word 12 = .ok (.iload 4, 2) := by decide +kernel
theorem dX5_word_14 : decode cX5_word 14 = .ok (.i2l, 1) := by decide +kernel
theorem dX5_word_15 : decode cX5_word 15 = .ok (.lconst 0, 1) := by decide +kernel
theorem dX5_word_16 : decode cX5_word 16 = .ok (.iload_n 1, 1) := by decide +kernel
theorem dX5_word_17 : decode cX5_word 17 = .ok (.iconst 1, 1) := by decide +kernel
theorem dX5_word_18 : decode cX5_word 18 = .ok (.isub, 1) := by decide +kernel
theorem dX5_word_19 : decode cX5_word 19 = .ok (.i2l, 1) := by decide +kernel
theorem dX5_word_20 : decode cX5_word 20 = .ok (.invokestatic 67, 3) := by decide +kernel
theorem dX5_word_23 : decode cX5_word 23 = .ok (.ifCond .ne 5, 3) := by decide +kernel
theorem dX5_word_26 : decode cX5_word 26 = .ok (.iconst (-1), 1) := by decide +kernel
theorem dX5_word_27 : decode cX5_word 27 = .ok (.ireturn, 1) := by decide +kernel
theorem dX5_word_28 : decode cX5_word 28 = .ok (.aload_n 0, 1) := by decide +kernel
theorem dX5_word_29 : decode cX5_word 29 = .ok (.iload_n 1, 1) := by decide +kernel
theorem dX5_word_30 : decode cX5_word 30 = .ok (.invokevirtual 148, 3) := by decide +kernel
theorem dX5_word_33 : decode cX5_word 33 = .ok (.lload_n 2, 1) := by decide +kernel
theorem dX5_word_34 : decode cX5_word 34 = .ok (.lconst 0, 1) := by decide +kernel
theorem dX5_word_35 : decode cX5_word 35 = .ok (.aload_n 0, 1) := by decide +kernel
theorem dX5_word_36 : decode cX5_word 36 = .ok (.getfield 46, 3) := by decide +kernel
theorem dX5_word_39 : decode cX5_word 39 = .ok (.bipush 12, 2) := by decide +kernel
theorem dX5_word_41 : decode cX5_word 41 = .ok (.iload_n 1, 1) := by decide +kernel
theorem dX5_word_42 : decode cX5_word 42 = .ok (.imul, 1) := by decide +kernel
theorem dX5_word_43 : decode cX5_word 43 = .ok (.laload, 1) := by decide +kernel
theorem dX5_word_44 : decode cX5_word 44 = .ok (.lconst 1, 1) := by decide +kernel
theorem dX5_word_45 : decode cX5_word 45 = .ok (.lsub, 1) := by decide +kernel
theorem dX5_word_46 : decode cX5_word 46 = .ok (.invokestatic 67, 3) := by decide +kernel
theorem dX5_word_49 : decode cX5_word 49 = .ok (.ifCond .ne 5, 3) := by decide +kernel
theorem dX5_word_52 : decode cX5_word 52 = .ok (.iconst (-1), 1) := by decide +kernel
theorem dX5_word_53 : decode cX5_word 53 = .ok (.ireturn, 1) := by decide +kernel
theorem dX5_word_54 : decode cX5_word 54 = .ok (.iconst 0, 1) := by decide +kernel
theorem dX5_word_55 : decode cX5_word 55 = .ok (.istore 5, 2) := by decide +kernel
theorem dX5_word_57 : decode cX5_word 57 = .ok (.lload_n 2, 1) := by decide +kernel
theorem dX5_word_58 : decode cX5_word 58 = .ok (.lstore 6, 2) := by decide +kernel
theorem dX5_word_60 : decode cX5_word 60 = .ok (.iconst 0, 1) := by decide +kernel
theorem dX5_word_61 : decode cX5_word 61 = .ok (.istore 8, 2) := by decide +kernel
theorem dX5_word_63 : decode cX5_word 63 = .ok (.iconst 0, 1) := by decide +kernel
theorem dX5_word_64 : decode cX5_word 64 = .ok (.istore 9, 2) := by decide +kernel
theorem dX5_word_66 : decode cX5_word 66 = .ok (.iload 9, 2) := by decide +kernel
theorem dX5_word_68 : decode cX5_word 68 = .ok (.iload 4, 2) := by decide +kernel
theorem dX5_word_70 : decode cX5_word 70 = .ok (.if_icmp .gt 71, 3) := by decide +kernel
theorem dX5_word_73 : decode cX5_word 73 = .ok (.iconst 0, 1) := by decide +kernel
theorem dX5_word_74 : decode cX5_word 74 = .ok (.istore 8, 2) := by decide +kernel
theorem dX5_word_76 : decode cX5_word 76 = .ok (.lload 6, 2) := by decide +kernel
theorem dX5_word_78 : decode cX5_word 78 = .ok (.aload_n 0, 1) := by decide +kernel
theorem dX5_word_79 : decode cX5_word 79 = .ok (.iload 5, 2) := by decide +kernel
theorem dX5_word_81 : decode cX5_word 81 = .ok (.iload 8, 2) := by decide +kernel
theorem dX5_word_83 : decode cX5_word 83 = .ok (.iload_n 1, 1) := by decide +kernel
theorem dX5_word_84 : decode cX5_word 84 = .ok (.iload 9, 2) := by decide +kernel
theorem dX5_word_86 : decode cX5_word 86 = .ok (.isub, 1) := by decide +kernel
theorem dX5_word_87 : decode cX5_word 87 = .ok (.iconst 1, 1) := by decide +kernel
theorem dX5_word_88 : decode cX5_word 88 = .ok (.isub, 1) := by decide +kernel
theorem dX5_word_89 : decode cX5_word 89 = .ok (.invokevirtual 151, 3) := by decide +kernel
theorem dX5_word_92 : decode cX5_word 92 = .ok (.lcmp, 1) := by decide +kernel
theorem dX5_word_93 : decode cX5_word 93 = .ok (.ifCond .lt 28, 3) := by decide +kernel
theorem dX5_word_96 : decode cX5_word 96 = .ok (.lload 6, 2) := by decide +kernel
theorem dX5_word_98 : decode cX5_word 98 = .ok (.aload_n 0, 1) := by decide +kernel
theorem dX5_word_99 : decode cX5_word 99 = .ok (.iload 5, 2) := by decide +kernel
theorem dX5_word_101 : decode cX5_word 101 = .ok (.iload 8, 2) := by decide +kernel
theorem dX5_word_103 : decode cX5_word 103 = .ok (.iload_n 1, 1) := by decide +kernel
theorem dX5_word_104 : decode cX5_word 104 = .ok (.iload 9, 2) := by decide +kernel
theorem dX5_word_106 : decode cX5_word 106 = .ok (.isub, 1) := by decide +kernel
theorem dX5_word_107 : decode cX5_word 107 = .ok (.iconst 1, 1) := by decide +kernel
theorem dX5_word_108 : decode cX5_word 108 = .ok (.isub, 1) := by decide +kernel
