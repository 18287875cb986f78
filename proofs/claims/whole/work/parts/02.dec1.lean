theorem dX0_init_0 : decode cX0_init 0 = .ok (.aload_n 0, 1) := by decide +kernel
theorem dX0_init_1 : decode cX0_init 1 = .ok (.invokespecial 3, 3) := by decide +kernel
theorem dX0_init_4 : decode cX0_init 4 = .ok (.aload_n 0, 1) := by decide +kernel
theorem dX0_init_5 : decode cX0_init 5 = .ok (.iload_n 1, 1) := by decide +kernel
theorem dX0_init_6 : decode cX0_init 6 = .ok (.putfield 9, 3) := by decide +kernel
theorem dX0_init_9 : decode cX0_init 9 = .ok (.aload_n 0, 1) := by decide +kernel
theorem dX0_init_10 : decode cX0_init 10 = .ok (.bipush 8, 2) := by decide +kernel
theorem dX0_init_12 : decode cX0_init 12 = .ok (.aload_n 0, 1) := by decide +kernel
theorem dX0_init_13 : decode cX0_init 13 = .ok (.getfield 9, 3) := by decide +kernel
theorem dX0_init_16 : decode cX0_init 16 = .ok (.multianewarray 15 2, 4) := by decide +kernel
theorem dX0_init_20 : decode cX0_init 20 = .ok (.putfield 17, 3) := by decide +kernel
theorem dX0_init_23 : decode cX0_init 23 = .ok (.aload_n 0, 1) := by decide +kernel
theorem dX0_init_24 : decode cX0_init 24 = .ok (.aload_n 0, 1) := by decide +kernel
theorem dX0_init_25 : decode cX0_init 25 = .ok (.getfield 9, 3) := by decide +kernel
theorem dX0_init_28 : decode cX0_init 28 = .ok (.newarray .int, 2) := by decide +kernel
theorem dX0_init_30 : decode cX0_init 30 = .ok (.putfield 20, 3) := by decide +kernel
theorem dX0_init_33 : decode cX0_init 33 = .ok (.aload_n 0, 1) := by decide +kernel
theorem dX0_init_34 : decode cX0_init 34 = .ok (.aload_n 0, 1) := by decide +kernel
theorem dX0_init_35 : decode cX0_init 35 = .ok (.getfield 9, 3) := by decide +kernel
theorem dX0_init_38 : decode cX0_init 38 = .ok (.newarray .int, 2) := by decide +kernel
theorem dX0_init_40 : decode cX0_init 40 = .ok (.putfield 24, 3) := by decide +kernel
theorem dX0_init_43 : decode cX0_init 43 = .ok (.aload_n 0, 1) := by decide +kernel
theorem dX0_init_44 : decode cX0_init 44 = .ok (.iconst 1, 1) := by decide +kernel
theorem dX0_init_45 : decode cX0_init 45 = .ok (.aload_n 0, 1) := by decide +kernel
theorem dX0_init_46 : decode cX0_init 46 = .ok (.getfield 9, 3) := by decide +kernel
theorem dX0_init_49 : decode cX0_init 49 = .ok (.ishl, 1) := by decide +kernel
theorem dX0_init_50 : decode cX0_init 50 = .ok (.newarray .int, 2) := by decide +kernel
theorem dX0_init_52 : decode cX0_init 52 = .ok (.putfield 27, 3) := by decide +kernel
theorem dX0_init_55 : decode cX0_init 55 = .ok (.aload_n 0, 1) := by decide +kernel
theorem dX0_init_56 : decode cX0_init 56 = .ok (.iconst 1, 1) := by decide +kernel
theorem dX0_init_57 : decode cX0_init 57 = .ok (.aload_n 0, 1) := by decide +kernel
theorem dX0_init_58 : decode cX0_init 58 = .ok (.getfield 9, 3) := by decide +kernel
theorem dX0_init_61 : decode cX0_init 61 = .ok (.ishl, 1) := by decide +kernel
theorem dX0_init_62 : decode cX0_init 62 = .ok (.newarray .int, 2) := by decide +kernel
theorem dX0_init_64 : decode cX0_init 64 = .ok (.putfield 30, 3) := by decide +kernel
theorem dX0_init_67 : decode cX0_init 67 = .ok (.aload_n 0, 1) := by decide +kernel
theorem dX0_init_68 : decode cX0_init 68 = .ok (.aload_n 0, 1) := by decide +kernel
theorem dX0_init_69 : decode cX0_init 69 = .ok (.getfield 9, 3) := by decide +kernel
theorem dX0_init_72 : decode cX0_init 72 = .ok (.aload_n 0, 1) := by decide +kernel
theorem dX0_init_73 : decode cX0_init 73 = .ok (.getfield 9, 3) := by decide +kernel
theorem dX0_init_76 : decode cX0_init 76 = .ok (.multianewarray 33 2, 4) := by decide +kernel
theorem dX0_init_80 : decode cX0_init 80 = .ok (.putfield 35, 3) := by decide +kernel
theorem dX0_init_83 : decode cX0_init 83 = .ok (.iconst 0, 1) := by decide +kernel
theorem dX0_init_84 : decode cX0_init 84 = .ok (.istore_n 2, 1) := by decide +kernel
theorem dX0_init_85 : decode cX0_init 85 = .ok (.iload_n 2, 1) := by decide +kernel
theorem dX0_init_86 : decode cX0_init 86 = .ok (.bipush 8, 2) := by decide +kernel
theorem dX0_init_88 : decode cX0_init 88 = .ok (.if_icmp .ge 34, 3) := by decide +kernel
theorem dX0_init_91 : decode cX0_init 91 = .ok (.iconst 0, 1) := by decide +kernel
theorem dX0_init_92 : decode cX0_init 92 = .ok (.istore_n 3, 1) := by decide +kernel
theorem dX0_init_93 : decode cX0_init 93 = .ok (.iload_n 3, 1) := by decide +kernel
theorem dX0_init_94 : decode cX0_init 94 = .ok (.aload_n 0, 1) := by decide +kernel
theorem dX0_init_95 : decode cX0_init 95 = .ok (.getfield 9, 3) := by decide +kernel
theorem dX0_init_98 : decode cX0_init 98 = .ok (.if_icmp .ge 18, 3) := by decide +kernel
theorem dX0_init_101 : decode cX0_init 101 = .ok (.aload_n 0, 1) := by decide +kernel
theorem dX0_init_102 : decode cX0_init 102 = .ok (.getfield 17, 3) := by decide +kernel
theorem dX0_init_105 : decode cX0_init 105 = .ok (.iload_n 2, 1) := by decide +kernel
theorem dX0_init_106 : decode cX0_init 106 = .ok (.aaload, 1) := by decide +kernel
theorem dX0_init_107 : decode cX0_init 107 = .ok (.iload_n 3, 1) := by decide +kernel
theorem dX0_init_108 : decode cX0_init 108 = .ok (.iload_n 3, 1) := by decide +kernel
theorem dX0_init_109 : decode cX0_init 109 = .ok (.iastore, 1) := by decide +kernel
theorem dX0_init_110 : decode cX0_init 110 = .ok (.iinc 3 1, 3) := by decide +kernel
theorem dX0_init_113 : decode cX0_init 113 = .ok (.goto (-20), 3) := by decide +kernel
theorem dX0_init_116 : decode cX0_init 116 = .ok (.iinc 2 1, 3) := by decide +kernel
theorem dX0_init_119 : decode cX0_init 119 = .ok (.goto (-34), 3) := by decide +kernel
theorem dX0_init_122 : decode cX0_init 122 = .ok (.return_, 1) := by decide +kernel
theorem dX0_setStep_0 : decode cX0_setStep 0 = .ok (.aload_n 0, 1) := by decide +kernel
theorem dX0_setStep_1 : decode cX0_setStep 1 = .ok (.getfield 17, 3) := by decide +kernel
theorem dX0_setStep_4 : decode cX0_setStep 4 = .ok (.iload_n 2, 1) := by decide +kernel
theorem dX0_setStep_5 : decode cX0_setStep 5 = .ok (.aaload, 1) := by decide +kernel
theorem dX0_setStep_6 : decode cX0_setStep 6 = .ok (.iload_n 1, 1) := by decide +kernel
theorem dX0_setStep_7 : decode cX0_setStep 7 = .ok (.iaload, 1) := by decide +kernel
theorem dX0_setStep_8 : decode cX0_setStep 8 = .ok (.istore 4, 2) := by decide +kernel
theorem dX0_setStep_10 : decode cX0_setStep 10 = .ok (.aload_n 0, 1) := by decide +kernel
theorem dX0_setStep_11 : decode cX0_setStep 11 = .ok (.getfield 17, 3) := by decide +kernel
theorem dX0_setStep_14 : decode cX0_setStep 14 = .ok (.iload_n 2, 1) := by decide +kernel
theorem dX0_setStep_15 : decode cX0_setStep 15 = .ok (.aaload, 1) := by decide +kernel
theorem dX0_setStep_16 : decode cX0_setStep 16 = .ok (.iload_n 1, 1) := by decide +kernel
theorem dX0_setStep_17 : decode cX0_setStep 17 = .ok (.iload_n 3, 1) := by decide +kernel
theorem dX0_setStep_18 : decode cX0_setStep 18 = .ok (.iastore, 1) := by decide +kernel
theorem dX0_setStep_19 : decode cX0_setStep 19 = .ok (.iload 4, 2) := by decide +kernel
theorem dX0_setStep_21 : decode cX0_setStep 21 = .ok (.ireturn, 1) := by decide +kernel
set_option maxRecDepth 20000 in
theorem ggX0_throughPast_X4_signAt : GoodIn wsX0_throughPast wsX4_signAt := goodIn_r _ [4, 5, 6, 3, 7, 8, 9, 10] (by decide +kernel) (by decide +kernel)
set_option maxRecDepth 20000 in
theorem gX0_throughPast_X4_signAt_n38 : GoodIn wsX0_throughPast (wsX4_signAt) := ggX0_throughPast_X4_signAt
theorem dX0_throughPast_0 : decode cX0_throughPast 0 = .ok (.iload_n 3, 1) := by decide +kernel
theorem dX0_throughPast_1 : decode cX0_throughPast 1 = .ok (.istore 4, 2) := by decide +kernel
theorem dX0_throughPast_3 : decode cX0_throughPast 3 = .ok (.iload_n 2, 1) := by decide +kernel
theorem dX0_throughPast_4 : decode cX0_throughPast 4 = .ok (.istore 5, 2) := by decide +kernel
theorem dX0_throughPast_6 : decode cX0_throughPast 6 = .ok (.iload 5, 2) := by decide +kernel
theorem dX0_throughPast_8 : decode cX0_throughPast 8 = .ok (.iconst 1, 1) := by decide +kernel
theorem dX0_throughPast_9 : decode cX0_throughPast 9 = .ok (.if_icmp .lt 25, 3) := by decide +kernel
theorem dX0_throughPast_12 : decode cX0_throughPast 12 = .ok (.aload_n 0, 1) := by decide +kernel
theorem dX0_throughPast_13 : decode cX0_throughPast 13 = .ok (.getfield 17, 3) := by decide +kernel
theorem dX0_throughPast_16 : decode cX0_throughPast 16 = .ok (.iload_n 1, 1) := by decide +kernel
theorem dX0_throughPast_17 : decode cX0_throughPast 17 = .ok (.iload 5, 2) := by decide +kernel
theorem dX0_throughPast_19 : decode cX0_throughPast 19 = .ok (.invokestatic 38, 3) := by decide +kernel
theorem dX0_throughPast_22 : decode cX0_throughPast 22 = .ok (.aaload, 1) := by decide +kernel
theorem dX0_throughPast_23 : decode cX0_throughPast 23 = .ok (.iload 4, 2) := by decide +kernel
theorem dX0_throughPast_25 : decode cX0_throughPast 25 = .ok (.iaload, 1) := by decide +kernel
theorem dX0_throughPast_26 : decode cX0_throughPast 26 = .ok (.istore 4, 2) := by decide +kernel
theorem dX0_throughPast_28 : decode cX0_throughPast 28 = .ok (.iinc 5 (-1), 3) := by decide +kernel
theorem dX0_throughPast_31 : decode cX0_throughPast 31 = .ok (.goto (-25), 3) := by decide +kernel
theorem dX0_throughPast_34 : decode cX0_throughPast 34 = .ok (.iload 4, 2) := by decide +kernel
theorem dX0_throughPast_36 : decode cX0_throughPast 36 = .ok (.ireturn, 1) := by decide +kernel
set_option maxRecDepth 20000 in
theorem ggX0_leastMeeting_X4_signAt : GoodIn wsX0_leastMeeting wsX4_signAt := goodIn_r _ [5, 6, 7, 4, 8, 9, 10, 11] (by decide +kernel) (by decide +kernel)
set_option maxRecDepth 20000 in
theorem gX0_leastMeeting_X4_signAt_n38 : GoodIn wsX0_leastMeeting (wsX4_signAt) := ggX0_leastMeeting_X4_signAt
set_option maxRecDepth 20000 in
theorem ggX0_leastMeeting_X0_lengthenMap : GoodIn wsX0_leastMeeting wsX0_lengthenMap := goodIn_r _ [16, 1, 17, 2, 18, 19, 20, 21, 22, 27, 28, 29, 30, 31, 32, 33] (by decide +kernel) (by decide +kernel)
set_option maxRecDepth 20000 in
theorem gX0_leastMeeting_X0_lengthenMap : GoodIn wsX0_leastMeeting (wsV RX0 42 RX0 yX0_lengthenMap wsX0_lengthenMap) := goodIn_app (goodIn_of _ (by decide +kernel)) ggX0_leastMeeting_X0_lengthenMap
set_option maxRecDepth 20000 in
theorem ggX0_leastMeeting_X0_mapMeets : GoodIn wsX0_leastMeeting wsX0_mapMeets := goodIn_r _ [26, 1, 2, 27, 28, 29, 30, 31, 32, 33] (by decide +kernel) (by decide +kernel)
set_option maxRecDepth 20000 in
theorem gX0_leastMeeting_X0_mapMeets : GoodIn wsX0_leastMeeting (wsV RX0 46 RX0 yX0_mapMeets wsX0_mapMeets) := goodIn_app (goodIn_of _ (by decide +kernel)) ggX0_leastMeeting_X0_mapMeets
theorem dX0_leastMeeting_0 : decode cX0_leastMeeting 0 = .ok (.iconst 0, 1) := by decide +kernel
theorem dX0_leastMeeting_1 : decode cX0_leastMeeting 1 = .ok (.istore_n 3, 1) := by decide +kernel
theorem dX0_leastMeeting_2 : decode cX0_leastMeeting 2 = .ok (.iload_n 3, 1) := by decide +kernel
theorem dX0_leastMeeting_3 : decode cX0_leastMeeting 3 = .ok (.aload_n 0, 1) := by decide +kernel
theorem dX0_leastMeeting_4 : decode cX0_leastMeeting 4 = .ok (.getfield 9, 3) := by decide +kernel
theorem dX0_leastMeeting_7 : decode cX0_leastMeeting 7 = .ok (.if_icmp .ge 16, 3) := by decide +kernel
theorem dX0_leastMeeting_10 : decode cX0_leastMeeting 10 = .ok (.aload_n 0, 1) := by decide +kernel
theorem dX0_leastMeeting_11 : decode cX0_leastMeeting 11 = .ok (.getfield 20, 3) := by decide +kernel
theorem dX0_leastMeeting_14 : decode cX0_leastMeeting 14 = .ok (.iload_n 3, 1) := by decide +kernel
theorem dX0_leastMeeting_15 : decode cX0_leastMeeting 15 = .ok (.iload_n 3, 1) := by decide +kernel
theorem dX0_leastMeeting_16 : decode cX0_leastMeeting 16 = .ok (.iastore, 1) := by decide +kernel
theorem dX0_leastMeeting_17 : decode cX0_leastMeeting 17 = .ok (.iinc 3 1, 3) := by decide +kernel
theorem dX0_leastMeeting_20 : decode cX0_leastMeeting 20 = .ok (.goto (-18), 3) := by decide +kernel
theorem dX0_leastMeeting_23 : decode cX0_leastMeeting 23 = .ok (.iconst 1, 1) := by decide +kernel
theorem dX0_leastMeeting_24 : decode cX0_leastMeeting 24 = .ok (.istore_n 3, 1) := by decide +kernel
theorem dX0_leastMeeting_25 : decode cX0_leastMeeting 25 = .ok (.iload_n 3, 1) := by decide +kernel
theorem dX0_leastMeeting_26 : decode cX0_leastMeeting 26 = .ok (.iload_n 2, 1) := by decide +kernel
theorem dX0_leastMeeting_27 : decode cX0_leastMeeting 27 = .ok (.if_icmp .gt 27, 3) := by decide +kernel
theorem dX0_leastMeeting_30 : decode cX0_leastMeeting 30 = .ok (.aload_n 0, 1) := by decide +kernel
theorem dX0_leastMeeting_31 : decode cX0_leastMeeting 31 = .ok (.iload_n 1, 1) := by decide +kernel
theorem dX0_leastMeeting_32 : decode cX0_leastMeeting 32 = .ok (.iload_n 3, 1) := by decide +kernel
theorem dX0_leastMeeting_33 : decode cX0_leastMeeting 33 = .ok (.invokestatic 38, 3) := by decide +kernel
theorem dX0_leastMeeting_36 : decode cX0_leastMeeting 36 = .ok (.invokevirtual 42, 3) := by decide +kernel
theorem dX0_leastMeeting_39 : decode cX0_leastMeeting 39 = .ok (.aload_n 0, 1) := by decide +kernel
theorem dX0_leastMeeting_40 : decode cX0_leastMeeting 40 = .ok (.invokevirtual 46, 3) := by decide +kernel
theorem dX0_leastMeeting_43 : decode cX0_leastMeeting 43 = .ok (.ifCond .eq 5, 3) := by decide +kernel
theorem dX0_leastMeeting_46 : decode cX0_leastMeeting 46 = .ok (.iload_n 3, 1) := by decide +kernel
theorem dX0_leastMeeting_47 : decode cX0_leastMeeting 47 = .ok (.ireturn, 1) := by decide +kernel
theorem dX0_leastMeeting_48 : decode cX0_leastMeeting 48 = .ok (.iinc 3 1, 3) := by decide +kernel
theorem dX0_leastMeeting_51 : decode cX0_leastMeeting 51 = .ok (.goto (-26), 3) := by decide +kernel
theorem dX0_leastMeeting_54 : decode cX0_leastMeeting 54 = .ok (.bipush (-2), 2) := by decide +kernel
theorem dX0_leastMeeting_56 : decode cX0_leastMeeting 56 = .ok (.ireturn, 1) := by decide +kernel
theorem dX0_lengthenMap_0 : decode cX0_lengthenMap 0 = .ok (.iconst 0, 1) := by decide +kernel
theorem dX0_lengthenMap_1 : decode cX0_lengthenMap 1 = .ok (.istore_n 2, 1) := by decide +kernel
theorem dX0_lengthenMap_2 : decode cX0_lengthenMap 2 = .ok (.iload_n 2, 1) := by decide +kernel
theorem dX0_lengthenMap_3 : decode cX0_lengthenMap 3 = .ok (.aload_n 0, 1) := by decide +kernel
theorem dX0_lengthenMap_4 : decode cX0_lengthenMap 4 = .ok (.getfield 9, 3) := by decide +kernel
theorem dX0_lengthenMap_7 : decode cX0_lengthenMap 7 = .ok (.if_icmp .ge 28, 3) := by decide +kernel
theorem dX0_lengthenMap_10 : decode cX0_lengthenMap 10 = .ok (.aload_n 0, 1) := by decide +kernel
theorem dX0_lengthenMap_11 : decode cX0_lengthenMap 11 = .ok (.getfield 24, 3) := by decide +kernel
theorem dX0_lengthenMap_14 : decode cX0_lengthenMap 14 = .ok (.iload_n 2, 1) := by decide +kernel
theorem dX0_lengthenMap_15 : decode cX0_lengthenMap 15 = .ok (.aload_n 0, 1) := by decide +kernel
theorem dX0_lengthenMap_16 : decode cX0_lengthenMap 16 = .ok (.getfield 20, 3) := by decide +kernel
theorem dX0_lengthenMap_19 : decode cX0_lengthenMap 19 = .ok (.aload_n 0, 1) := by decide +kernel
theorem dX0_lengthenMap_20 : decode cX0_lengthenMap 20 = .ok (.getfield 17, 3) := by decide +kernel
theorem dX0_lengthenMap_23 : decode cX0_lengthenMap 23 = .ok (.iload_n 1, 1) := by decide +kernel
theorem dX0_lengthenMap_24 : decode cX0_lengthenMap 24 = .ok (.aaload, 1) := by decide +kernel
theorem dX0_lengthenMap_25 : decode cX0_lengthenMap 25 = .ok (.iload_n 2, 1) := by decide +kernel
theorem dX0_lengthenMap_26 : decode cX0_lengthenMap 26 = .ok (.iaload, 1) := by decide +kernel
theorem dX0_lengthenMap_27 : decode cX0_lengthenMap 27 = .ok (.iaload, 1) := by decide +kernel
theorem dX0_lengthenMap_28 : decode cX0_lengthenMap 28 = .ok (.iastore, 1) := by decide +kernel
theorem dX0_lengthenMap_29 : decode cX0_lengthenMap 29 = .ok (.iinc 2 1, 3) := by decide +kernel
theorem dX0_lengthenMap_32 : decode cX0_lengthenMap 32 = .ok (.goto (-30), 3) := by decide +kernel
theorem dX0_lengthenMap_35 : decode cX0_lengthenMap 35 = .ok (.aload_n 0, 1) := by decide +kernel
theorem dX0_lengthenMap_36 : decode cX0_lengthenMap 36 = .ok (.getfield 24, 3) := by decide +kernel
theorem dX0_lengthenMap_39 : decode cX0_lengthenMap 39 = .ok (.iconst 0, 1) := by decide +kernel
theorem dX0_lengthenMap_40 : decode cX0_lengthenMap 40 = .ok (.aload_n 0, 1) := by decide +kernel
theorem dX0_lengthenMap_41 : decode cX0_lengthenMap 41 = .ok (.getfield 20, 3) := by decide +kernel
theorem dX0_lengthenMap_44 : decode cX0_lengthenMap 44 = .ok (.iconst 0, 1) := by decide +kernel
theorem dX0_lengthenMap_45 : decode cX0_lengthenMap 45 = .ok (.aload_n 0, 1) := by decide +kernel
theorem dX0_lengthenMap_46 : decode cX0_lengthenMap 46 = .ok (.getfield 9, 3) := by decide +kernel
theorem dX0_lengthenMap_49 : decode cX0_lengthenMap 49 = .ok (.invokestatic 50, 3) := by decide +kernel
theorem dX0_lengthenMap_52 : decode cX0_lengthenMap 52 = .ok (.return_, 1) := by decide +kernel
theorem dX0_mapMeets_0 : decode cX0_mapMeets 0 = .ok (.iconst 1, 1) := by decide +kernel
theorem dX0_mapMeets_1 : decode cX0_mapMeets 1 = .ok (.istore_n 1, 1) := by decide +kernel
theorem dX0_mapMeets_2 : decode cX0_mapMeets 2 = .ok (.iload_n 1, 1) := by decide +kernel
theorem dX0_mapMeets_3 : decode cX0_mapMeets 3 = .ok (.aload_n 0, 1) := by decide +kernel
theorem dX0_mapMeets_4 : decode cX0_mapMeets 4 = .ok (.getfield 9, 3) := by decide +kernel
theorem dX0_mapMeets_7 : decode cX0_mapMeets 7 = .ok (.if_icmp .ge 26, 3) := by decide +kernel
theorem dX0_mapMeets_10 : decode cX0_mapMeets 10 = .ok (.aload_n 0, 1) := by decide +kernel
theorem dX0_mapMeets_11 : decode cX0_mapMeets 11 = .ok (.getfield 20, 3) := by decide +kernel
theorem dX0_mapMeets_14 : decode cX0_mapMeets 14 = .ok (.iload_n 1, 1) := by decide +kernel
theorem dX0_mapMeets_15 : decode cX0_mapMeets 15 = .ok (.iaload, 1) := by decide +kernel
theorem dX0_mapMeets_16 : decode cX0_mapMeets 16 = .ok (.aload_n 0, 1) := by decide +kernel
theorem dX0_mapMeets_17 : decode cX0_mapMeets 17 = .ok (.getfield 20, 3) := by decide +kernel
theorem dX0_mapMeets_20 : decode cX0_mapMeets 20 = .ok (.iconst 0, 1) := by decide +kernel
theorem dX0_mapMeets_21 : decode cX0_mapMeets 21 = .ok (.iaload, 1) := by decide +kernel
theorem dX0_mapMeets_22 : decode cX0_mapMeets 22 = .ok (.if_icmp .eq 5, 3) := by decide +kernel
theorem dX0_mapMeets_25 : decode cX0_mapMeets 25 = .ok (.iconst 0, 1) := by decide +kernel
theorem dX0_mapMeets_26 : decode cX0_mapMeets 26 = .ok (.ireturn, 1) := by decide +kernel
theorem dX0_mapMeets_27 : decode cX0_mapMeets 27 = .ok (.iinc 1 1, 3) := by decide +kernel
theorem dX0_mapMeets_30 : decode cX0_mapMeets 30 = .ok (.goto (-28), 3) := by decide +kernel
theorem dX0_mapMeets_33 : decode cX0_mapMeets 33 = .ok (.iconst 1, 1) := by decide +kernel
theorem dX0_mapMeets_34 : decode cX0_mapMeets 34 = .ok (.ireturn, 1) := by decide +kernel
set_option maxRecDepth 20000 in
theorem ggX0_leastBounded_X0_boundsMeet : GoodIn wsX0_leastBounded wsX0_boundsMeet := goodIn_r _ [5, 6, 7, 8, 9, 10, 11, 12, 13, 14, 15, 16, 17, 18, 19, 20, 21, 22, 23, 24, 25, 26, 27, 28, 29, 30] (by decide +kernel) (by decide +kernel)
set_option maxRecDepth 20000 in
theorem gX0_leastBounded_X0_boundsMeet : GoodIn wsX0_leastBounded (wsV RX0 56 RX0 yX0_boundsMeet wsX0_boundsMeet) := goodIn_app (goodIn_of _ (by decide +kernel)) ggX0_leastBounded_X0_boundsMeet
theorem dX0_leastBounded_0 : decode cX0_leastBounded 0 = .ok (.iconst 1, 1) := by decide +kernel
theorem dX0_leastBounded_1 : decode cX0_leastBounded 1 = .ok (.istore_n 3, 1) := by decide +kernel
theorem dX0_leastBounded_2 : decode cX0_leastBounded 2 = .ok (.iload_n 3, 1) := by decide +kernel
theorem dX0_leastBounded_3 : decode cX0_leastBounded 3 = .ok (.iload_n 2, 1) := by decide +kernel
theorem dX0_leastBounded_4 : decode cX0_leastBounded 4 = .ok (.if_icmp .gt 20, 3) := by decide +kernel
theorem dX0_leastBounded_7 : decode cX0_leastBounded 7 = .ok (.aload_n 0, 1) := by decide +kernel
theorem dX0_leastBounded_8 : decode cX0_leastBounded 8 = .ok (.iload_n 1, 1) := by decide +kernel
theorem dX0_leastBounded_9 : decode cX0_leastBounded 9 = .ok (.iload_n 3, 1) := by decide +kernel
theorem dX0_leastBounded_10 : decode cX0_leastBounded 10 = .ok (.invokevirtual 56, 3) := by decide +kernel
theorem dX0_leastBounded_13 : decode cX0_leastBounded 13 = .ok (.ifCond .eq 5, 3) := by decide +kernel
theorem dX0_leastBounded_16 : decode cX0_leastBounded 16 = .ok (.iload_n 3, 1) := by decide +kernel
theorem dX0_leastBounded_17 : decode cX0_leastBounded 17 = .ok (.ireturn, 1) := by decide +kernel
theorem dX0_leastBounded_18 : decode cX0_leastBounded 18 = .ok (.iinc 3 1, 3) := by decide +kernel
theorem dX0_leastBounded_21 : decode cX0_leastBounded 21 = .ok (.goto (-19), 3) := by decide +kernel
theorem dX0_leastBounded_24 : decode cX0_leastBounded 24 = .ok (.bipush (-2), 2) := by decide +kernel
theorem dX0_leastBounded_26 : decode cX0_leastBounded 26 = .ok (.ireturn, 1) := by decide +kernel
set_option maxRecDepth 20000 in
theorem ggX0_boundsMeet_X4_signAt : GoodIn wsX0_boundsMeet wsX4_signAt := goodIn_r _ [12, 13, 14, 11, 15, 16, 17, 18] (by decide +kernel) (by decide +kernel)
set_option maxRecDepth 20000 in
theorem gX0_boundsMeet_X4_signAt_n38 : GoodIn wsX0_boundsMeet (wsX4_signAt) := ggX0_boundsMeet_X4_signAt
theorem dX0_boundsMeet_0 : decode cX0_boundsMeet 0 = .ok (.iconst 0, 1) := by decide +kernel
theorem dX0_boundsMeet_1 : decode cX0_boundsMeet 1 = .ok (.istore_n 3, 1) := by decide +kernel
theorem dX0_boundsMeet_2 : decode cX0_boundsMeet 2 = .ok (.aload_n 0, 1) := by decide +kernel
theorem dX0_boundsMeet_3 : decode cX0_boundsMeet 3 = .ok (.getfield 9, 3) := by decide +kernel
theorem dX0_boundsMeet_6 : decode cX0_boundsMeet 6 = .ok (.iconst 1, 1) := by decide +kernel
theorem dX0_boundsMeet_7 : decode cX0_boundsMeet 7 = .ok (.isub, 1) := by decide +kernel
theorem dX0_boundsMeet_8 : decode cX0_boundsMeet 8 = .ok (.istore 4, 2) := by decide +kernel
theorem dX0_boundsMeet_10 : decode cX0_boundsMeet 10 = .ok (.iload_n 2, 1) := by decide +kernel
theorem dX0_boundsMeet_11 : decode cX0_boundsMeet 11 = .ok (.istore 5, 2) := by decide +kernel
theorem dX0_boundsMeet_13 : decode cX0_boundsMeet 13 = .ok (.iload 5, 2) := by decide +kernel
theorem dX0_boundsMeet_15 : decode cX0_boundsMeet 15 = .ok (.iconst 1, 1) := by decide +kernel
theorem dX0_boundsMeet_16 : decode cX0_boundsMeet 16 = .ok (.if_icmp .lt 83, 3) := by decide +kernel
theorem dX0_boundsMeet_19 : decode cX0_boundsMeet 19 = .ok (.aload_n 0, 1) := by decide +kernel
theorem dX0_boundsMeet_20 : decode cX0_boundsMeet 20 = .ok (.getfield 17, 3) := by decide +kernel
theorem dX0_boundsMeet_23 : decode cX0_boundsMeet 23 = .ok (.iload_n 1, 1) := by decide +kernel
theorem dX0_boundsMeet_24 : decode cX0_boundsMeet 24 = .ok (.iload 5, 2) := by decide +kernel
theorem dX0_boundsMeet_26 : decode cX0_boundsMeet 26 = .ok (.invokestatic 38, 3) := by decide +kernel
theorem dX0_boundsMeet_29 : decode cX0_boundsMeet 29 = .ok (.aaload, 1) := by decide +kernel
theorem dX0_boundsMeet_30 : decode cX0_boundsMeet 30 = .ok (.astore 6, 2) := by decide +kernel
theorem dX0_boundsMeet_32 : decode cX0_boundsMeet 32 = .ok (.aload 6, 2) := by decide +kernel
theorem dX0_boundsMeet_34 : decode cX0_boundsMeet 34 = .ok (.iload_n 3, 1) := by decide +kernel
theorem dX0_boundsMeet_35 : decode cX0_boundsMeet 35 = .ok (.iaload, 1) := by decide +kernel
theorem dX0_boundsMeet_36 : decode cX0_boundsMeet 36 = .ok (.istore 7, 2) := by decide +kernel
theorem dX0_boundsMeet_38 : decode cX0_boundsMeet 38 = .ok (.aload 6, 2) := by decide +kernel
theorem dX0_boundsMeet_40 : decode cX0_boundsMeet 40 = .ok (.iload_n 3, 1) := by decide +kernel
theorem dX0_boundsMeet_41 : decode cX0_boundsMeet 41 = .ok (.iaload, 1) := by decide +kernel
theorem dX0_boundsMeet_42 : decode cX0_boundsMeet 42 = .ok (.istore 8, 2) := by decide +kernel
theorem dX0_boundsMeet_44 : decode cX0_boundsMeet 44 = .ok (.iload_n 3, 1) := by decide +kernel
theorem dX0_boundsMeet_45 : decode cX0_boundsMeet 45 = .ok (.iconst 1, 1) := by decide +kernel
theorem dX0_boundsMeet_46 : decode cX0_boundsMeet 46 = .ok (.iadd, 1) := by decide +kernel
theorem dX0_boundsMeet_47 : decode cX0_boundsMeet 47 = .ok (.istore 9, 2) := by decide +kernel
theorem dX0_boundsMeet_49 : decode cX0_boundsMeet 49 = .ok (.iload 9, 2) := by decide +kernel
theorem dX0_boundsMeet_51 : decode cX0_boundsMeet 51 = .ok (.iload 4, 2) := by decide +kernel
theorem dX0_boundsMeet_53 : decode cX0_boundsMeet 53 = .ok (.if_icmp .gt 33, 3) := by decide +kernel
theorem dX0_boundsMeet_56 : decode cX0_boundsMeet 56 = .ok (.iload 7, 2) := by decide +kernel
theorem dX0_boundsMeet_58 : decode cX0_boundsMeet 58 = .ok (.aload 6, 2) := by decide +kernel
theorem dX0_boundsMeet_60 : decode cX0_boundsMeet 60 = .ok (.iload 9, 2) := by decide +kernel
theorem dX0_boundsMeet_62 : decode cX0_boundsMeet 62 = .ok (.iaload, 1) := by decide +kernel
theorem dX0_boundsMeet_63 : decode cX0_boundsMeet 63 = .ok (.invokestatic 60, 3) := by decide +kernel
theorem dX0_boundsMeet_66 : decode cX0_boundsMeet 66 = .ok (.istore 7, 2) := by decide +kernel
theorem dX0_boundsMeet_68 : decode cX0_boundsMeet 68 = .ok (.iload 8, 2) := by decide +kernel
theorem dX0_boundsMeet_70 : decode cX0_boundsMeet 70 = .ok (.aload 6, 2) := by decide +kernel
theorem dX0_boundsMeet_72 : decode cX0_boundsMeet 72 = .ok (.iload 9, 2) := by decide +kernel
theorem dX0_boundsMeet_74 : decode cX0_boundsMeet 74 = .ok (.iaload, 1) := by decide +kernel
theorem dX0_boundsMeet_75 : decode cX0_boundsMeet 75 = .ok (.invokestatic 65, 3) := by decide +kernel
theorem dX0_boundsMeet_78 : decode cX0_boundsMeet 78 = .ok (.istore 8, 2) := by decide +kernel
theorem dX0_boundsMeet_80 : decode cX0_boundsMeet 80 = .ok (.iinc 9 1, 3) := by decide +kernel
theorem dX0_boundsMeet_83 : decode cX0_boundsMeet 83 = .ok (.goto (-34), 3) := by decide +kernel
theorem dX0_boundsMeet_86 : decode cX0_boundsMeet 86 = .ok (.iload 7, 2) := by decide +kernel
theorem dX0_boundsMeet_88 : decode cX0_boundsMeet 88 = .ok (.istore_n 3, 1) := by decide +kernel
theorem dX0_boundsMeet_89 : decode cX0_boundsMeet 89 = .ok (.iload 8, 2) := by decide +kernel
theorem dX0_boundsMeet_91 : decode cX0_boundsMeet 91 = .ok (.istore 4, 2) := by decide +kernel
theorem dX0_boundsMeet_93 : decode cX0_boundsMeet 93 = .ok (.iinc 5 (-1), 3) := by decide +kernel
theorem dX0_boundsMeet_96 : decode cX0_boundsMeet 96 = .ok (.goto (-83), 3) := by decide +kernel
theorem dX0_boundsMeet_99 : decode cX0_boundsMeet 99 = .ok (.iload_n 3, 1) := by decide +kernel
theorem dX0_boundsMeet_100 : decode cX0_boundsMeet 100 = .ok (.iload 4, 2) := by decide +kernel
theorem dX0_boundsMeet_102 : decode cX0_boundsMeet 102 = .ok (.if_icmp .ne 7, 3) := by decide +kernel
theorem dX0_boundsMeet_105 : decode cX0_boundsMeet 105 = .ok (.iconst 1, 1) := by decide +kernel
theorem dX0_boundsMeet_106 : decode cX0_boundsMeet 106 = .ok (.goto 4, 3) := by decide +kernel
theorem dX0_boundsMeet_109 : decode cX0_boundsMeet 109 = .ok (.iconst 0, 1) := by decide +kernel
theorem dX0_boundsMeet_110 : decode cX0_boundsMeet 110 = .ok (.ireturn, 1) := by decide +kernel
theorem dX0_keepsOrder_0 : decode cX0_keepsOrder 0 = .ok (.iconst 0, 1) := by decide +kernel
theorem dX0_keepsOrder_1 : decode cX0_keepsOrder 1 = .ok (.istore_n 1, 1) := by decide +kernel
theorem dX0_keepsOrder_2 : decode cX0_keepsOrder 2 = .ok (.iload_n 1, 1) := by decide +kernel
theorem dX0_keepsOrder_3 : decode cX0_keepsOrder 3 = .ok (.bipush 8, 2) := by decide +kernel
theorem dX0_keepsOrder_5 : decode cX0_keepsOrder 5 = .ok (.if_icmp .ge 48, 3) := by decide +kernel
theorem dX0_keepsOrder_8 : decode cX0_keepsOrder 8 = .ok (.iconst 1, 1) := by decide +kernel
theorem dX0_keepsOrder_9 : decode cX0_keepsOrder 9 = .ok (.istore_n 2, 1) := by decide +kernel
theorem dX0_keepsOrder_10 : decode cX0_keepsOrder 10 = .ok (.iload_n 2, 1) := by decide +kernel
theorem dX0_keepsOrder_11 : decode cX0_keepsOrder 11 = .ok (.aload_n 0, 1) := by decide +kernel
theorem dX0_keepsOrder_12 : decode cX0_keepsOrder 12 = .ok (.getfield 9, 3) := by decide +kernel
theorem dX0_keepsOrder_15 : decode cX0_keepsOrder 15 = .ok (.if_icmp .ge 32, 3) := by decide +kernel
theorem dX0_keepsOrder_18 : decode cX0_keepsOrder 18 = .ok (.aload_n 0, 1) := by decide +kernel
theorem dX0_keepsOrder_19 : decode cX0_keepsOrder 19 = .ok (.getfield 17, 3) := by decide +kernel
theorem dX0_keepsOrder_22 : decode cX0_keepsOrder 22 = .ok (.iload_n 1, 1) := by decide +kernel
theorem dX0_keepsOrder_23 : decode cX0_keepsOrder 23 = .ok (.aaload, 1) := by decide +kernel
theorem dX0_keepsOrder_24 : decode cX0_keepsOrder 24 = .ok (.iload_n 2, 1) := by decide +kernel
theorem dX0_keepsOrder_25 : decode cX0_keepsOrder 25 = .ok (.iconst 1, 1) := by decide +kernel
theorem dX0_keepsOrder_26 : decode cX0_keepsOrder 26 = .ok (.isub, 1) := by decide +kernel
theorem dX0_keepsOrder_27 : decode cX0_keepsOrder 27 = .ok (.iaload, 1) := by decide +kernel
theorem dX0_keepsOrder_28 : decode cX0_keepsOrder 28 = .ok (.aload_n 0, 1) := by decide +kernel
theorem dX0_keepsOrder_29 : decode cX0_keepsOrder 29 = .ok (.getfield 17, 3) := by decide +kernel
theorem dX0_keepsOrder_32 : decode cX0_keepsOrder 32 = .ok (.iload_n 1, 1) := by decide +kernel
theorem dX0_keepsOrder_33 : decode cX0_keepsOrder 33 = .ok (.aaload, 1) := by decide +kernel
theorem dX0_keepsOrder_34 : decode cX0_keepsOrder 34 = .ok (.iload_n 2, 1) := by decide +kernel
theorem dX0_keepsOrder_35 : decode cX0_keepsOrder 35 = .ok (.iaload, 1) := by decide +kernel
theorem dX0_keepsOrder_36 : decode cX0_keepsOrder 36 = .ok (.if_icmp .le 5, 3) := by decide +kernel
theorem dX0_keepsOrder_39 : decode cX0_keepsOrder 39 = .ok (.iconst 0, 1) := by decide +kernel
theorem dX0_keepsOrder_40 : decode cX0_keepsOrder 40 = .ok (.ireturn, 1) := by decide +kernel
theorem dX0_keepsOrder_41 : decode cX0_keepsOrder 41 = .ok (.iinc 2 1, 3) := by decide +kernel
theorem dX0_keepsOrder_44 : decode cX0_keepsOrder 44 = .ok (.goto (-34), 3) := by decide +kernel
theorem dX0_keepsOrder_47 : decode cX0_keepsOrder 47 = .ok (.iinc 1 1, 3) := by decide +kernel
theorem dX0_keepsOrder_50 : decode cX0_keepsOrder 50 = .ok (.goto (-48), 3) := by decide +kernel
theorem dX0_keepsOrder_53 : decode cX0_keepsOrder 53 = .ok (.iconst 1, 1) := by decide +kernel
theorem dX0_keepsOrder_54 : decode cX0_keepsOrder 54 = .ok (.ireturn, 1) := by decide +kernel
theorem dX0_allStates_0 : decode cX0_allStates 0 = .ok (.iconst 1, 1) := by decide +kernel
theorem dX0_allStates_1 : decode cX0_allStates 1 = .ok (.aload_n 0, 1) := by decide +kernel
theorem dX0_allStates_2 : decode cX0_allStates 2 = .ok (.getfield 9, 3) := by decide +kernel
theorem dX0_allStates_5 : decode cX0_allStates 5 = .ok (.ishl, 1) := by decide +kernel
theorem dX0_allStates_6 : decode cX0_allStates 6 = .ok (.iconst 1, 1) := by decide +kernel
theorem dX0_allStates_7 : decode cX0_allStates 7 = .ok (.isub, 1) := by decide +kernel
theorem dX0_allStates_8 : decode cX0_allStates 8 = .ok (.ireturn, 1) := by decide +kernel
theorem dX0_imageOf_0 : decode cX0_imageOf 0 = .ok (.iconst 0, 1) := by decide +kernel
theorem dX0_imageOf_1 : decode cX0_imageOf 1 = .ok (.istore_n 3, 1) := by decide +kernel
theorem dX0_imageOf_2 : decode cX0_imageOf 2 = .ok (.iconst 0, 1) := by decide +kernel
theorem dX0_imageOf_3 : decode cX0_imageOf 3 = .ok (.istore 4, 2) := by decide +kernel
theorem dX0_imageOf_5 : decode cX0_imageOf 5 = .ok (.iload 4, 2) := by decide +kernel
theorem dX0_imageOf_7 : decode cX0_imageOf 7 = .ok (.aload_n 0, 1) := by decide +kernel
theorem dX0_imageOf_8 : decode cX0_imageOf 8 = .ok (.getfield 9, 3) := by decide +kernel
theorem dX0_imageOf_11 : decode cX0_imageOf 11 = .ok (.if_icmp .ge 32, 3) := by decide +kernel
theorem dX0_imageOf_14 : decode cX0_imageOf 14 = .ok (.iload_n 1, 1) := by decide +kernel
theorem dX0_imageOf_15 : decode cX0_imageOf 15 = .ok (.iload 4, 2) := by decide +kernel
theorem dX0_imageOf_17 : decode cX0_imageOf 17 = .ok (.ishr, 1) := by decide +kernel
theorem dX0_imageOf_18 : decode cX0_imageOf 18 = .ok (.iconst 1, 1) := by decide +kernel
theorem dX0_imageOf_19 : decode cX0_imageOf 19 = .ok (.iand, 1) := by decide +kernel
theorem dX0_imageOf_20 : decode cX0_imageOf 20 = .ok (.ifCond .eq 17, 3) := by decide +kernel
theorem dX0_imageOf_23 : decode cX0_imageOf 23 = .ok (.iload_n 3, 1) := by decide +kernel
theorem dX0_imageOf_24 : decode cX0_imageOf 24 = .ok (.iconst 1, 1) := by decide +kernel
theorem dX0_imageOf_25 : decode cX0_imageOf 25 = .ok (.aload_n 0, 1) := by decide +kernel
theorem dX0_imageOf_26 : decode cX0_imageOf 26 = .ok (.getfield 17, 3) := by decide +kernel
theorem dX0_imageOf_29 : decode cX0_imageOf 29 = .ok (.iload_n 2, 1) := by decide +kernel
theorem dX0_imageOf_30 : decode cX0_imageOf 30 = .ok (.aaload, 1) := by decide +kernel
theorem dX0_imageOf_31 : decode cX0_imageOf 31 = .ok (.iload 4, 2) := by decide +kernel
theorem dX0_imageOf_33 : decode cX0_imageOf 33 = .ok (.iaload, 1) := by decide +kernel
theorem dX0_imageOf_34 : decode cX0_imageOf 34 = .ok (.ishl, 1) := by decide +kernel
theorem dX0_imageOf_35 : decode cX0_imageOf 35 = .ok (.ior, 1) := by decide +kernel
theorem dX0_imageOf_36 : decode cX0_imageOf 36 = .ok (.istore_n 3, 1) := by decide +kernel
theorem dX0_imageOf_37 : decode cX0_imageOf 37 = .ok (.iinc 4 1, 3) := by decide +kernel
theorem dX0_imageOf_40 : decode cX0_imageOf 40 = .ok (.goto (-35), 3) := by decide +kernel
theorem dX0_imageOf_43 : decode cX0_imageOf 43 = .ok (.iload_n 3, 1) := by decide +kernel
theorem dX0_imageOf_44 : decode cX0_imageOf 44 = .ok (.ireturn, 1) := by decide +kernel
theorem dX0_isSingle_0 : decode cX0_isSingle 0 = .ok (.iload_n 0, 1) := by decide +kernel
theorem dX0_isSingle_1 : decode cX0_isSingle 1 = .ok (.iload_n 0, 1) := by decide +kernel
theorem dX0_isSingle_2 : decode cX0_isSingle 2 = .ok (.iconst 1, 1) := by decide +kernel
theorem dX0_isSingle_3 : decode cX0_isSingle 3 = .ok (.isub, 1) := by decide +kernel
theorem dX0_isSingle_4 : decode cX0_isSingle 4 = .ok (.iand, 1) := by decide +kernel
theorem dX0_isSingle_5 : decode cX0_isSingle 5 = .ok (.ifCond .ne 7, 3) := by decide +kernel
theorem dX0_isSingle_8 : decode cX0_isSingle 8 = .ok (.iconst 1, 1) := by decide +kernel
theorem dX0_isSingle_9 : decode cX0_isSingle 9 = .ok (.goto 4, 3) := by decide +kernel
theorem dX0_isSingle_12 : decode cX0_isSingle 12 = .ok (.iconst 0, 1) := by decide +kernel
theorem dX0_isSingle_13 : decode cX0_isSingle 13 = .ok (.ireturn, 1) := by decide +kernel
set_option maxRecDepth 20000 in
theorem ggX0_rowsMeeting_J7_fill_53178 : GoodIn wsX0_rowsMeeting wsJ7_fill_53178 := goodIn_r _ [5] (by decide +kernel) (by decide +kernel)
set_option maxRecDepth 20000 in
theorem gX0_rowsMeeting_J7_fill_53178 : GoodIn wsX0_rowsMeeting (va_wsS RX0 68 yJ7_fill_53178 wsJ7_fill_53178) := goodIn_app (goodIn_of _ (by decide +kernel)) ggX0_rowsMeeting_J7_fill_53178
set_option maxRecDepth 20000 in
theorem ggX0_rowsMeeting_X0_allStates : GoodIn wsX0_rowsMeeting wsX0_allStates := goodIn_r _ [10, 11, 29, 30, 31, 32, 33, 34, 35] (by decide +kernel) (by decide +kernel)
set_option maxRecDepth 20000 in
theorem gX0_rowsMeeting_X0_allStates : GoodIn wsX0_rowsMeeting (wsV RX0 74 RX0 yX0_allStates wsX0_allStates) := goodIn_app (goodIn_of _ (by decide +kernel)) ggX0_rowsMeeting_X0_allStates
set_option maxRecDepth 20000 in
theorem ggX0_rowsMeeting_X0_lengthenRows : GoodIn wsX0_rowsMeeting wsX0_lengthenRows := goodIn_r _ [15, 16, 1, 17, 18, 19, 20, 2, 3, 4, 5, 6, 7, 8, 9, 10, 11, 21, 22, 23, 24, 25, 29, 30, 31, 32, 33, 34, 35] (by decide +kernel) (by decide +kernel)
set_option maxRecDepth 20000 in
theorem gX0_rowsMeeting_X0_lengthenRows : GoodIn wsX0_rowsMeeting (wsV RX0 78 RX0 yX0_lengthenRows wsX0_lengthenRows) := goodIn_app (goodIn_of _ (by decide +kernel)) ggX0_rowsMeeting_X0_lengthenRows
set_option maxRecDepth 20000 in
theorem ggX0_rowsMeeting_X0_isSingle : GoodIn wsX0_rowsMeeting wsX0_isSingle := goodIn_r _ [28] (by decide +kernel) (by decide +kernel)
set_option maxRecDepth 20000 in
theorem gX0_rowsMeeting_X0_isSingle : GoodIn wsX0_rowsMeeting (va_wsS RX0 81 yX0_isSingle wsX0_isSingle) := goodIn_app (goodIn_of _ (by decide +kernel)) ggX0_rowsMeeting_X0_isSingle
theorem dX0_rowsMeeting_0 : decode cX0_rowsMeeting 0 = .ok (.aload_n 0, 1) := by decide +kernel
theorem dX0_rowsMeeting_1 : decode cX0_rowsMeeting 1 = .ok (.getfield 27, 3) := by decide +kernel
theorem dX0_rowsMeeting_4 : decode cX0_rowsMeeting 4 = .ok (.iconst 0, 1) := by decide +kernel
theorem dX0_rowsMeeting_5 : decode cX0_rowsMeeting 5 = .ok (.invokestatic 68, 3) := by decide +kernel
theorem dX0_rowsMeeting_8 : decode cX0_rowsMeeting 8 = .ok (.aload_n 0, 1) := by decide +kernel
theorem dX0_rowsMeeting_9 : decode cX0_rowsMeeting 9 = .ok (.getfield 27, 3) := by decide +kernel
theorem dX0_rowsMeeting_12 : decode cX0_rowsMeeting 12 = .ok (.aload_n 0, 1) := by decide +kernel
theorem dX0_rowsMeeting_13 : decode cX0_rowsMeeting 13 = .ok (.invokevirtual 74, 3) := by decide +kernel
theorem dX0_rowsMeeting_16 : decode cX0_rowsMeeting 16 = .ok (.iconst 1, 1) := by decide +kernel
theorem dX0_rowsMeeting_17 : decode cX0_rowsMeeting 17 = .ok (.iastore, 1) := by decide +kernel
theorem dX0_rowsMeeting_18 : decode cX0_rowsMeeting 18 = .ok (.iconst 0, 1) := by decide +kernel
theorem dX0_rowsMeeting_19 : decode cX0_rowsMeeting 19 = .ok (.istore_n 3, 1) := by decide +kernel
theorem dX0_rowsMeeting_20 : decode cX0_rowsMeeting 20 = .ok (.iload_n 3, 1) := by decide +kernel
theorem dX0_rowsMeeting_21 : decode cX0_rowsMeeting 21 = .ok (.iload_n 1, 1) := by decide +kernel
theorem dX0_rowsMeeting_22 : decode cX0_rowsMeeting 22 = .ok (.if_icmp .ge 13, 3) := by decide +kernel
theorem dX0_rowsMeeting_25 : decode cX0_rowsMeeting 25 = .ok (.aload_n 0, 1) := by decide +kernel
theorem dX0_rowsMeeting_26 : decode cX0_rowsMeeting 26 = .ok (.invokevirtual 78, 3) := by decide +kernel
theorem dX0_rowsMeeting_29 : decode cX0_rowsMeeting 29 = .ok (.iinc 3 1, 3) := by decide +kernel
theorem dX0_rowsMeeting_32 : decode cX0_rowsMeeting 32 = .ok (.goto (-12), 3) := by decide +kernel
theorem dX0_rowsMeeting_35 : decode cX0_rowsMeeting 35 = .ok (.iload_n 2, 1) := by decide +kernel
theorem dX0_rowsMeeting_36 : decode cX0_rowsMeeting 36 = .ok (.ifCond .lt 12, 3) := by decide +kernel
theorem dX0_rowsMeeting_39 : decode cX0_rowsMeeting 39 = .ok (.aload_n 0, 1) := by decide +kernel
theorem dX0_rowsMeeting_40 : decode cX0_rowsMeeting 40 = .ok (.getfield 27, 3) := by decide +kernel
theorem dX0_rowsMeeting_43 : decode cX0_rowsMeeting 43 = .ok (.iconst 1, 1) := by decide +kernel
theorem dX0_rowsMeeting_44 : decode cX0_rowsMeeting 44 = .ok (.iload_n 2, 1) := by decide +kernel
theorem dX0_rowsMeeting_45 : decode cX0_rowsMeeting 45 = .ok (.ishl, 1) := by decide +kernel
theorem dX0_rowsMeeting_46 : decode cX0_rowsMeeting 46 = .ok (.iaload, 1) := by decide +kernel
theorem dX0_rowsMeeting_47 : decode cX0_rowsMeeting 47 = .ok (.ireturn, 1) := by decide +kernel
theorem dX0_rowsMeeting_48 : decode cX0_rowsMeeting 48 = .ok (.iconst 0, 1) := by decide +kernel
theorem dX0_rowsMeeting_49 : decode cX0_rowsMeeting 49 = .ok (.istore_n 3, 1) := by decide +kernel
theorem dX0_rowsMeeting_50 : decode cX0_rowsMeeting 50 = .ok (.iconst 1, 1) := by decide +kernel
theorem dX0_rowsMeeting_51 : decode cX0_rowsMeeting 51 = .ok (.istore 4, 2) := by decide +kernel
theorem dX0_rowsMeeting_53 : decode cX0_rowsMeeting 53 = .ok (.iload 4, 2) := by decide +kernel
theorem dX0_rowsMeeting_55 : decode cX0_rowsMeeting 55 = .ok (.aload_n 0, 1) := by decide +kernel
theorem dX0_rowsMeeting_56 : decode cX0_rowsMeeting 56 = .ok (.invokevirtual 74, 3) := by decide +kernel
theorem dX0_rowsMeeting_59 : decode cX0_rowsMeeting 59 = .ok (.if_icmp .gt 27, 3) := by decide +kernel
theorem dX0_rowsMeeting_62 : decode cX0_rowsMeeting 62 = .ok (.iload 4, 2) := by decide +kernel
theorem dX0_rowsMeeting_64 : decode cX0_rowsMeeting 64 = .ok (.invokestatic 81, 3) := by decide +kernel
theorem dX0_rowsMeeting_67 : decode cX0_rowsMeeting 67 = .ok (.ifCond .ne 13, 3) := by decide +kernel
theorem dX0_rowsMeeting_70 : decode cX0_rowsMeeting 70 = .ok (.iload_n 3, 1) := by decide +kernel
theorem dX0_rowsMeeting_71 : decode cX0_rowsMeeting 71 = .ok (.aload_n 0, 1) := by decide +kernel
theorem dX0_rowsMeeting_72 : decode cX0_rowsMeeting 72 = .ok (.getfield 27, 3) := by decide +kernel
theorem dX0_rowsMeeting_75 : decode cX0_rowsMeeting 75 = .ok (.iload 4, 2) := by decide +kernel
theorem dX0_rowsMeeting_77 : decode cX0_rowsMeeting 77 = .ok (.iaload, 1) := by decide +kernel
theorem dX0_rowsMeeting_78 : decode cX0_rowsMeeting 78 = .ok (.iadd, 1) := by decide +kernel
theorem dX0_rowsMeeting_79 : decode cX0_rowsMeeting 79 = .ok (.istore_n 3, 1) := by decide +kernel
theorem dX0_rowsMeeting_80 : decode cX0_rowsMeeting 80 = .ok (.iinc 4 1, 3) := by decide +kernel
theorem dX0_rowsMeeting_83 : decode cX0_rowsMeeting 83 = .ok (.goto (-30), 3) := by decide +kernel
theorem dX0_rowsMeeting_86 : decode cX0_rowsMeeting 86 = .ok (.iload_n 3, 1) := by decide +kernel
theorem dX0_rowsMeeting_87 : decode cX0_rowsMeeting 87 = .ok (.ireturn, 1) := by decide +kernel
set_option maxRecDepth 20000 in
theorem ggX0_lengthenRows_J7_fill_53178 : GoodIn wsX0_lengthenRows wsJ7_fill_53178 := goodIn_r _ [10] (by decide +kernel) (by decide +kernel)
set_option maxRecDepth 20000 in
theorem gX0_lengthenRows_J7_fill_53178 : GoodIn wsX0_lengthenRows (va_wsS RX0 68 yJ7_fill_53178 wsJ7_fill_53178) := goodIn_app (goodIn_of _ (by decide +kernel)) ggX0_lengthenRows_J7_fill_53178
set_option maxRecDepth 20000 in
theorem ggX0_lengthenRows_X0_allStates : GoodIn wsX0_lengthenRows wsX0_allStates := goodIn_r _ [15, 16, 22, 23, 24, 25, 26, 27, 28] (by decide +kernel) (by decide +kernel)
set_option maxRecDepth 20000 in
theorem gX0_lengthenRows_X0_allStates : GoodIn wsX0_lengthenRows (wsV RX0 74 RX0 yX0_allStates wsX0_allStates) := goodIn_app (goodIn_of _ (by decide +kernel)) ggX0_lengthenRows_X0_allStates
set_option maxRecDepth 20000 in
theorem ggX0_lengthenRows_X0_imageOf : GoodIn wsX0_lengthenRows wsX0_imageOf := goodIn_r _ [20, 16, 21, 22, 23, 24, 25, 26, 27, 28] (by decide +kernel) (by decide +kernel)
set_option maxRecDepth 20000 in
theorem gX0_lengthenRows_X0_imageOf : GoodIn wsX0_lengthenRows (wsV RX0 85 RX0 yX0_imageOf wsX0_imageOf) := goodIn_app (goodIn_of _ (by decide +kernel)) ggX0_lengthenRows_X0_imageOf
theorem dX0_lengthenRows_0 : decode cX0_lengthenRows 0 = .ok (.aload_n 0, 1) := by decide +kernel
theorem dX0_lengthenRows_1 : decode cX0_lengthenRows 1 = .ok (.getfield 30, 3) := by decide +kernel
theorem dX0_lengthenRows_4 : decode cX0_lengthenRows 4 = .ok (.iconst 0, 1) := by decide +kernel
theorem dX0_lengthenRows_5 : decode cX0_lengthenRows 5 = .ok (.invokestatic 68, 3) := by decide +kernel
theorem dX0_lengthenRows_8 : decode cX0_lengthenRows 8 = .ok (.iconst 1, 1) := by decide +kernel
theorem dX0_lengthenRows_9 : decode cX0_lengthenRows 9 = .ok (.istore_n 1, 1) := by decide +kernel
theorem dX0_lengthenRows_10 : decode cX0_lengthenRows 10 = .ok (.iload_n 1, 1) := by decide +kernel
theorem dX0_lengthenRows_11 : decode cX0_lengthenRows 11 = .ok (.aload_n 0, 1) := by decide +kernel
theorem dX0_lengthenRows_12 : decode cX0_lengthenRows 12 = .ok (.invokevirtual 74, 3) := by decide +kernel
theorem dX0_lengthenRows_15 : decode cX0_lengthenRows 15 = .ok (.if_icmp .gt 52, 3) := by decide +kernel
theorem dX0_lengthenRows_18 : decode cX0_lengthenRows 18 = .ok (.aload_n 0, 1) := by decide +kernel
theorem dX0_lengthenRows_19 : decode cX0_lengthenRows 19 = .ok (.getfield 27, 3) := by decide +kernel
theorem dX0_lengthenRows_22 : decode cX0_lengthenRows 22 = .ok (.iload_n 1, 1) := by decide +kernel
theorem dX0_lengthenRows_23 : decode cX0_lengthenRows 23 = .ok (.iaload, 1) := by decide +kernel
theorem dX0_lengthenRows_24 : decode cX0_lengthenRows 24 = .ok (.ifCond .eq 37, 3) := by decide +kernel
theorem dX0_lengthenRows_27 : decode cX0_lengthenRows 27 = .ok (.iconst 0, 1) := by decide +kernel
theorem dX0_lengthenRows_28 : decode cX0_lengthenRows 28 = .ok (.istore_n 2, 1) := by decide +kernel
theorem dX0_lengthenRows_29 : decode cX0_lengthenRows 29 = .ok (.iload_n 2, 1) := by decide +kernel
theorem dX0_lengthenRows_30 : decode cX0_lengthenRows 30 = .ok (.bipush 8, 2) := by decide +kernel
theorem dX0_lengthenRows_32 : decode cX0_lengthenRows 32 = .ok (.if_icmp .ge 29, 3) := by decide +kernel
theorem dX0_lengthenRows_35 : decode cX0_lengthenRows 35 = .ok (.aload_n 0, 1) := by decide +kernel
theorem dX0_lengthenRows_36 : decode cX0_lengthenRows 36 = .ok (.getfield 30, 3) := by decide +kernel
theorem dX0_lengthenRows_39 : decode cX0_lengthenRows 39 = .ok (.aload_n 0, 1) := by decide +kernel
theorem dX0_lengthenRows_40 : decode cX0_lengthenRows 40 = .ok (.iload_n 1, 1) := by decide +kernel
theorem dX0_lengthenRows_41 : decode cX0_lengthenRows 41 = .ok (.iload_n 2, 1) := by decide +kernel
theorem dX0_lengthenRows_42 : decode cX0_lengthenRows 42 = .ok (.invokevirtual 85, 3) := by decide +kernel
theorem dX0_lengthenRows_45 : decode cX0_lengthenRows 45 = .ok (.dup2, 1) := by decide +kernel
theorem dX0_lengthenRows_46 : decode cX0_lengthenRows 46 = .ok (.iaload, 1) := by decide +kernel
theorem dX0_lengthenRows_47 : decode cX0_lengthenRows 47 = .ok (.aload_n 0, 1) := by decide +kernel
theorem dX0_lengthenRows_48 : decode cX0_lengthenRows 48 = .ok (.getfield 27, 3) := by decide +kernel
theorem dX0_lengthenRows_51 : decode cX0_lengthenRows 51 = .ok (.iload_n 1, 1) := by decide +kernel
theorem dX0_lengthenRows_52 : decode cX0_lengthenRows 52 = .ok (.iaload, 1) := by decide +kernel
theorem dX0_lengthenRows_53 : decode cX0_lengthenRows 53 = .ok (.iadd, 1) := by decide +kernel
theorem dX0_lengthenRows_54 : decode cX0_lengthenRows 54 = .ok (.iastore, 1) := by decide +kernel
theorem dX0_lengthenRows_55 : decode cX0_lengthenRows 55 = .ok (.iinc 2 1, 3) := by decide +kernel
theorem dX0_lengthenRows_58 : decode cX0_lengthenRows 58 = .ok (.goto (-29), 3) := by decide +kernel
theorem dX0_lengthenRows_61 : decode cX0_lengthenRows 61 = .ok (.iinc 1 1, 3) := by decide +kernel
theorem dX0_lengthenRows_64 : decode cX0_lengthenRows 64 = .ok (.goto (-54), 3) := by decide +kernel
theorem dX0_lengthenRows_67 : decode cX0_lengthenRows 67 = .ok (.aload_n 0, 1) := by decide +kernel
theorem dX0_lengthenRows_68 : decode cX0_lengthenRows 68 = .ok (.getfield 30, 3) := by decide +kernel
theorem dX0_lengthenRows_71 : decode cX0_lengthenRows 71 = .ok (.iconst 0, 1) := by decide +kernel
theorem dX0_lengthenRows_72 : decode cX0_lengthenRows 72 = .ok (.aload_n 0, 1) := by decide +kernel
theorem dX0_lengthenRows_73 : decode cX0_lengthenRows 73 = .ok (.getfield 27, 3) := by decide +kernel
theorem dX0_lengthenRows_76 : decode cX0_lengthenRows 76 = .ok (.iconst 0, 1) := by decide +kernel
theorem dX0_lengthenRows_77 : decode cX0_lengthenRows 77 = .ok (.aload_n 0, 1) := by decide +kernel
theorem dX0_lengthenRows_78 : decode cX0_lengthenRows 78 = .ok (.getfield 27, 3) := by decide +kernel
theorem dX0_lengthenRows_81 : decode cX0_lengthenRows 81 = .ok (.arraylength, 1) := by decide +kernel
theorem dX0_lengthenRows_82 : decode cX0_lengthenRows 82 = .ok (.invokestatic 50, 3) := by decide +kernel
theorem dX0_lengthenRows_85 : decode cX0_lengthenRows 85 = .ok (.return_, 1) := by decide +kernel
set_option maxRecDepth 20000 in
theorem ggX0_allTrees_X0_treesTo : GoodIn wsX0_allTrees wsX0_treesTo := goodIn_r _ [6, 1, 7, 8, 9, 5, 10, 11, 12, 13, 14, 15, 16, 17, 18, 19, 20, 21, 22, 23, 24, 25, 26, 27, 28, 29, 30] (by decide +kernel) (by decide +kernel)
set_option maxRecDepth 20000 in
theorem gX0_allTrees_X0_treesTo : GoodIn wsX0_allTrees (wsV RX0 88 RX0 yX0_treesTo wsX0_treesTo) := goodIn_app (goodIn_of _ (by decide +kernel)) ggX0_allTrees_X0_treesTo
theorem dX0_allTrees_0 : decode cX0_allTrees 0 = .ok (.lconst 0, 1) := by decide +kernel
theorem dX0_allTrees_1 : decode cX0_allTrees 1 = .ok (.lstore_n 1, 1) := by decide +kernel
theorem dX0_allTrees_2 : decode cX0_allTrees 2 = .ok (.iconst 0, 1) := by decide +kernel
theorem dX0_allTrees_3 : decode cX0_allTrees 3 = .ok (.istore_n 3, 1) := by decide +kernel
theorem dX0_allTrees_4 : decode cX0_allTrees 4 = .ok (.iload_n 3, 1) := by decide +kernel
theorem dX0_allTrees_5 : decode cX0_allTrees 5 = .ok (.aload_n 0, 1) := by decide +kernel
theorem dX0_allTrees_6 : decode cX0_allTrees 6 = .ok (.getfield 9, 3) := by decide +kernel
theorem dX0_allTrees_9 : decode cX0_allTrees 9 = .ok (.if_icmp .ge 17, 3) := by decide +kernel
theorem dX0_allTrees_12 : decode cX0_allTrees 12 = .ok (.lload_n 1, 1) := by decide +kernel
theorem dX0_allTrees_13 : decode cX0_allTrees 13 = .ok (.aload_n 0, 1) := by decide +kernel
theorem dX0_allTrees_14 : decode cX0_allTrees 14 = .ok (.iload_n 3, 1) := by decide +kernel
theorem dX0_allTrees_15 : decode cX0_allTrees 15 = .ok (.invokevirtual 88, 3) := by decide +kernel
theorem dX0_allTrees_18 : decode cX0_allTrees 18 = .ok (.ladd, 1) := by decide +kernel
theorem dX0_allTrees_19 : decode cX0_allTrees 19 = .ok (.lstore_n 1, 1) := by decide +kernel
theorem dX0_allTrees_20 : decode cX0_allTrees 20 = .ok (.iinc 3 1, 3) := by decide +kernel
theorem dX0_allTrees_23 : decode cX0_allTrees 23 = .ok (.goto (-19), 3) := by decide +kernel
theorem dX0_allTrees_26 : decode cX0_allTrees 26 = .ok (.lload_n 1, 1) := by decide +kernel
theorem dX0_allTrees_27 : decode cX0_allTrees 27 = .ok (.lreturn, 1) := by decide +kernel
set_option maxRecDepth 20000 in
theorem ggX0_treesTo_X0_fillMinorRow : GoodIn wsX0_treesTo wsX0_fillMinorRow := goodIn_r _ [6, 7, 8, 9, 10, 5, 11, 12, 13, 14, 15, 20, 21, 22, 23, 24, 25, 26] (by decide +kernel) (by decide +kernel)
set_option maxRecDepth 20000 in
theorem gX0_treesTo_X0_fillMinorRow : GoodIn wsX0_treesTo (wsV RX0 92 RX0 yX0_fillMinorRow wsX0_fillMinorRow) := goodIn_app (goodIn_of _ (by decide +kernel)) ggX0_treesTo_X0_fillMinorRow
set_option maxRecDepth 20000 in
theorem ggX0_treesTo_X0_determinant : GoodIn wsX0_treesTo wsX0_determinant := goodIn_r _ [19, 7, 20, 21, 22, 23, 24, 25, 26] (by decide +kernel) (by decide +kernel)
set_option maxRecDepth 20000 in
theorem gX0_treesTo_X0_determinant : GoodIn wsX0_treesTo (wsV RX0 96 RX0 yX0_determinant wsX0_determinant) := goodIn_app (goodIn_of _ (by decide +kernel)) ggX0_treesTo_X0_determinant
theorem dX0_treesTo_0 : decode cX0_treesTo 0 = .ok (.iconst 0, 1) := by decide +kernel
theorem dX0_treesTo_1 : decode cX0_treesTo 1 = .ok (.istore_n 2, 1) := by decide +kernel
theorem dX0_treesTo_2 : decode cX0_treesTo 2 = .ok (.iload_n 2, 1) := by decide +kernel
theorem dX0_treesTo_3 : decode cX0_treesTo 3 = .ok (.aload_n 0, 1) := by decide +kernel
theorem dX0_treesTo_4 : decode cX0_treesTo 4 = .ok (.getfield 9, 3) := by decide +kernel
theorem dX0_treesTo_7 : decode cX0_treesTo 7 = .ok (.if_icmp .ge 20, 3) := by decide +kernel
theorem dX0_treesTo_10 : decode cX0_treesTo 10 = .ok (.iload_n 2, 1) := by decide +kernel
theorem dX0_treesTo_11 : decode cX0_treesTo 11 = .ok (.iload_n 1, 1) := by decide +kernel
theorem dX0_treesTo_12 : decode cX0_treesTo 12 = .ok (.if_icmp .eq 9, 3) := by decide +kernel
theorem dX0_treesTo_15 : decode cX0_treesTo 15 = .ok (.aload_n 0, 1) := by decide +kernel
theorem dX0_treesTo_16 : decode cX0_treesTo 16 = .ok (.iload_n 2, 1) := by decide +kernel
theorem dX0_treesTo_17 : decode cX0_treesTo 17 = .ok (.iload_n 1, 1) := by decide +kernel
theorem dX0_treesTo_18 : decode cX0_treesTo 18 = .ok (.invokevirtual 92, 3) := by decide +kernel
theorem dX0_treesTo_21 : decode cX0_treesTo 21 = .ok (.iinc 2 1, 3) := by decide +kernel
theorem dX0_treesTo_24 : decode cX0_treesTo 24 = .ok (.goto (-22), 3) := by decide +kernel
theorem dX0_treesTo_27 : decode cX0_treesTo 27 = .ok (.aload_n 0, 1) := by decide +kernel
theorem dX0_treesTo_28 : decode cX0_treesTo 28 = .ok (.aload_n 0, 1) := by decide +kernel
theorem dX0_treesTo_29 : decode cX0_treesTo 29 = .ok (.getfield 9, 3) := by decide +kernel
theorem dX0_treesTo_32 : decode cX0_treesTo 32 = .ok (.iconst 1, 1) := by decide +kernel
theorem dX0_treesTo_33 : decode cX0_treesTo 33 = .ok (.isub, 1) := by decide +kernel
theorem dX0_treesTo_34 : decode cX0_treesTo 34 = .ok (.invokevirtual 96, 3) := by decide +kernel
theorem dX0_treesTo_37 : decode cX0_treesTo 37 = .ok (.lreturn, 1) := by decide +kernel
set_option maxRecDepth 20000 in
theorem ggX0_fillMinorRow_X0_indexWithout : GoodIn wsX0_fillMinorRow wsX0_indexWithout := goodIn_r _ [6] (by decide +kernel) (by decide +kernel)
set_option maxRecDepth 20000 in
theorem gX0_fillMinorRow_X0_indexWithout : GoodIn wsX0_fillMinorRow (va_wsS RX0 99 yX0_indexWithout wsX0_indexWithout) := goodIn_app (goodIn_of _ (by decide +kernel)) ggX0_fillMinorRow_X0_indexWithout
set_option maxRecDepth 20000 in
theorem ggX0_fillMinorRow_J7_fill_d0a16 : GoodIn wsX0_fillMinorRow wsJ7_fill_d0a16 := goodIn_r _ [10] (by decide +kernel) (by decide +kernel)
set_option maxRecDepth 20000 in
theorem gX0_fillMinorRow_J7_fill_d0a16 : GoodIn wsX0_fillMinorRow (va_wsS RX0 102 yJ7_fill_d0a16 wsJ7_fill_d0a16) := goodIn_app (goodIn_of _ (by decide +kernel)) ggX0_fillMinorRow_J7_fill_d0a16
theorem dX0_fillMinorRow_0 : decode cX0_fillMinorRow 0 = .ok (.iload_n 1, 1) := by decide +kernel
theorem dX0_fillMinorRow_1 : decode cX0_fillMinorRow 1 = .ok (.iload_n 2, 1) := by decide +kernel
theorem dX0_fillMinorRow_2 : decode cX0_fillMinorRow 2 = .ok (.invokestatic 99, 3) := by decide +kernel
theorem dX0_fillMinorRow_5 : decode cX0_fillMinorRow 5 = .ok (.istore_n 3, 1) := by decide +kernel
theorem dX0_fillMinorRow_6 : decode cX0_fillMinorRow 6 = .ok (.aload_n 0, 1) := by decide +kernel
theorem dX0_fillMinorRow_7 : decode cX0_fillMinorRow 7 = .ok (.getfield 35, 3) := by decide +kernel
theorem dX0_fillMinorRow_10 : decode cX0_fillMinorRow 10 = .ok (.iload_n 3, 1) := by decide +kernel
theorem dX0_fillMinorRow_11 : decode cX0_fillMinorRow 11 = .ok (.aaload, 1) := by decide +kernel
theorem dX0_fillMinorRow_12 : decode cX0_fillMinorRow 12 = .ok (.astore 4, 2) := by decide +kernel
theorem dX0_fillMinorRow_14 : decode cX0_fillMinorRow 14 = .ok (.aload 4, 2) := by decide +kernel
theorem dX0_fillMinorRow_16 : decode cX0_fillMinorRow 16 = .ok (.lconst 0, 1) := by decide +kernel
theorem dX0_fillMinorRow_17 : decode cX0_fillMinorRow 17 = .ok (.invokestatic 102, 3) := by decide +kernel
theorem dX0_fillMinorRow_20 : decode cX0_fillMinorRow 20 = .ok (.iconst 0, 1) := by decide +kernel
theorem dX0_fillMinorRow_21 : decode cX0_fillMinorRow 21 = .ok (.istore 5, 2) := by decide +kernel
theorem dX0_fillMinorRow_23 : decode cX0_fillMinorRow 23 = .ok (.iload 5, 2) := by decide +kernel
theorem dX0_fillMinorRow_25 : decode cX0_fillMinorRow 25 = .ok (.bipush 8, 2) := by decide +kernel
theorem dX0_fillMinorRow_27 : decode cX0_fillMinorRow 27 = .ok (.if_icmp .ge 59, 3) := by decide +kernel
theorem dX0_fillMinorRow_30 : decode cX0_fillMinorRow 30 = .ok (.aload_n 0, 1) := by decide +kernel
theorem dX0_fillMinorRow_31 : decode cX0_fillMinorRow 31 = .ok (.getfield 17, 3) := by decide +kernel
theorem dX0_fillMinorRow_34 : decode cX0_fillMinorRow 34 = .ok (.iload 5, 2) := by decide +kernel
theorem dX0_fillMinorRow_36 : decode cX0_fillMinorRow 36 = .ok (.aaload, 1) := by decide +kernel
theorem dX0_fillMinorRow_37 : decode cX0_fillMinorRow 37 = .ok (.iload_n 1, 1) := by decide +kernel
theorem dX0_fillMinorRow_38 : decode cX0_fillMinorRow 38 = .ok (.iaload, 1) := by decide +kernel
theorem dX0_fillMinorRow_39 : decode cX0_fillMinorRow 39 = .ok (.istore 6, 2) := by decide +kernel
theorem dX0_fillMinorRow_41 : decode cX0_fillMinorRow 41 = .ok (.iload 6, 2) := by decide +kernel
theorem dX0_fillMinorRow_43 : decode cX0_fillMinorRow 43 = .ok (.iload_n 1, 1) := by decide +kernel
theorem dX0_fillMinorRow_44 : decode cX0_fillMinorRow 44 = .ok (.if_icmp .eq 11, 3) := by decide +kernel
theorem dX0_fillMinorRow_47 : decode cX0_fillMinorRow 47 = .ok (.aload 4, 2) := by decide +kernel
theorem dX0_fillMinorRow_49 : decode cX0_fillMinorRow 49 = .ok (.iload_n 3, 1) := by decide +kernel
theorem dX0_fillMinorRow_50 : decode cX0_fillMinorRow 50 = .ok (.dup2, 1) := by decide +kernel
theorem dX0_fillMinorRow_51 : decode cX0_fillMinorRow 51 = .ok (.laload, 1) := by decide +kernel
theorem dX0_fillMinorRow_52 : decode cX0_fillMinorRow 52 = .ok (.lconst 1, 1) := by decide +kernel
theorem dX0_fillMinorRow_53 : decode cX0_fillMinorRow 53 = .ok (.ladd, 1) := by decide +kernel
theorem dX0_fillMinorRow_54 : decode cX0_fillMinorRow 54 = .ok (.lastore, 1) := by decide +kernel
theorem dX0_fillMinorRow_55 : decode cX0_fillMinorRow 55 = .ok (.iload 6, 2) := by decide +kernel
theorem dX0_fillMinorRow_57 : decode cX0_fillMinorRow 57 = .ok (.iload_n 1, 1) := by decide +kernel
theorem dX0_fillMinorRow_58 : decode cX0_fillMinorRow 58 = .ok (.if_icmp .eq 22, 3) := by decide +kernel
theorem dX0_fillMinorRow_61 : decode cX0_fillMinorRow 61 = .ok (.iload 6, 2) := by decide +kernel
theorem dX0_fillMinorRow_63 : decode cX0_fillMinorRow 63 = .ok (.iload_n 2, 1) := by decide +kernel
theorem dX0_fillMinorRow_64 : decode cX0_fillMinorRow 64 = .ok (.if_icmp .eq 16, 3) := by decide +kernel
theorem dX0_fillMinorRow_67 : decode cX0_fillMinorRow 67 = .ok (.aload 4, 2) := by decide +kernel
theorem dX0_fillMinorRow_69 : decode cX0_fillMinorRow 69 = .ok (.iload 6, 2) := by decide +kernel
theorem dX0_fillMinorRow_71 : decode cX0_fillMinorRow 71 = .ok (.iload_n 2, 1) := by decide +kernel
theorem dX0_fillMinorRow_72 : decode cX0_fillMinorRow 72 = .ok (.invokestatic 99, 3) := by decide +kernel
theorem dX0_fillMinorRow_75 : decode cX0_fillMinorRow 75 = .ok (.dup2, 1) := by decide +kernel
theorem dX0_fillMinorRow_76 : decode cX0_fillMinorRow 76 = .ok (.laload, 1) := by decide +kernel
theorem dX0_fillMinorRow_77 : decode cX0_fillMinorRow 77 = .ok (.lconst 1, 1) := by decide +kernel
theorem dX0_fillMinorRow_78 : decode cX0_fillMinorRow 78 = .ok (.lsub, 1) := by decide +kernel
theorem dX0_fillMinorRow_79 : decode cX0_fillMinorRow 79 = .ok (.lastore, 1) := by decide +kernel
theorem dX0_fillMinorRow_80 : decode cX0_fillMinorRow 80 = .ok (.iinc 5 1, 3) := by decide +kernel
theorem dX0_fillMinorRow_83 : decode cX0_fillMinorRow 83 = .ok (.goto (-60), 3) := by decide +kernel
theorem dX0_fillMinorRow_86 : decode cX0_fillMinorRow 86 = .ok (.return_, 1) := by decide +kernel
theorem dX0_indexWithout_0 : decode cX0_indexWithout 0 = .ok (.iload_n 0, 1) := by decide +kernel
theorem dX0_indexWithout_1 : decode cX0_indexWithout 1 = .ok (.iload_n 1, 1) := by decide +kernel
theorem dX0_indexWithout_2 : decode cX0_indexWithout 2 = .ok (.if_icmp .ge 7, 3) := by decide +kernel
theorem dX0_indexWithout_5 : decode cX0_indexWithout 5 = .ok (.iload_n 0, 1) := by decide +kernel
theorem dX0_indexWithout_6 : decode cX0_indexWithout 6 = .ok (.goto 6, 3) := by decide +kernel
theorem dX0_indexWithout_9 : decode cX0_indexWithout 9 = .ok (.iload_n 0, 1) := by decide +kernel
theorem dX0_indexWithout_10 : decode cX0_indexWithout 10 = .ok (.iconst 1, 1) := by decide +kernel
theorem dX0_indexWithout_11 : decode cX0_indexWithout 11 = .ok (.isub, 1) := by decide +kernel
theorem dX0_indexWithout_12 : decode cX0_indexWithout 12 = .ok (.ireturn, 1) := by decide +kernel
theorem dX0_determinant_0 : decode cX0_determinant 0 = .ok (.lconst 1, 1) := by decide +kernel
theorem dX0_determinant_1 : decode cX0_determinant 1 = .ok (.lstore_n 2, 1) := by decide +kernel
theorem dX0_determinant_2 : decode cX0_determinant 2 = .ok (.iconst 0, 1) := by decide +kernel
theorem dX0_determinant_3 : decode cX0_determinant 3 = .ok (.istore 4, 2) := by decide +kernel
theorem dX0_determinant_5 : decode cX0_determinant 5 = .ok (.iload 4, 2) := by decide +kernel
theorem dX0_determinant_7 : decode cX0_determinant 7 = .ok (.iload_n 1, 1) := by decide +kernel
theorem dX0_determinant_8 : decode cX0_determinant 8 = .ok (.if_icmp .ge 118, 3) := by decide +kernel
theorem dX0_determinant_11 : decode cX0_determinant 11 = .ok (.lload_n 2, 1) := by decide +kernel
theorem dX0_determinant_12 : decode cX0_determinant 12 = .ok (.lstore 5, 2) := by decide +kernel
theorem dX0_determinant_14 : decode cX0_determinant 14 = .ok (.aload_n 0, 1) := by decide +kernel
theorem dX0_determinant_15 : decode cX0_determinant 15 = .ok (.getfield 35, 3) := by decide +kernel
theorem dX0_determinant_18 : decode cX0_determinant 18 = .ok (.iload 4, 2) := by decide +kernel
theorem dX0_determinant_20 : decode cX0_determinant 20 = .ok (.aaload, 1) := by decide +kernel
theorem dX0_determinant_21 : decode cX0_determinant 21 = .ok (.iload 4, 2) := by decide +kernel
theorem dX0_determinant_23 : decode cX0_determinant 23 = .ok (.laload, 1) := by decide +kernel
theorem dX0_determinant_24 : decode cX0_determinant 24 = .ok (.lstore_n 2, 1) := by decide +kernel
theorem dX0_determinant_25 : decode cX0_determinant 25 = .ok (.lload_n 2, 1) := by decide +kernel
theorem dX0_determinant_26 : decode cX0_determinant 26 = .ok (.lconst 0, 1) := by decide +kernel
theorem dX0_determinant_27 : decode cX0_determinant 27 = .ok (.lcmp, 1) := by decide +kernel
theorem dX0_determinant_28 : decode cX0_determinant 28 = .ok (.ifCond .ne 5, 3) := by decide +kernel
theorem dX0_determinant_31 : decode cX0_determinant 31 = .ok (.lconst 0, 1) := by decide +kernel
theorem dX0_determinant_32 : decode cX0_determinant 32 = .ok (.lreturn, 1) := by decide +kernel
theorem dX0_determinant_33 : decode cX0_determinant 33 = .ok (.iload 4, 2) := by decide +kernel
theorem dX0_determinant_35 : decode cX0_determinant 35 = .ok (.iconst 1, 1) := by decide +kernel
theorem dX0_determinant_36 : decode cX0_determinant 36 = .ok (.iadd, 1) := by decide +kernel
theorem dX0_determinant_37 : decode cX0_determinant 37 = .ok (.istore 7, 2) := by decide +kernel
theorem dX0_determinant_39 : decode cX0_determinant 39 = .ok (.iload 7, 2) := by decide +kernel
theorem dX0_determinant_41 : decode cX0_determinant 41 = .ok (.iload_n 1, 1) := by decide +kernel
theorem dX0_determinant_42 : decode cX0_determinant 42 = .ok (.if_icmp .ge 78, 3) := by decide +kernel
theorem dX0_determinant_45 : decode cX0_determinant 45 = .ok (.iload 4, 2) := by decide +kernel
theorem dX0_determinant_47 : decode cX0_determinant 47 = .ok (.iconst 1, 1) := by decide +kernel
theorem dX0_determinant_48 : decode cX0_determinant 48 = .ok (.iadd, 1) := by decide +kernel
theorem dX0_determinant_49 : decode cX0_determinant 49 = .ok (.istore 8, 2) := by decide +kernel
theorem dX0_determinant_51 : decode cX0_determinant 51 = .ok (.iload 8, 2) := by decide +kernel
theorem dX0_determinant_53 : decode cX0_determinant 53 = .ok (.iload_n 1, 1) := by decide +kernel
theorem dX0_determinant_54 : decode cX0_determinant 54 = .ok (.if_icmp .ge 60, 3) := by decide +kernel
theorem dX0_determinant_57 : decode cX0_determinant 57 = .ok (.aload_n 0, 1) := by decide +kernel
theorem dX0_determinant_58 : decode cX0_determinant 58 = .ok (.getfield 35, 3) := by decide +kernel
theorem dX0_determinant_61 : decode cX0_determinant 61 = .ok (.iload 7, 2) := by decide +kernel
theorem dX0_determinant_63 : decode cX0_determinant 63 = .ok (.aaload, 1) := by decide +kernel
theorem dX0_determinant_64 : decode cX0_determinant 64 = .ok (.iload 8, 2) := by decide +kernel
theorem dX0_determinant_66 : decode cX0_determinant 66 = .ok (.laload, 1) := by decide +kernel
theorem dX0_determinant_67 : decode cX0_determinant 67 = .ok (.lload_n 2, 1) := by decide +kernel
theorem dX0_determinant_68 : decode cX0_determinant 68 = .ok (.lmul, 1) := by decide +kernel
theorem dX0_determinant_69 : decode cX0_determinant 69 = .ok (.aload_n 0, 1) := by decide +kernel
theorem dX0_determinant_70 : decode cX0_determinant 70 = .ok (.getfield 35, 3) := by decide +kernel
theorem dX0_determinant_73 : decode cX0_determinant 73 = .ok (.iload 7, 2) := by decide +kernel
theorem dX0_determinant_75 : decode cX0_determinant 75 = .ok (.aaload, 1) := by decide +kernel
theorem dX0_determinant_76 : decode cX0_determinant 76 = .ok (.iload 4, 2) := by decide +kernel
theorem dX0_determinant_78 : decode cX0_determinant 78 = .ok (.laload, 1) := by decide +kernel
theorem dX0_determinant_79 : decode cX0_determinant 79 = .ok (.aload_n 0, 1) := by decide +kernel
theorem dX0_determinant_80 : decode cX0_determinant 80 = .ok (.getfield 35, 3) := by decide +kernel
theorem dX0_determinant_83 : decode cX0_determinant 83 = .ok (.iload 4, 2) := by decide +kernel
theorem dX0_determinant_85 : decode cX0_determinant 85 = .ok (.aaload, 1) := by decide +kernel
theorem dX0_determinant_86 : decode cX0_determinant 86 = .ok (.iload 8, 2) := by decide +kernel
theorem dX0_determinant_88 : decode cX0_determinant 88 = .ok (.laload, 1) := by decide +kernel
theorem dX0_determinant_89 : decode cX0_determinant 89 = .ok (.lmul, 1) := by decide +kernel
theorem dX0_determinant_90 : decode cX0_determinant 90 = .ok (.lsub, 1) := by decide +kernel
theorem dX0_determinant_91 : decode cX0_determinant 91 = .ok (.lstore 9, 2) := by decide +kernel
theorem dX0_determinant_93 : decode cX0_determinant 93 = .ok (.aload_n 0, 1) := by decide +kernel
theorem dX0_determinant_94 : decode cX0_determinant 94 = .ok (.getfield 35, 3) := by decide +kernel
theorem dX0_determinant_97 : decode cX0_determinant 97 = .ok (.iload 7, 2) := by decide +kernel
theorem dX0_determinant_99 : decode cX0_determinant 99 = .ok (.aaload, 1) := by decide +kernel
theorem dX0_determinant_100 : decode cX0_determinant 100 = .ok (.iload 8, 2) := by decide +kernel
theorem dX0_determinant_102 : decode cX0_determinant 102 = .ok (.lload 9, 2) := by decide +kernel
theorem dX0_determinant_104 : decode cX0_determinant 104 = .ok (.lload 5, 2) := by decide +kernel
theorem dX0_determinant_106 : decode cX0_determinant 106 = .ok (.ldiv, 1) := by decide +kernel
theorem dX0_determinant_107 : decode cX0_determinant 107 = .ok (.lastore, 1) := by decide +kernel
theorem dX0_determinant_108 : decode cX0_determinant 108 = .ok (.iinc 8 1, 3) := by decide +kernel
theorem dX0_determinant_111 : decode cX0_determinant 111 = .ok (.goto (-60), 3) := by decide +kernel
theorem dX0_determinant_114 : decode cX0_determinant 114 = .ok (.iinc 7 1, 3) := by decide +kernel
theorem dX0_determinant_117 : decode cX0_determinant 117 = .ok (.goto (-78), 3) := by decide +kernel
theorem dX0_determinant_120 : decode cX0_determinant 120 = .ok (.iinc 4 1, 3) := by decide +kernel
theorem dX0_determinant_123 : decode cX0_determinant 123 = .ok (.goto (-118), 3) := by decide +kernel
theorem dX0_determinant_126 : decode cX0_determinant 126 = .ok (.lload_n 2, 1) := by decide +kernel
theorem dX0_determinant_127 : decode cX0_determinant 127 = .ok (.lreturn, 1) := by decide +kernel
set_option maxRecDepth 20000 in
theorem ggX0_drawOf_X0_blockMeets : GoodIn wsX0_drawOf wsX0_blockMeets := goodIn_r _ [5, 6, 7, 8, 4, 9, 10, 11, 12, 13, 14, 15, 16, 17, 18, 19, 20, 21, 22, 23, 24, 25, 26, 27, 32, 33, 34, 35, 36, 37, 38] (by decide +kernel) (by decide +kernel)
set_option maxRecDepth 20000 in
theorem gX0_drawOf_X0_blockMeets : GoodIn wsX0_drawOf (wsV RX0 105 RX0 yX0_blockMeets wsX0_blockMeets) := goodIn_app (goodIn_of _ (by decide +kernel)) ggX0_drawOf_X0_blockMeets
set_option maxRecDepth 20000 in
theorem ggX0_drawOf_X0_throughBlock : GoodIn wsX0_drawOf wsX0_throughBlock := goodIn_r _ [31, 27, 14, 15, 16, 17, 18, 19, 20, 21, 22, 32, 33, 34, 35, 36, 37, 38] (by decide +kernel) (by decide +kernel)
set_option maxRecDepth 20000 in
theorem gX0_drawOf_X0_throughBlock : GoodIn wsX0_drawOf (wsV RX0 109 RX0 yX0_throughBlock wsX0_throughBlock) := goodIn_app (goodIn_of _ (by decide +kernel)) ggX0_drawOf_X0_throughBlock
theorem dX0_drawOf_0 : decode cX0_drawOf 0 = .ok (.iconst 0, 1) := by decide +kernel
theorem dX0_drawOf_1 : decode cX0_drawOf 1 = .ok (.istore 4, 2) := by decide +kernel
theorem dX0_drawOf_3 : decode cX0_drawOf 3 = .ok (.iconst 0, 1) := by decide +kernel
theorem dX0_drawOf_4 : decode cX0_drawOf 4 = .ok (.istore 5, 2) := by decide +kernel
theorem dX0_drawOf_6 : decode cX0_drawOf 6 = .ok (.iconst 0, 1) := by decide +kernel
theorem dX0_drawOf_7 : decode cX0_drawOf 7 = .ok (.istore 6, 2) := by decide +kernel
theorem dX0_drawOf_9 : decode cX0_drawOf 9 = .ok (.iconst 0, 1) := by decide +kernel
theorem dX0_drawOf_10 : decode cX0_drawOf 10 = .ok (.istore 7, 2) := by decide +kernel
theorem dX0_drawOf_12 : decode cX0_drawOf 12 = .ok (.iload 7, 2) := by decide +kernel
theorem dX0_drawOf_14 : decode cX0_drawOf 14 = .ok (.sipush 500, 3) := by decide +kernel
theorem dX0_drawOf_17 : decode cX0_drawOf 17 = .ok (.if_icmp .ge 76, 3) := by decide +kernel
theorem dX0_drawOf_20 : decode cX0_drawOf 20 = .ok (.iload_n 2, 1) := by decide +kernel
theorem dX0_drawOf_21 : decode cX0_drawOf 21 = .ok (.iload 7, 2) := by decide +kernel
theorem dX0_drawOf_23 : decode cX0_drawOf 23 = .ok (.imul, 1) := by decide +kernel
theorem dX0_drawOf_24 : decode cX0_drawOf 24 = .ok (.istore 8, 2) := by decide +kernel
theorem dX0_drawOf_26 : decode cX0_drawOf 26 = .ok (.aload_n 0, 1) := by decide +kernel
theorem dX0_drawOf_27 : decode cX0_drawOf 27 = .ok (.iload_n 1, 1) := by decide +kernel
theorem dX0_drawOf_28 : decode cX0_drawOf 28 = .ok (.iload 8, 2) := by decide +kernel
theorem dX0_drawOf_30 : decode cX0_drawOf 30 = .ok (.iload_n 2, 1) := by decide +kernel
theorem dX0_drawOf_31 : decode cX0_drawOf 31 = .ok (.invokevirtual 105, 3) := by decide +kernel
theorem dX0_drawOf_34 : decode cX0_drawOf 34 = .ok (.istore 9, 2) := by decide +kernel
theorem dX0_drawOf_36 : decode cX0_drawOf 36 = .ok (.iload 9, 2) := by decide +kernel
theorem dX0_drawOf_38 : decode cX0_drawOf 38 = .ok (.ifCond .eq 20, 3) := by decide +kernel
theorem dX0_drawOf_41 : decode cX0_drawOf 41 = .ok (.iload 4, 2) := by decide +kernel
theorem dX0_drawOf_43 : decode cX0_drawOf 43 = .ok (.ifCond .eq 15, 3) := by decide +kernel
theorem dX0_drawOf_46 : decode cX0_drawOf 46 = .ok (.iload 5, 2) := by decide +kernel
theorem dX0_drawOf_48 : decode cX0_drawOf 48 = .ok (.iload_n 3, 1) := by decide +kernel
theorem dX0_drawOf_49 : decode cX0_drawOf 49 = .ok (.if_icmp .ne 6, 3) := by decide +kernel
theorem dX0_drawOf_52 : decode cX0_drawOf 52 = .ok (.iload 6, 2) := by decide +kernel
theorem dX0_drawOf_54 : decode cX0_drawOf 54 = .ok (.ireturn, 1) := by decide +kernel
theorem dX0_drawOf_55 : decode cX0_drawOf 55 = .ok (.iinc 5 1, 3) := by decide +kernel
theorem dX0_drawOf_58 : decode cX0_drawOf 58 = .ok (.iload 4, 2) := by decide +kernel
theorem dX0_drawOf_60 : decode cX0_drawOf 60 = .ok (.ifCond .ne 8, 3) := by decide +kernel
theorem dX0_drawOf_63 : decode cX0_drawOf 63 = .ok (.iload 9, 2) := by decide +kernel
theorem dX0_drawOf_65 : decode cX0_drawOf 65 = .ok (.ifCond .eq 7, 3) := by decide +kernel
theorem dX0_drawOf_68 : decode cX0_drawOf 68 = .ok (.iconst 1, 1) := by decide +kernel
theorem dX0_drawOf_69 : decode cX0_drawOf 69 = .ok (.goto 4, 3) := by decide +kernel
theorem dX0_drawOf_72 : decode cX0_drawOf 72 = .ok (.iconst 0, 1) := by decide +kernel
theorem dX0_drawOf_73 : decode cX0_drawOf 73 = .ok (.istore 4, 2) := by decide +kernel
theorem dX0_drawOf_75 : decode cX0_drawOf 75 = .ok (.aload_n 0, 1) := by decide +kernel
theorem dX0_drawOf_76 : decode cX0_drawOf 76 = .ok (.iload_n 1, 1) := by decide +kernel
theorem dX0_drawOf_77 : decode cX0_drawOf 77 = .ok (.iload 8, 2) := by decide +kernel
theorem dX0_drawOf_79 : decode cX0_drawOf 79 = .ok (.iload_n 2, 1) := by decide +kernel
theorem dX0_drawOf_80 : decode cX0_drawOf 80 = .ok (.iload 6, 2) := by decide +kernel
theorem dX0_drawOf_82 : decode cX0_drawOf 82 = .ok (.invokevirtual 109, 3) := by decide +kernel
theorem dX0_drawOf_85 : decode cX0_drawOf 85 = .ok (.istore 6, 2) := by decide +kernel
theorem dX0_drawOf_87 : decode cX0_drawOf 87 = .ok (.iinc 7 1, 3) := by decide +kernel
theorem dX0_drawOf_90 : decode cX0_drawOf 90 = .ok (.goto (-78), 3) := by decide +kernel
theorem dX0_drawOf_93 : decode cX0_drawOf 93 = .ok (.bipush (-2), 2) := by decide +kernel
theorem dX0_drawOf_95 : decode cX0_drawOf 95 = .ok (.ireturn, 1) := by decide +kernel
set_option maxRecDepth 20000 in
theorem ggX0_blockMeets_X0_allStates : GoodIn wsX0_blockMeets wsX0_allStates := goodIn_r _ [5, 6, 24, 25, 26, 27, 28, 29, 30] (by decide +kernel) (by decide +kernel)
set_option maxRecDepth 20000 in
theorem gX0_blockMeets_X0_allStates : GoodIn wsX0_blockMeets (wsV RX0 74 RX0 yX0_allStates wsX0_allStates) := goodIn_app (goodIn_of _ (by decide +kernel)) ggX0_blockMeets_X0_allStates
set_option maxRecDepth 20000 in
theorem ggX0_blockMeets_X0_isSingle : GoodIn wsX0_blockMeets wsX0_isSingle := goodIn_r _ [9] (by decide +kernel) (by decide +kernel)
set_option maxRecDepth 20000 in
theorem gX0_blockMeets_X0_isSingle : GoodIn wsX0_blockMeets (va_wsS RX0 81 yX0_isSingle wsX0_isSingle) := goodIn_app (goodIn_of _ (by decide +kernel)) ggX0_blockMeets_X0_isSingle
set_option maxRecDepth 20000 in
theorem ggX0_blockMeets_X4_signAt : GoodIn wsX0_blockMeets wsX4_signAt := goodIn_r _ [12, 13, 14, 11, 15, 16, 17, 18] (by decide +kernel) (by decide +kernel)
set_option maxRecDepth 20000 in
theorem gX0_blockMeets_X4_signAt_n38 : GoodIn wsX0_blockMeets (wsX4_signAt) := ggX0_blockMeets_X4_signAt
set_option maxRecDepth 20000 in
theorem ggX0_blockMeets_X0_imageOf : GoodIn wsX0_blockMeets wsX0_imageOf := goodIn_r _ [22, 6, 23, 24, 25, 26, 27, 28, 29, 30] (by decide +kernel) (by decide +kernel)
set_option maxRecDepth 20000 in
theorem gX0_blockMeets_X0_imageOf : GoodIn wsX0_blockMeets (wsV RX0 85 RX0 yX0_imageOf wsX0_imageOf) := goodIn_app (goodIn_of _ (by decide +kernel)) ggX0_blockMeets_X0_imageOf
theorem dX0_blockMeets_0 : decode cX0_blockMeets 0 = .ok (.aload_n 0, 1) := by decide +kernel
theorem dX0_blockMeets_1 : decode cX0_blockMeets 1 = .ok (.invokevirtual 74, 3) := by decide +kernel
theorem dX0_blockMeets_4 : decode cX0_blockMeets 4 = .ok (.istore 4, 2) := by decide +kernel
theorem dX0_blockMeets_6 : decode cX0_blockMeets 6 = .ok (.iconst 1, 1) := by decide +kernel
theorem dX0_blockMeets_7 : decode cX0_blockMeets 7 = .ok (.istore 5, 2) := by decide +kernel
theorem dX0_blockMeets_9 : decode cX0_blockMeets 9 = .ok (.iload 5, 2) := by decide +kernel
theorem dX0_blockMeets_11 : decode cX0_blockMeets 11 = .ok (.iload_n 3, 1) := by decide +kernel
theorem dX0_blockMeets_12 : decode cX0_blockMeets 12 = .ok (.if_icmp .gt 33, 3) := by decide +kernel
theorem dX0_blockMeets_15 : decode cX0_blockMeets 15 = .ok (.iload 4, 2) := by decide +kernel
theorem dX0_blockMeets_17 : decode cX0_blockMeets 17 = .ok (.invokestatic 81, 3) := by decide +kernel
theorem dX0_blockMeets_20 : decode cX0_blockMeets 20 = .ok (.ifCond .ne 25, 3) := by decide +kernel
theorem dX0_blockMeets_23 : decode cX0_blockMeets 23 = .ok (.aload_n 0, 1) := by decide +kernel
theorem dX0_blockMeets_24 : decode cX0_blockMeets 24 = .ok (.iload 4, 2) := by decide +kernel
theorem dX0_blockMeets_26 : decode cX0_blockMeets 26 = .ok (.iload_n 1, 1) := by decide +kernel
theorem dX0_blockMeets_27 : decode cX0_blockMeets 27 = .ok (.iload_n 2, 1) := by decide +kernel
theorem dX0_blockMeets_28 : decode cX0_blockMeets 28 = .ok (.iload 5, 2) := by decide +kernel
theorem dX0_blockMeets_30 : decode cX0_blockMeets 30 = .ok (.iadd, 1) := by decide +kernel
theorem dX0_blockMeets_31 : decode cX0_blockMeets 31 = .ok (.invokestatic 38, 3) := by decide +kernel
theorem dX0_blockMeets_34 : decode cX0_blockMeets 34 = .ok (.invokevirtual 85, 3) := by decide +kernel
theorem dX0_blockMeets_37 : decode cX0_blockMeets 37 = .ok (.istore 4, 2) := by decide +kernel
theorem dX0_blockMeets_39 : decode cX0_blockMeets 39 = .ok (.iinc 5 1, 3) := by decide +kernel
theorem dX0_blockMeets_42 : decode cX0_blockMeets 42 = .ok (.goto (-33), 3) := by decide +kernel
theorem dX0_blockMeets_45 : decode cX0_blockMeets 45 = .ok (.iload 4, 2) := by decide +kernel
theorem dX0_blockMeets_47 : decode cX0_blockMeets 47 = .ok (.invokestatic 81, 3) := by decide +kernel
theorem dX0_blockMeets_50 : decode cX0_blockMeets 50 = .ok (.ireturn, 1) := by decide +kernel
set_option maxRecDepth 20000 in
theorem ggX0_throughBlock_X4_signAt : GoodIn wsX0_throughBlock wsX4_signAt := goodIn_r _ [4, 5, 6, 3, 7, 8, 9, 10] (by decide +kernel) (by decide +kernel)
set_option maxRecDepth 20000 in
theorem gX0_throughBlock_X4_signAt_n38 : GoodIn wsX0_throughBlock (wsX4_signAt) := ggX0_throughBlock_X4_signAt
theorem dX0_throughBlock_0 : decode cX0_throughBlock 0 = .ok (.iload 4, 2) := by decide +kernel
theorem dX0_throughBlock_2 : decode cX0_throughBlock 2 = .ok (.istore 5, 2) := by decide +kernel
theorem dX0_throughBlock_4 : decode cX0_throughBlock 4 = .ok (.iconst 1, 1) := by decide +kernel
theorem dX0_throughBlock_5 : decode cX0_throughBlock 5 = .ok (.istore 6, 2) := by decide +kernel
theorem dX0_throughBlock_7 : decode cX0_throughBlock 7 = .ok (.iload 6, 2) := by decide +kernel
theorem dX0_throughBlock_9 : decode cX0_throughBlock 9 = .ok (.iload_n 3, 1) := by decide +kernel
theorem dX0_throughBlock_10 : decode cX0_throughBlock 10 = .ok (.if_icmp .gt 27, 3) := by decide +kernel
theorem dX0_throughBlock_13 : decode cX0_throughBlock 13 = .ok (.aload_n 0, 1) := by decide +kernel
theorem dX0_throughBlock_14 : decode cX0_throughBlock 14 = .ok (.getfield 17, 3) := by decide +kernel
theorem dX0_throughBlock_17 : decode cX0_throughBlock 17 = .ok (.iload_n 1, 1) := by decide +kernel
theorem dX0_throughBlock_18 : decode cX0_throughBlock 18 = .ok (.iload_n 2, 1) := by decide +kernel
theorem dX0_throughBlock_19 : decode cX0_throughBlock 19 = .ok (.iload 6, 2) := by decide +kernel
theorem dX0_throughBlock_21 : decode cX0_throughBlock 21 = .ok (.iadd, 1) := by decide +kernel
theorem dX0_throughBlock_22 : decode cX0_throughBlock 22 = .ok (.invokestatic 38, 3) := by decide +kernel
theorem dX0_throughBlock_25 : decode cX0_throughBlock 25 = .ok (.aaload, 1) := by decide +kernel
theorem dX0_throughBlock_26 : decode cX0_throughBlock 26 = .ok (.iload 5, 2) := by decide +kernel
theorem dX0_throughBlock_28 : decode cX0_throughBlock 28 = .ok (.iaload, 1) := by decide +kernel
theorem dX0_throughBlock_29 : decode cX0_throughBlock 29 = .ok (.istore 5, 2) := by decide +kernel
theorem dX0_throughBlock_31 : decode cX0_throughBlock 31 = .ok (.iinc 6 1, 3) := by decide +kernel
theorem dX0_throughBlock_34 : decode cX0_throughBlock 34 = .ok (.goto (-27), 3) := by decide +kernel
theorem dX0_throughBlock_37 : decode cX0_throughBlock 37 = .ok (.iload 5, 2) := by decide +kernel
theorem dX0_throughBlock_39 : decode cX0_throughBlock 39 = .ok (.ireturn, 1) := by decide +kernel
set_option maxRecDepth 20000 in
theorem ggX1_init_J7_fill_53178 : GoodIn wsX1_init wsJ7_fill_53178 := goodIn_r _ [16] (by decide +kernel) (by decide +kernel)
set_option maxRecDepth 20000 in
theorem gX1_init_J7_fill_53178 : GoodIn wsX1_init (va_wsS RX1 29 yJ7_fill_53178 wsJ7_fill_53178) := goodIn_app (goodIn_of _ (by decide +kernel)) ggX1_init_J7_fill_53178
theorem dX1_init_0 : decode cX1_init 0 = .ok (.aload_n 0, 1) := by decide +kernel
theorem dX1_init_1 : decode cX1_init 1 = .ok (.invokespecial 3, 3) := by decide +kernel
theorem dX1_init_4 : decode cX1_init 4 = .ok (.aload_n 0, 1) := by decide +kernel
theorem dX1_init_5 : decode cX1_init 5 = .ok (.iload_n 1, 1) := by decide +kernel
theorem dX1_init_6 : decode cX1_init 6 = .ok (.putfield 9, 3) := by decide +kernel
theorem dX1_init_9 : decode cX1_init 9 = .ok (.aload_n 0, 1) := by decide +kernel
theorem dX1_init_10 : decode cX1_init 10 = .ok (.aload_n 0, 1) := by decide +kernel
theorem dX1_init_11 : decode cX1_init 11 = .ok (.getfield 9, 3) := by decide +kernel
theorem dX1_init_14 : decode cX1_init 14 = .ok (.iconst 4, 1) := by decide +kernel
theorem dX1_init_15 : decode cX1_init 15 = .ok (.multianewarray 15 2, 4) := by decide +kernel
theorem dX1_init_19 : decode cX1_init 19 = .ok (.putfield 17, 3) := by decide +kernel
theorem dX1_init_22 : decode cX1_init 22 = .ok (.aload_n 0, 1) := by decide +kernel
theorem dX1_init_23 : decode cX1_init 23 = .ok (.aload_n 0, 1) := by decide +kernel
theorem dX1_init_24 : decode cX1_init 24 = .ok (.getfield 9, 3) := by decide +kernel
theorem dX1_init_27 : decode cX1_init 27 = .ok (.newarray .boolean, 2) := by decide +kernel
theorem dX1_init_29 : decode cX1_init 29 = .ok (.putfield 20, 3) := by decide +kernel
theorem dX1_init_32 : decode cX1_init 32 = .ok (.aload_n 0, 1) := by decide +kernel
theorem dX1_init_33 : decode cX1_init 33 = .ok (.bipush 26, 2) := by decide +kernel
theorem dX1_init_35 : decode cX1_init 35 = .ok (.aload_n 0, 1) := by decide +kernel
theorem dX1_init_36 : decode cX1_init 36 = .ok (.getfield 9, 3) := by decide +kernel
theorem dX1_init_39 : decode cX1_init 39 = .ok (.multianewarray 24 2, 4) := by decide +kernel
theorem dX1_init_43 : decode cX1_init 43 = .ok (.putfield 26, 3) := by decide +kernel
theorem dX1_init_46 : decode cX1_init 46 = .ok (.iconst 0, 1) := by decide +kernel
theorem dX1_init_47 : decode cX1_init 47 = .ok (.istore_n 2, 1) := by decide +kernel
theorem dX1_init_48 : decode cX1_init 48 = .ok (.iload_n 2, 1) := by decide +kernel
theorem dX1_init_49 : decode cX1_init 49 = .ok (.aload_n 0, 1) := by decide +kernel
theorem dX1_init_50 : decode cX1_init 50 = .ok (.getfield 9, 3) := by decide +kernel
theorem dX1_init_53 : decode cX1_init 53 = .ok (.if_icmp .ge 20, 3) := by decide +kernel
theorem dX1_init_56 : decode cX1_init 56 = .ok (.aload_n 0, 1) := by decide +kernel
theorem dX1_init_57 : decode cX1_init 57 = .ok (.getfield 17, 3) := by decide +kernel
theorem dX1_init_60 : decode cX1_init 60 = .ok (.iload_n 2, 1) := by decide +kernel
theorem dX1_init_61 : decode cX1_init 61 = .ok (.aaload, 1) := by decide +kernel
theorem dX1_init_62 : decode cX1_init 62 = .ok (.bipush (-2), 2) := by decide +kernel
theorem dX1_init_64 : decode cX1_init 64 = .ok (.invokestatic 29, 3) := by decide +kernel
theorem dX1_init_67 : decode cX1_init 67 = .ok (.iinc 2 1, 3) := by decide +kernel
theorem dX1_init_70 : decode cX1_init 70 = .ok (.goto (-22), 3) := by decide +kernel
theorem dX1_init_73 : decode cX1_init 73 = .ok (.return_, 1) := by decide +kernel
theorem dX1_setStep_0 : decode cX1_setStep 0 = .ok (.aload_n 0, 1) := by decide +kernel
theorem dX1_setStep_1 : decode cX1_setStep 1 = .ok (.getfield 17, 3) := by decide +kernel
theorem dX1_setStep_4 : decode cX1_setStep 4 = .ok (.iload_n 1, 1) := by decide +kernel
theorem dX1_setStep_5 : decode cX1_setStep 5 = .ok (.aaload, 1) := by decide +kernel
theorem dX1_setStep_6 : decode cX1_setStep 6 = .ok (.iload_n 2, 1) := by decide +kernel
theorem dX1_setStep_7 : decode cX1_setStep 7 = .ok (.iaload, 1) := by decide +kernel
theorem dX1_setStep_8 : decode cX1_setStep 8 = .ok (.istore 4, 2) := by decide +kernel
theorem dX1_setStep_10 : decode cX1_setStep 10 = .ok (.aload_n 0, 1) := by decide +kernel
theorem dX1_setStep_11 : decode cX1_setStep 11 = .ok (.getfield 17, 3) := by decide +kernel
theorem dX1_setStep_14 : decode cX1_setStep 14 = .ok (.iload_n 1, 1) := by decide +kernel
theorem dX1_setStep_15 : decode cX1_setStep 15 = .ok (.aaload, 1) := by decide +kernel
theorem dX1_setStep_16 : decode cX1_setStep 16 = .ok (.iload_n 2, 1) := by decide +kernel
theorem dX1_setStep_17 : decode cX1_setStep 17 = .ok (.iload_n 3, 1) := by decide +kernel
theorem dX1_setStep_18 : decode cX1_setStep 18 = .ok (.iastore, 1) := by decide +kernel
theorem dX1_setStep_19 : decode cX1_setStep 19 = .ok (.iload 4, 2) := by decide +kernel
theorem dX1_setStep_21 : decode cX1_setStep 21 = .ok (.ireturn, 1) := by decide +kernel
theorem dX1_setEnd_0 : decode cX1_setEnd 0 = .ok (.aload_n 0, 1) := by decide +kernel
theorem dX1_setEnd_1 : decode cX1_setEnd 1 = .ok (.getfield 20, 3) := by decide +kernel
theorem dX1_setEnd_4 : decode cX1_setEnd 4 = .ok (.iload_n 1, 1) := by decide +kernel
theorem dX1_setEnd_5 : decode cX1_setEnd 5 = .ok (.baload, 1) := by decide +kernel
theorem dX1_setEnd_6 : decode cX1_setEnd 6 = .ok (.istore_n 3, 1) := by decide +kernel
theorem dX1_setEnd_7 : decode cX1_setEnd 7 = .ok (.aload_n 0, 1) := by decide +kernel
theorem dX1_setEnd_8 : decode cX1_setEnd 8 = .ok (.getfield 20, 3) := by decide +kernel
theorem dX1_setEnd_11 : decode cX1_setEnd 11 = .ok (.iload_n 1, 1) := by decide +kernel
theorem dX1_setEnd_12 : decode cX1_setEnd 12 = .ok (.iload_n 2, 1) := by decide +kernel
theorem dX1_setEnd_13 : decode cX1_setEnd 13 = .ok (.bastore, 1) := by decide +kernel
theorem dX1_setEnd_14 : decode cX1_setEnd 14 = .ok (.iload_n 3, 1) := by decide +kernel
theorem dX1_setEnd_15 : decode cX1_setEnd 15 = .ok (.ireturn, 1) := by decide +kernel
set_option maxRecDepth 20000 in
theorem ggX1_countAll_X1_countBefore : GoodIn wsX1_countAll wsX1_countBefore := goodIn_r _ [8, 9, 10, 11, 7, 12, 13, 2, 14, 15, 16, 17] (by decide +kernel) (by decide +kernel)
set_option maxRecDepth 20000 in
theorem gX1_countAll_X1_countBefore : GoodIn wsX1_countAll (wsV RX1 35 RX1 yX1_countBefore wsX1_countBefore) := goodIn_app (goodIn_of _ (by decide +kernel)) ggX1_countAll_X1_countBefore
theorem dX1_countAll_0 : decode cX1_countAll 0 = .ok (.iconst 0, 1) := by decide +kernel
theorem dX1_countAll_1 : decode cX1_countAll 1 = .ok (.istore_n 2, 1) := by decide +kernel
theorem dX1_countAll_2 : decode cX1_countAll 2 = .ok (.iload_n 2, 1) := by decide +kernel
theorem dX1_countAll_3 : decode cX1_countAll 3 = .ok (.aload_n 0, 1) := by decide +kernel
theorem dX1_countAll_4 : decode cX1_countAll 4 = .ok (.getfield 9, 3) := by decide +kernel
theorem dX1_countAll_7 : decode cX1_countAll 7 = .ok (.if_icmp .ge 31, 3) := by decide +kernel
theorem dX1_countAll_10 : decode cX1_countAll 10 = .ok (.aload_n 0, 1) := by decide +kernel
theorem dX1_countAll_11 : decode cX1_countAll 11 = .ok (.getfield 26, 3) := by decide +kernel
theorem dX1_countAll_14 : decode cX1_countAll 14 = .ok (.iconst 0, 1) := by decide +kernel
theorem dX1_countAll_15 : decode cX1_countAll 15 = .ok (.aaload, 1) := by decide +kernel
theorem dX1_countAll_16 : decode cX1_countAll 16 = .ok (.iload_n 2, 1) := by decide +kernel
theorem dX1_countAll_17 : decode cX1_countAll 17 = .ok (.aload_n 0, 1) := by decide +kernel
theorem dX1_countAll_18 : decode cX1_countAll 18 = .ok (.getfield 20, 3) := by decide +kernel
theorem dX1_countAll_21 : decode cX1_countAll 21 = .ok (.iload_n 2, 1) := by decide +kernel
theorem dX1_countAll_22 : decode cX1_countAll 22 = .ok (.baload, 1) := by decide +kernel
theorem dX1_countAll_23 : decode cX1_countAll 23 = .ok (.ifCond .eq 7, 3) := by decide +kernel
theorem dX1_countAll_26 : decode cX1_countAll 26 = .ok (.lconst 1, 1) := by decide +kernel
theorem dX1_countAll_27 : decode cX1_countAll 27 = .ok (.goto 4, 3) := by decide +kernel
theorem dX1_countAll_30 : decode cX1_countAll 30 = .ok (.lconst 0, 1) := by decide +kernel
theorem dX1_countAll_31 : decode cX1_countAll 31 = .ok (.lastore, 1) := by decide +kernel
theorem dX1_countAll_32 : decode cX1_countAll 32 = .ok (.iinc 2 1, 3) := by decide +kernel
theorem dX1_countAll_35 : decode cX1_countAll 35 = .ok (.goto (-33), 3) := by decide +kernel
theorem dX1_countAll_38 : decode cX1_countAll 38 = .ok (.iconst 1, 1) := by decide +kernel
theorem dX1_countAll_39 : decode cX1_countAll 39 = .ok (.istore_n 2, 1) := by decide +kernel
theorem dX1_countAll_40 : decode cX1_countAll 40 = .ok (.iload_n 2, 1) := by decide +kernel
theorem dX1_countAll_41 : decode cX1_countAll 41 = .ok (.iload_n 1, 1) := by decide +kernel
theorem dX1_countAll_42 : decode cX1_countAll 42 = .ok (.if_icmp .gt 42, 3) := by decide +kernel
theorem dX1_countAll_45 : decode cX1_countAll 45 = .ok (.iconst 0, 1) := by decide +kernel
theorem dX1_countAll_46 : decode cX1_countAll 46 = .ok (.istore_n 3, 1) := by decide +kernel
theorem dX1_countAll_47 : decode cX1_countAll 47 = .ok (.iload_n 3, 1) := by decide +kernel
theorem dX1_countAll_48 : decode cX1_countAll 48 = .ok (.aload_n 0, 1) := by decide +kernel
theorem dX1_countAll_49 : decode cX1_countAll 49 = .ok (.getfield 9, 3) := by decide +kernel
theorem dX1_countAll_52 : decode cX1_countAll 52 = .ok (.if_icmp .ge 26, 3) := by decide +kernel
theorem dX1_countAll_55 : decode cX1_countAll 55 = .ok (.aload_n 0, 1) := by decide +kernel
theorem dX1_countAll_56 : decode cX1_countAll 56 = .ok (.getfield 26, 3) := by decide +kernel
theorem dX1_countAll_59 : decode cX1_countAll 59 = .ok (.iload_n 2, 1) := by decide +kernel
theorem dX1_countAll_60 : decode cX1_countAll 60 = .ok (.aaload, 1) := by decide +kernel
theorem dX1_countAll_61 : decode cX1_countAll 61 = .ok (.iload_n 3, 1) := by decide +kernel
theorem dX1_countAll_62 : decode cX1_countAll 62 = .ok (.aload_n 0, 1) := by decide +kernel
theorem dX1_countAll_63 : decode cX1_countAll 63 = .ok (.iload_n 3, 1) := by decide +kernel
theorem dX1_countAll_64 : decode cX1_countAll 64 = .ok (.iconst 4, 1) := by decide +kernel
theorem dX1_countAll_65 : decode cX1_countAll 65 = .ok (.iload_n 2, 1) := by decide +kernel
theorem dX1_countAll_66 : decode cX1_countAll 66 = .ok (.iconst 1, 1) := by decide +kernel
theorem dX1_countAll_67 : decode cX1_countAll 67 = .ok (.isub, 1) := by decide +kernel
theorem dX1_countAll_68 : decode cX1_countAll 68 = .ok (.invokevirtual 35, 3) := by decide +kernel
theorem dX1_countAll_71 : decode cX1_countAll 71 = .ok (.lastore, 1) := by decide +kernel
theorem dX1_countAll_72 : decode cX1_countAll 72 = .ok (.iinc 3 1, 3) := by decide +kernel
theorem dX1_countAll_75 : decode cX1_countAll 75 = .ok (.goto (-28), 3) := by decide +kernel
theorem dX1_countAll_78 : decode cX1_countAll 78 = .ok (.iinc 2 1, 3) := by decide +kernel
theorem dX1_countAll_81 : decode cX1_countAll 81 = .ok (.goto (-41), 3) := by decide +kernel
theorem dX1_countAll_84 : decode cX1_countAll 84 = .ok (.aload_n 0, 1) := by decide +kernel
theorem dX1_countAll_85 : decode cX1_countAll 85 = .ok (.getfield 26, 3) := by decide +kernel
theorem dX1_countAll_88 : decode cX1_countAll 88 = .ok (.iload_n 1, 1) := by decide +kernel
theorem dX1_countAll_89 : decode cX1_countAll 89 = .ok (.aaload, 1) := by decide +kernel
theorem dX1_countAll_90 : decode cX1_countAll 90 = .ok (.iconst 0, 1) := by decide +kernel
theorem dX1_countAll_91 : decode cX1_countAll 91 = .ok (.laload, 1) := by decide +kernel
theorem dX1_countAll_92 : decode cX1_countAll 92 = .ok (.lreturn, 1) := by decide +kernel
set_option maxRecDepth 20000 in
theorem ggX1_countBefore_X1_countWith : GoodIn wsX1_countBefore wsX1_countWith := goodIn_r _ [5, 6, 7, 8, 9, 10, 11] (by decide +kernel) (by decide +kernel)
set_option maxRecDepth 20000 in
theorem gX1_countBefore_X1_countWith : GoodIn wsX1_countBefore (wsV RX1 39 RX1 yX1_countWith wsX1_countWith) := goodIn_app (goodIn_of _ (by decide +kernel)) ggX1_countBefore_X1_countWith
theorem dX1_countBefore_0 : decode cX1_countBefore 0 = .ok (.lconst 0, 1) := by decide +kernel
theorem dX1_countBefore_1 : decode cX1_countBefore 1 = .ok (.lstore 4, 2) := by decide +kernel
theorem dX1_countBefore_3 : decode cX1_countBefore 3 = .ok (.iconst 0, 1) := by decide +kernel
theorem dX1_countBefore_4 : decode cX1_countBefore 4 = .ok (.istore 6, 2) := by decide +kernel
theorem dX1_countBefore_6 : decode cX1_countBefore 6 = .ok (.iload 6, 2) := by decide +kernel
theorem dX1_countBefore_8 : decode cX1_countBefore 8 = .ok (.iload_n 2, 1) := by decide +kernel
theorem dX1_countBefore_9 : decode cX1_countBefore 9 = .ok (.if_icmp .ge 22, 3) := by decide +kernel
theorem dX1_countBefore_12 : decode cX1_countBefore 12 = .ok (.lload 4, 2) := by decide +kernel
theorem dX1_countBefore_14 : decode cX1_countBefore 14 = .ok (.aload_n 0, 1) := by decide +kernel
theorem dX1_countBefore_15 : decode cX1_countBefore 15 = .ok (.iload_n 1, 1) := by decide +kernel
theorem dX1_countBefore_16 : decode cX1_countBefore 16 = .ok (.iload 6, 2) := by decide +kernel
theorem dX1_countBefore_18 : decode cX1_countBefore 18 = .ok (.iload_n 3, 1) := by decide +kernel
theorem dX1_countBefore_19 : decode cX1_countBefore 19 = .ok (.invokevirtual 39, 3) := by decide +kernel
theorem dX1_countBefore_22 : decode cX1_countBefore 22 = .ok (.ladd, 1) := by decide +kernel
theorem dX1_countBefore_23 : decode cX1_countBefore 23 = .ok (.lstore 4, 2) := by decide +kernel
theorem dX1_countBefore_25 : decode cX1_countBefore 25 = .ok (.iinc 6 1, 3) := by decide +kernel
theorem dX1_countBefore_28 : decode cX1_countBefore 28 = .ok (.goto (-22), 3) := by decide +kernel
theorem dX1_countBefore_31 : decode cX1_countBefore 31 = .ok (.lload 4, 2) := by decide +kernel
theorem dX1_countBefore_33 : decode cX1_countBefore 33 = .ok (.lreturn, 1) := by decide +kernel
theorem dX1_countWith_0 : decode cX1_countWith 0 = .ok (.aload_n 0, 1) := by decide +kernel
theorem dX1_countWith_1 : decode cX1_countWith 1 = .ok (.getfield 17, 3) := by decide +kernel
theorem dX1_countWith_4 : decode cX1_countWith 4 = .ok (.iload_n 1, 1) := by decide +kernel
theorem dX1_countWith_5 : decode cX1_countWith 5 = .ok (.aaload, 1) := by decide +kernel
theorem dX1_countWith_6 : decode cX1_countWith 6 = .ok (.iload_n 2, 1) := by decide +kernel
theorem dX1_countWith_7 : decode cX1_countWith 7 = .ok (.iaload, 1) := by decide +kernel
theorem dX1_countWith_8 : decode cX1_countWith 8 = .ok (.istore 4, 2) := by decide +kernel
theorem dX1_countWith_10 : decode cX1_countWith 10 = .ok (.iload 4, 2) := by decide +kernel
theorem dX1_countWith_12 : decode cX1_countWith 12 = .ok (.bipush (-2), 2) := by decide +kernel
theorem dX1_countWith_14 : decode cX1_countWith 14 = .ok (.if_icmp .ne 7, 3) := by decide +kernel
theorem dX1_countWith_17 : decode cX1_countWith 17 = .ok (.lconst 0, 1) := by decide +kernel
theorem dX1_countWith_18 : decode cX1_countWith 18 = .ok (.goto 12, 3) := by decide +kernel
theorem dX1_countWith_21 : decode cX1_countWith 21 = .ok (.aload_n 0, 1) := by decide +kernel
theorem dX1_countWith_22 : decode cX1_countWith 22 = .ok (.getfield 26, 3) := by decide +kernel
theorem dX1_countWith_25 : decode cX1_countWith 25 = .ok (.iload_n 3, 1) := by decide +kernel
theorem dX1_countWith_26 : decode cX1_countWith 26 = .ok (.aaload, 1) := by decide +kernel
theorem dX1_countWith_27 : decode cX1_countWith 27 = .ok (.iload 4, 2) := by decide +kernel
theorem dX1_countWith_29 : decode cX1_countWith 29 = .ok (.laload, 1) := by decide +kernel
theorem dX1_countWith_30 : decode cX1_countWith 30 = .ok (.lreturn, 1) := by decide +kernel
set_option maxRecDepth 20000 in
theorem ggX1_letterOf_X1_letterAt : GoodIn wsX1_letterOf wsX1_letterAt := goodIn_r _ [6, 7, 8, 9, 5, 10, 11, 12, 13, 14, 1, 15, 16, 17, 18, 19] (by decide +kernel) (by decide +kernel)
set_option maxRecDepth 20000 in
theorem gX1_letterOf_X1_letterAt : GoodIn wsX1_letterOf (wsV RX1 42 RX1 yX1_letterAt wsX1_letterAt) := goodIn_app (goodIn_of _ (by decide +kernel)) ggX1_letterOf_X1_letterAt
set_option maxRecDepth 20000 in
theorem ggX1_letterOf_X1_countBefore : GoodIn wsX1_letterOf wsX1_countBefore := goodIn_r _ [10, 11, 12, 13, 5, 14, 1, 15, 16, 17, 18, 19] (by decide +kernel) (by decide +kernel)
set_option maxRecDepth 20000 in
theorem gX1_letterOf_X1_countBefore : GoodIn wsX1_letterOf (wsV RX1 35 RX1 yX1_countBefore wsX1_countBefore) := goodIn_app (goodIn_of _ (by decide +kernel)) ggX1_letterOf_X1_countBefore
theorem dX1_letterOf_0 : decode cX1_letterOf 0 = .ok (.iconst 0, 1) := by decide +kernel
theorem dX1_letterOf_1 : decode cX1_letterOf 1 = .ok (.istore 5, 2) := by decide +kernel
theorem dX1_letterOf_3 : decode cX1_letterOf 3 = .ok (.lload_n 2, 1) := by decide +kernel
theorem dX1_letterOf_4 : decode cX1_letterOf 4 = .ok (.lstore 6, 2) := by decide +kernel
theorem dX1_letterOf_6 : decode cX1_letterOf 6 = .ok (.iconst 0, 1) := by decide +kernel
theorem dX1_letterOf_7 : decode cX1_letterOf 7 = .ok (.istore 8, 2) := by decide +kernel
theorem dX1_letterOf_9 : decode cX1_letterOf 9 = .ok (.iload 8, 2) := by decide +kernel
theorem dX1_letterOf_11 : decode cX1_letterOf 11 = .ok (.iload_n 1, 1) := by decide +kernel
theorem dX1_letterOf_12 : decode cX1_letterOf 12 = .ok (.if_icmp .ge 73, 3) := by decide +kernel
theorem dX1_letterOf_15 : decode cX1_letterOf 15 = .ok (.iload 5, 2) := by decide +kernel
theorem dX1_letterOf_17 : decode cX1_letterOf 17 = .ok (.bipush (-2), 2) := by decide +kernel
theorem dX1_letterOf_19 : decode cX1_letterOf 19 = .ok (.if_icmp .eq 66, 3) := by decide +kernel
theorem dX1_letterOf_22 : decode cX1_letterOf 22 = .ok (.iload_n 1, 1) := by decide +kernel
theorem dX1_letterOf_23 : decode cX1_letterOf 23 = .ok (.iconst 1, 1) := by decide +kernel
theorem dX1_letterOf_24 : decode cX1_letterOf 24 = .ok (.isub, 1) := by decide +kernel
theorem dX1_letterOf_25 : decode cX1_letterOf 25 = .ok (.iload 8, 2) := by decide +kernel
theorem dX1_letterOf_27 : decode cX1_letterOf 27 = .ok (.isub, 1) := by decide +kernel
theorem dX1_letterOf_28 : decode cX1_letterOf 28 = .ok (.istore 9, 2) := by decide +kernel
theorem dX1_letterOf_30 : decode cX1_letterOf 30 = .ok (.aload_n 0, 1) := by decide +kernel
theorem dX1_letterOf_31 : decode cX1_letterOf 31 = .ok (.iload 5, 2) := by decide +kernel
theorem dX1_letterOf_33 : decode cX1_letterOf 33 = .ok (.lload 6, 2) := by decide +kernel
theorem dX1_letterOf_35 : decode cX1_letterOf 35 = .ok (.iload 9, 2) := by decide +kernel
theorem dX1_letterOf_37 : decode cX1_letterOf 37 = .ok (.invokevirtual 42, 3) := by decide +kernel
theorem dX1_letterOf_40 : decode cX1_letterOf 40 = .ok (.istore 10, 2) := by decide +kernel
theorem dX1_letterOf_42 : decode cX1_letterOf 42 = .ok (.iload 8, 2) := by decide +kernel
theorem dX1_letterOf_44 : decode cX1_letterOf 44 = .ok (.iload 4, 2) := by decide +kernel
theorem dX1_letterOf_46 : decode cX1_letterOf 46 = .ok (.if_icmp .ne 6, 3) := by decide +kernel
theorem dX1_letterOf_49 : decode cX1_letterOf 49 = .ok (.iload 10, 2) := by decide +kernel
theorem dX1_letterOf_51 : decode cX1_letterOf 51 = .ok (.ireturn, 1) := by decide +kernel
theorem dX1_letterOf_52 : decode cX1_letterOf 52 = .ok (.lload 6, 2) := by decide +kernel
theorem dX1_letterOf_54 : decode cX1_letterOf 54 = .ok (.aload_n 0, 1) := by decide +kernel
theorem dX1_letterOf_55 : decode cX1_letterOf 55 = .ok (.iload 5, 2) := by decide +kernel
theorem dX1_letterOf_57 : decode cX1_letterOf 57 = .ok (.iload 10, 2) := by decide +kernel
theorem dX1_letterOf_59 : decode cX1_letterOf 59 = .ok (.iload 9, 2) := by decide +kernel
theorem dX1_letterOf_61 : decode cX1_letterOf 61 = .ok (.invokevirtual 35, 3) := by decide +kernel
theorem dX1_letterOf_64 : decode cX1_letterOf 64 = .ok (.lsub, 1) := by decide +kernel
theorem dX1_letterOf_65 : decode cX1_letterOf 65 = .ok (.lstore 6, 2) := by decide +kernel
theorem dX1_letterOf_67 : decode cX1_letterOf 67 = .ok (.aload_n 0, 1) := by decide +kernel
theorem dX1_letterOf_68 : decode cX1_letterOf 68 = .ok (.getfield 17, 3) := by decide +kernel
theorem dX1_letterOf_71 : decode cX1_letterOf 71 = .ok (.iload 5, 2) := by decide +kernel
theorem dX1_letterOf_73 : decode cX1_letterOf 73 = .ok (.aaload, 1) := by decide +kernel
theorem dX1_letterOf_74 : decode cX1_letterOf 74 = .ok (.iload 10, 2) := by decide +kernel
theorem dX1_letterOf_76 : decode cX1_letterOf 76 = .ok (.iaload, 1) := by decide +kernel
theorem dX1_letterOf_77 : decode cX1_letterOf 77 = .ok (.istore 5, 2) := by decide +kernel
theorem dX1_letterOf_79 : decode cX1_letterOf 79 = .ok (.iinc 8 1, 3) := by decide +kernel
theorem dX1_letterOf_82 : decode cX1_letterOf 82 = .ok (.goto (-73), 3) := by decide +kernel
theorem dX1_letterOf_85 : decode cX1_letterOf 85 = .ok (.iconst (-1), 1) := by decide +kernel
theorem dX1_letterOf_86 : decode cX1_letterOf 86 = .ok (.ireturn, 1) := by decide +kernel
set_option maxRecDepth 20000 in
theorem ggX1_letterAt_X1_countBefore : GoodIn wsX1_letterAt wsX1_countBefore := goodIn_r _ [5, 6, 7, 8, 4, 9, 10, 11, 12, 13, 14, 15] (by decide +kernel) (by decide +kernel)
set_option maxRecDepth 20000 in
theorem gX1_letterAt_X1_countBefore : GoodIn wsX1_letterAt (wsV RX1 35 RX1 yX1_countBefore wsX1_countBefore) := goodIn_app (goodIn_of _ (by decide +kernel)) ggX1_letterAt_X1_countBefore
theorem dX1_letterAt_0 : decode cX1_letterAt 0 = .ok (.iconst 0, 1) := by decide +kernel
theorem dX1_letterAt_1 : decode cX1_letterAt 1 = .ok (.istore 5, 2) := by decide +kernel
theorem dX1_letterAt_3 : decode cX1_letterAt 3 = .ok (.iload 5, 2) := by decide +kernel
theorem dX1_letterAt_5 : decode cX1_letterAt 5 = .ok (.iconst 3, 1) := by decide +kernel
theorem dX1_letterAt_6 : decode cX1_letterAt 6 = .ok (.if_icmp .ge 25, 3) := by decide +kernel
theorem dX1_letterAt_9 : decode cX1_letterAt 9 = .ok (.lload_n 2, 1) := by decide +kernel
theorem dX1_letterAt_10 : decode cX1_letterAt 10 = .ok (.aload_n 0, 1) := by decide +kernel
theorem dX1_letterAt_11 : decode cX1_letterAt 11 = .ok (.iload_n 1, 1) := by decide +kernel
theorem dX1_letterAt_12 : decode cX1_letterAt 12 = .ok (.iload 5, 2) := by decide +kernel
theorem dX1_letterAt_14 : decode cX1_letterAt 14 = .ok (.iconst 1, 1) := by decide +kernel
theorem dX1_letterAt_15 : decode cX1_letterAt 15 = .ok (.iadd, 1) := by decide +kernel
theorem dX1_letterAt_16 : decode cX1_letterAt 16 = .ok (.iload 4, 2) := by decide +kernel
theorem dX1_letterAt_18 : decode cX1_letterAt 18 = .ok (.invokevirtual 35, 3) := by decide +kernel
theorem dX1_letterAt_21 : decode cX1_letterAt 21 = .ok (.lcmp, 1) := by decide +kernel
theorem dX1_letterAt_22 : decode cX1_letterAt 22 = .ok (.ifCond .lt 9, 3) := by decide +kernel
theorem dX1_letterAt_25 : decode cX1_letterAt 25 = .ok (.iinc 5 1, 3) := by decide +kernel
theorem dX1_letterAt_28 : decode cX1_letterAt 28 = .ok (.goto (-25), 3) := by decide +kernel
theorem dX1_letterAt_31 : decode cX1_letterAt 31 = .ok (.iload 5, 2) := by decide +kernel
theorem dX1_letterAt_33 : decode cX1_letterAt 33 = .ok (.ireturn, 1) := by decide +kernel
set_option maxRecDepth 20000 in
theorem ggX1_numberOf_X1_countBefore : GoodIn wsX1_numberOf wsX1_countBefore := goodIn_r _ [8, 9, 10, 11, 7, 12, 1, 13, 14, 15, 16, 17] (by decide +kernel) (by decide +kernel)
set_option maxRecDepth 20000 in
theorem gX1_numberOf_X1_countBefore : GoodIn wsX1_numberOf (wsV RX1 35 RX1 yX1_countBefore wsX1_countBefore) := goodIn_app (goodIn_of _ (by decide +kernel)) ggX1_numberOf_X1_countBefore
theorem dX1_numberOf_0 : decode cX1_numberOf 0 = .ok (.iconst 0, 1) := by decide +kernel
theorem dX1_numberOf_1 : decode cX1_numberOf 1 = .ok (.istore 4, 2) := by decide +kernel
theorem dX1_numberOf_3 : decode cX1_numberOf 3 = .ok (.lconst 0, 1) := by decide +kernel
theorem dX1_numberOf_4 : decode cX1_numberOf 4 = .ok (.lstore 5, 2) := by decide +kernel
theorem dX1_numberOf_6 : decode cX1_numberOf 6 = .ok (.iconst 0, 1) := by decide +kernel
theorem dX1_numberOf_7 : decode cX1_numberOf 7 = .ok (.istore 7, 2) := by decide +kernel
theorem dX1_numberOf_9 : decode cX1_numberOf 9 = .ok (.iload 7, 2) := by decide +kernel
theorem dX1_numberOf_11 : decode cX1_numberOf 11 = .ok (.iload_n 1, 1) := by decide +kernel
theorem dX1_numberOf_12 : decode cX1_numberOf 12 = .ok (.if_icmp .ge 62, 3) := by decide +kernel
theorem dX1_numberOf_15 : decode cX1_numberOf 15 = .ok (.lload_n 2, 1) := by decide +kernel
theorem dX1_numberOf_16 : decode cX1_numberOf 16 = .ok (.iconst 2, 1) := by decide +kernel
theorem dX1_numberOf_17 : decode cX1_numberOf 17 = .ok (.iload 7, 2) := by decide +kernel
theorem dX1_numberOf_19 : decode cX1_numberOf 19 = .ok (.imul, 1) := by decide +kernel
theorem dX1_numberOf_20 : decode cX1_numberOf 20 = .ok (.lushr, 1) := by decide +kernel
theorem dX1_numberOf_21 : decode cX1_numberOf 21 = .ok (.l2i, 1) := by decide +kernel
theorem dX1_numberOf_22 : decode cX1_numberOf 22 = .ok (.iconst 3, 1) := by decide +kernel
theorem dX1_numberOf_23 : decode cX1_numberOf 23 = .ok (.iand, 1) := by decide +kernel
theorem dX1_numberOf_24 : decode cX1_numberOf 24 = .ok (.istore 8, 2) := by decide +kernel
theorem dX1_numberOf_26 : decode cX1_numberOf 26 = .ok (.lload 5, 2) := by decide +kernel
theorem dX1_numberOf_28 : decode cX1_numberOf 28 = .ok (.aload_n 0, 1) := by decide +kernel
theorem dX1_numberOf_29 : decode cX1_numberOf 29 = .ok (.iload 4, 2) := by decide +kernel
theorem dX1_numberOf_31 : decode cX1_numberOf 31 = .ok (.iload 8, 2) := by decide +kernel
theorem dX1_numberOf_33 : decode cX1_numberOf 33 = .ok (.iload_n 1, 1) := by decide +kernel
theorem dX1_numberOf_34 : decode cX1_numberOf 34 = .ok (.iconst 1, 1) := by decide +kernel
theorem dX1_numberOf_35 : decode cX1_numberOf 35 = .ok (.isub, 1) := by decide +kernel
theorem dX1_numberOf_36 : decode cX1_numberOf 36 = .ok (.iload 7, 2) := by decide +kernel
theorem dX1_numberOf_38 : decode cX1_numberOf 38 = .ok (.isub, 1) := by decide +kernel
theorem dX1_numberOf_39 : decode cX1_numberOf 39 = .ok (.invokevirtual 35, 3) := by decide +kernel
theorem dX1_numberOf_42 : decode cX1_numberOf 42 = .ok (.ladd, 1) := by decide +kernel
theorem dX1_numberOf_43 : decode cX1_numberOf 43 = .ok (.lstore 5, 2) := by decide +kernel
theorem dX1_numberOf_45 : decode cX1_numberOf 45 = .ok (.aload_n 0, 1) := by decide +kernel
theorem dX1_numberOf_46 : decode cX1_numberOf 46 = .ok (.getfield 17, 3) := by decide +kernel
theorem dX1_numberOf_49 : decode cX1_numberOf 49 = .ok (.iload 4, 2) := by decide +kernel
theorem dX1_numberOf_51 : decode cX1_numberOf 51 = .ok (.aaload, 1) := by decide +kernel
theorem dX1_numberOf_52 : decode cX1_numberOf 52 = .ok (.iload 8, 2) := by decide +kernel
theorem dX1_numberOf_54 : decode cX1_numberOf 54 = .ok (.iaload, 1) := by decide +kernel
theorem dX1_numberOf_55 : decode cX1_numberOf 55 = .ok (.istore 4, 2) := by decide +kernel
theorem dX1_numberOf_57 : decode cX1_numberOf 57 = .ok (.iload 4, 2) := by decide +kernel
theorem dX1_numberOf_59 : decode cX1_numberOf 59 = .ok (.bipush (-2), 2) := by decide +kernel
theorem dX1_numberOf_61 : decode cX1_numberOf 61 = .ok (.if_icmp .ne 7, 3) := by decide +kernel
theorem dX1_numberOf_64 : decode cX1_numberOf 64 = .ok (.ldc2_w 46, 3) := by decide +kernel
theorem dX1_numberOf_67 : decode cX1_numberOf 67 = .ok (.lreturn, 1) := by decide +kernel
theorem dX1_numberOf_68 : decode cX1_numberOf 68 = .ok (.iinc 7 1, 3) := by decide +kernel
theorem dX1_numberOf_71 : decode cX1_numberOf 71 = .ok (.goto (-62), 3) := by decide +kernel
theorem dX1_numberOf_74 : decode cX1_numberOf 74 = .ok (.aload_n 0, 1) := by decide +kernel
theorem dX1_numberOf_75 : decode cX1_numberOf 75 = .ok (.getfield 20, 3) := by decide +kernel
theorem dX1_numberOf_78 : decode cX1_numberOf 78 = .ok (.iload 4, 2) := by decide +kernel
theorem dX1_numberOf_80 : decode cX1_numberOf 80 = .ok (.baload, 1) := by decide +kernel
theorem dX1_numberOf_81 : decode cX1_numberOf 81 = .ok (.ifCond .eq 8, 3) := by decide +kernel
theorem dX1_numberOf_84 : decode cX1_numberOf 84 = .ok (.lload 5, 2) := by decide +kernel
theorem dX1_numberOf_86 : decode cX1_numberOf 86 = .ok (.goto 6, 3) := by decide +kernel
theorem dX1_numberOf_89 : decode cX1_numberOf 89 = .ok (.ldc2_w 46, 3) := by decide +kernel
theorem dX1_numberOf_92 : decode cX1_numberOf 92 = .ok (.lreturn, 1) := by decide +kernel
set_option maxRecDepth 20000 in
theorem ggX2_init_J7_fill_53178 : GoodIn wsX2_init wsJ7_fill_53178 := goodIn_r _ [10] (by decide +kernel) (by decide +kernel)
set_option maxRecDepth 20000 in
theorem gX2_init_J7_fill_53178 : GoodIn wsX2_init (va_wsS RX2 18 yJ7_fill_53178 wsJ7_fill_53178) := goodIn_app (goodIn_of _ (by decide +kernel)) ggX2_init_J7_fill_53178
theorem dX2_init_0 : decode cX2_init 0 = .ok (.aload_n 0, 1) := by decide +kernel
theorem dX2_init_1 : decode cX2_init 1 = .ok (.invokespecial 3, 3) := by decide +kernel
theorem dX2_init_4 : decode cX2_init 4 = .ok (.aload_n 0, 1) := by decide +kernel
theorem dX2_init_5 : decode cX2_init 5 = .ok (.bipush 8, 2) := by decide +kernel
theorem dX2_init_7 : decode cX2_init 7 = .ok (.newarray .int, 2) := by decide +kernel
theorem dX2_init_9 : decode cX2_init 9 = .ok (.putfield 9, 3) := by decide +kernel
theorem dX2_init_12 : decode cX2_init 12 = .ok (.aload_n 0, 1) := by decide +kernel
theorem dX2_init_13 : decode cX2_init 13 = .ok (.sipush 256, 3) := by decide +kernel
theorem dX2_init_16 : decode cX2_init 16 = .ok (.newarray .int, 2) := by decide +kernel
theorem dX2_init_18 : decode cX2_init 18 = .ok (.putfield 15, 3) := by decide +kernel
theorem dX2_init_21 : decode cX2_init 21 = .ok (.aload_n 0, 1) := by decide +kernel
theorem dX2_init_22 : decode cX2_init 22 = .ok (.getfield 9, 3) := by decide +kernel
theorem dX2_init_25 : decode cX2_init 25 = .ok (.sipush 255, 3) := by decide +kernel
theorem dX2_init_28 : decode cX2_init 28 = .ok (.invokestatic 18, 3) := by decide +kernel
theorem dX2_init_31 : decode cX2_init 31 = .ok (.return_, 1) := by decide +kernel
theorem dX2_setAllowed_0 : decode cX2_setAllowed 0 = .ok (.aload_n 0, 1) := by decide +kernel
theorem dX2_setAllowed_1 : decode cX2_setAllowed 1 = .ok (.getfield 9, 3) := by decide +kernel
theorem dX2_setAllowed_4 : decode cX2_setAllowed 4 = .ok (.iload_n 1, 1) := by decide +kernel
theorem dX2_setAllowed_5 : decode cX2_setAllowed 5 = .ok (.iaload, 1) := by decide +kernel
theorem dX2_setAllowed_6 : decode cX2_setAllowed 6 = .ok (.iload_n 2, 1) := by decide +kernel
theorem dX2_setAllowed_7 : decode cX2_setAllowed 7 = .ok (.ishr, 1) := by decide +kernel
theorem dX2_setAllowed_8 : decode cX2_setAllowed 8 = .ok (.iconst 1, 1) := by decide +kernel
theorem dX2_setAllowed_9 : decode cX2_setAllowed 9 = .ok (.iand, 1) := by decide +kernel
theorem dX2_setAllowed_10 : decode cX2_setAllowed 10 = .ok (.ifCond .eq 7, 3) := by decide +kernel
theorem dX2_setAllowed_13 : decode cX2_setAllowed 13 = .ok (.iconst 1, 1) := by decide +kernel
theorem dX2_setAllowed_14 : decode cX2_setAllowed 14 = .ok (.goto 4, 3) := by decide +kernel
theorem dX2_setAllowed_17 : decode cX2_setAllowed 17 = .ok (.iconst 0, 1) := by decide +kernel
theorem dX2_setAllowed_18 : decode cX2_setAllowed 18 = .ok (.istore 4, 2) := by decide +kernel
theorem dX2_setAllowed_20 : decode cX2_setAllowed 20 = .ok (.iload_n 3, 1) := by decide +kernel
theorem dX2_setAllowed_21 : decode cX2_setAllowed 21 = .ok (.iload 4, 2) := by decide +kernel
theorem dX2_setAllowed_23 : decode cX2_setAllowed 23 = .ok (.if_icmp .eq 15, 3) := by decide +kernel
theorem dX2_setAllowed_26 : decode cX2_setAllowed 26 = .ok (.aload_n 0, 1) := by decide +kernel
theorem dX2_setAllowed_27 : decode cX2_setAllowed 27 = .ok (.getfield 9, 3) := by decide +kernel
theorem dX2_setAllowed_30 : decode cX2_setAllowed 30 = .ok (.iload_n 1, 1) := by decide +kernel
theorem dX2_setAllowed_31 : decode cX2_setAllowed 31 = .ok (.dup2, 1) := by decide +kernel
theorem dX2_setAllowed_32 : decode cX2_setAllowed 32 = .ok (.iaload, 1) := by decide +kernel
theorem dX2_setAllowed_33 : decode cX2_setAllowed 33 = .ok (.iconst 1, 1) := by decide +kernel
theorem dX2_setAllowed_34 : decode cX2_setAllowed 34 = .ok (.iload_n 2, 1) := by decide +kernel
theorem dX2_setAllowed_35 : decode cX2_setAllowed 35 = .ok (.ishl, 1) := by decide +kernel
theorem dX2_setAllowed_36 : decode cX2_setAllowed 36 = .ok (.ixor, 1) := by decide +kernel
theorem dX2_setAllowed_37 : decode cX2_setAllowed 37 = .ok (.iastore, 1) := by decide +kernel
theorem dX2_setAllowed_38 : decode cX2_setAllowed 38 = .ok (.iload 4, 2) := by decide +kernel
theorem dX2_setAllowed_40 : decode cX2_setAllowed 40 = .ok (.ireturn, 1) := by decide +kernel
set_option maxRecDepth 20000 in
theorem ggX2_countAll_X2_waysBefore : GoodIn wsX2_countAll wsX2_waysBefore := goodIn_r _ [6, 1, 7, 8, 9, 5, 10, 11, 12, 13, 14, 15, 16, 17, 18, 19, 20] (by decide +kernel) (by decide +kernel)
set_option maxRecDepth 20000 in
theorem gX2_countAll_X2_waysBefore : GoodIn wsX2_countAll (wsV RX2 24 RX2 yX2_waysBefore wsX2_waysBefore) := goodIn_app (goodIn_of _ (by decide +kernel)) ggX2_countAll_X2_waysBefore
theorem dX2_countAll_0 : decode cX2_countAll 0 = .ok (.iconst 1, 1) := by decide +kernel
theorem dX2_countAll_1 : decode cX2_countAll 1 = .ok (.iload_n 1, 1) := by decide +kernel
theorem dX2_countAll_2 : decode cX2_countAll 2 = .ok (.ishl, 1) := by decide +kernel
theorem dX2_countAll_3 : decode cX2_countAll 3 = .ok (.iconst 1, 1) := by decide +kernel
theorem dX2_countAll_4 : decode cX2_countAll 4 = .ok (.isub, 1) := by decide +kernel
theorem dX2_countAll_5 : decode cX2_countAll 5 = .ok (.istore_n 2, 1) := by decide +kernel
theorem dX2_countAll_6 : decode cX2_countAll 6 = .ok (.aload_n 0, 1) := by decide +kernel
theorem dX2_countAll_7 : decode cX2_countAll 7 = .ok (.getfield 15, 3) := by decide +kernel
theorem dX2_countAll_10 : decode cX2_countAll 10 = .ok (.iload_n 2, 1) := by decide +kernel
theorem dX2_countAll_11 : decode cX2_countAll 11 = .ok (.iconst 1, 1) := by decide +kernel
theorem dX2_countAll_12 : decode cX2_countAll 12 = .ok (.iastore, 1) := by decide +kernel
theorem dX2_countAll_13 : decode cX2_countAll 13 = .ok (.iload_n 2, 1) := by decide +kernel
theorem dX2_countAll_14 : decode cX2_countAll 14 = .ok (.iconst 1, 1) := by decide +kernel
theorem dX2_countAll_15 : decode cX2_countAll 15 = .ok (.isub, 1) := by decide +kernel
theorem dX2_countAll_16 : decode cX2_countAll 16 = .ok (.istore_n 3, 1) := by decide +kernel
theorem dX2_countAll_17 : decode cX2_countAll 17 = .ok (.iload_n 3, 1) := by decide +kernel
theorem dX2_countAll_18 : decode cX2_countAll 18 = .ok (.ifCond .lt 22, 3) := by decide +kernel
theorem dX2_countAll_21 : decode cX2_countAll 21 = .ok (.aload_n 0, 1) := by decide +kernel
theorem dX2_countAll_22 : decode cX2_countAll 22 = .ok (.getfield 15, 3) := by decide +kernel
theorem dX2_countAll_25 : decode cX2_countAll 25 = .ok (.iload_n 3, 1) := by decide +kernel
theorem dX2_countAll_26 : decode cX2_countAll 26 = .ok (.aload_n 0, 1) := by decide +kernel
theorem dX2_countAll_27 : decode cX2_countAll 27 = .ok (.iload_n 1, 1) := by decide +kernel
theorem dX2_countAll_28 : decode cX2_countAll 28 = .ok (.iload_n 3, 1) := by decide +kernel
theorem dX2_countAll_29 : decode cX2_countAll 29 = .ok (.iload_n 1, 1) := by decide +kernel
theorem dX2_countAll_30 : decode cX2_countAll 30 = .ok (.invokevirtual 24, 3) := by decide +kernel
theorem dX2_countAll_33 : decode cX2_countAll 33 = .ok (.iastore, 1) := by decide +kernel
theorem dX2_countAll_34 : decode cX2_countAll 34 = .ok (.iinc 3 (-1), 3) := by decide +kernel
theorem dX2_countAll_37 : decode cX2_countAll 37 = .ok (.goto (-20), 3) := by decide +kernel
theorem dX2_countAll_40 : decode cX2_countAll 40 = .ok (.aload_n 0, 1) := by decide +kernel
theorem dX2_countAll_41 : decode cX2_countAll 41 = .ok (.getfield 15, 3) := by decide +kernel
theorem dX2_countAll_44 : decode cX2_countAll 44 = .ok (.iconst 0, 1) := by decide +kernel
theorem dX2_countAll_45 : decode cX2_countAll 45 = .ok (.iaload, 1) := by decide +kernel
theorem dX2_countAll_46 : decode cX2_countAll 46 = .ok (.ireturn, 1) := by decide +kernel
set_option maxRecDepth 20000 in
theorem ggX2_isFree_J6_bitCount_0f7a4 : GoodIn wsX2_isFree wsJ6_bitCount_0f7a4 := goodIn_r _ [5, 6, 7, 8] (by decide +kernel) (by decide +kernel)
set_option maxRecDepth 20000 in
theorem gX2_isFree_J6_bitCount_0f7a4 : GoodIn wsX2_isFree (va_wsS RX2 28 yJ6_bitCount_0f7a4 wsJ6_bitCount_0f7a4) := goodIn_app (goodIn_of _ (by decide +kernel)) ggX2_isFree_J6_bitCount_0f7a4
theorem dX2_isFree_0 : decode cX2_isFree 0 = .ok (.aload_n 0, 1) := by decide +kernel
theorem dX2_isFree_1 : decode cX2_isFree 1 = .ok (.getfield 9, 3) := by decide +kernel
theorem dX2_isFree_4 : decode cX2_isFree 4 = .ok (.iload_n 1, 1) := by decide +kernel
theorem dX2_isFree_5 : decode cX2_isFree 5 = .ok (.invokestatic 28, 3) := by decide +kernel
theorem dX2_isFree_8 : decode cX2_isFree 8 = .ok (.iaload, 1) := by decide +kernel
theorem dX2_isFree_9 : decode cX2_isFree 9 = .ok (.iload_n 1, 1) := by decide +kernel
theorem dX2_isFree_10 : decode cX2_isFree 10 = .ok (.iconst (-1), 1) := by decide +kernel
theorem dX2_isFree_11 : decode cX2_isFree 11 = .ok (.ixor, 1) := by decide +kernel
theorem dX2_isFree_12 : decode cX2_isFree 12 = .ok (.iand, 1) := by decide +kernel
theorem dX2_isFree_13 : decode cX2_isFree 13 = .ok (.istore_n 3, 1) := by decide +kernel
theorem dX2_isFree_14 : decode cX2_isFree 14 = .ok (.iload_n 3, 1) := by decide +kernel
theorem dX2_isFree_15 : decode cX2_isFree 15 = .ok (.iload_n 2, 1) := by decide +kernel
theorem dX2_isFree_16 : decode cX2_isFree 16 = .ok (.ishr, 1) := by decide +kernel
theorem dX2_isFree_17 : decode cX2_isFree 17 = .ok (.iconst 1, 1) := by decide +kernel
theorem dX2_isFree_18 : decode cX2_isFree 18 = .ok (.iand, 1) := by decide +kernel
theorem dX2_isFree_19 : decode cX2_isFree 19 = .ok (.ifCond .eq 7, 3) := by decide +kernel
theorem dX2_isFree_22 : decode cX2_isFree 22 = .ok (.iconst 1, 1) := by decide +kernel
theorem dX2_isFree_23 : decode cX2_isFree 23 = .ok (.goto 4, 3) := by decide +kernel
theorem dX2_isFree_26 : decode cX2_isFree 26 = .ok (.iconst 0, 1) := by decide +kernel
theorem dX2_isFree_27 : decode cX2_isFree 27 = .ok (.ireturn, 1) := by decide +kernel
set_option maxRecDepth 20000 in
theorem ggX2_waysBefore_X2_isFree : GoodIn wsX2_waysBefore wsX2_isFree := goodIn_r _ [6, 7, 8, 9, 10, 11, 12, 13, 14, 15, 16] (by decide +kernel) (by decide +kernel)
set_option maxRecDepth 20000 in
theorem gX2_waysBefore_X2_isFree : GoodIn wsX2_waysBefore (wsV RX2 34 RX2 yX2_isFree wsX2_isFree) := goodIn_app (goodIn_of _ (by decide +kernel)) ggX2_waysBefore_X2_isFree
theorem dX2_waysBefore_0 : decode cX2_waysBefore 0 = .ok (.iconst 0, 1) := by decide +kernel
theorem dX2_waysBefore_1 : decode cX2_waysBefore 1 = .ok (.istore 4, 2) := by decide +kernel
theorem dX2_waysBefore_3 : decode cX2_waysBefore 3 = .ok (.iconst 0, 1) := by decide +kernel
theorem dX2_waysBefore_4 : decode cX2_waysBefore 4 = .ok (.istore 5, 2) := by decide +kernel
theorem dX2_waysBefore_6 : decode cX2_waysBefore 6 = .ok (.iload 5, 2) := by decide +kernel
theorem dX2_waysBefore_8 : decode cX2_waysBefore 8 = .ok (.iload_n 3, 1) := by decide +kernel
theorem dX2_waysBefore_9 : decode cX2_waysBefore 9 = .ok (.if_icmp .ge 41, 3) := by decide +kernel
theorem dX2_waysBefore_12 : decode cX2_waysBefore 12 = .ok (.iload 5, 2) := by decide +kernel
theorem dX2_waysBefore_14 : decode cX2_waysBefore 14 = .ok (.iload_n 1, 1) := by decide +kernel
theorem dX2_waysBefore_15 : decode cX2_waysBefore 15 = .ok (.if_icmp .ge 35, 3) := by decide +kernel
theorem dX2_waysBefore_18 : decode cX2_waysBefore 18 = .ok (.aload_n 0, 1) := by decide +kernel
theorem dX2_waysBefore_19 : decode cX2_waysBefore 19 = .ok (.iload_n 2, 1) := by decide +kernel
theorem dX2_waysBefore_20 : decode cX2_waysBefore 20 = .ok (.iload 5, 2) := by decide +kernel
theorem dX2_waysBefore_22 : decode cX2_waysBefore 22 = .ok (.invokevirtual 34, 3) := by decide +kernel
theorem dX2_waysBefore_25 : decode cX2_waysBefore 25 = .ok (.ifCond .eq 19, 3) := by decide +kernel
theorem dX2_waysBefore_28 : decode cX2_waysBefore 28 = .ok (.iload 4, 2) := by decide +kernel
theorem dX2_waysBefore_30 : decode cX2_waysBefore 30 = .ok (.aload_n 0, 1) := by decide +kernel
theorem dX2_waysBefore_31 : decode cX2_waysBefore 31 = .ok (.getfield 15, 3) := by decide +kernel
theorem dX2_waysBefore_34 : decode cX2_waysBefore 34 = .ok (.iload_n 2, 1) := by decide +kernel
theorem dX2_waysBefore_35 : decode cX2_waysBefore 35 = .ok (.iconst 1, 1) := by decide +kernel
theorem dX2_waysBefore_36 : decode cX2_waysBefore 36 = .ok (.iload 5, 2) := by decide +kernel
theorem dX2_waysBefore_38 : decode cX2_waysBefore 38 = .ok (.ishl, 1) := by decide +kernel
theorem dX2_waysBefore_39 : decode cX2_waysBefore 39 = .ok (.ior, 1) := by decide +kernel
theorem dX2_waysBefore_40 : decode cX2_waysBefore 40 = .ok (.iaload, 1) := by decide +kernel
theorem dX2_waysBefore_41 : decode cX2_waysBefore 41 = .ok (.iadd, 1) := by decide +kernel
theorem dX2_waysBefore_42 : decode cX2_waysBefore 42 = .ok (.istore 4, 2) := by decide +kernel
theorem dX2_waysBefore_44 : decode cX2_waysBefore 44 = .ok (.iinc 5 1, 3) := by decide +kernel
theorem dX2_waysBefore_47 : decode cX2_waysBefore 47 = .ok (.goto (-41), 3) := by decide +kernel
theorem dX2_waysBefore_50 : decode cX2_waysBefore 50 = .ok (.iload 4, 2) := by decide +kernel
theorem dX2_waysBefore_52 : decode cX2_waysBefore 52 = .ok (.ireturn, 1) := by decide +kernel
set_option maxRecDepth 20000 in
theorem ggX2_atPlace_X2_nextNumber : GoodIn wsX2_atPlace wsX2_nextNumber := goodIn_r _ [5, 6, 7, 8, 4, 9, 10, 11, 12, 13, 14, 15, 16, 17, 18, 19, 20, 21, 22, 23, 24] (by decide +kernel) (by decide +kernel)
set_option maxRecDepth 20000 in
theorem gX2_atPlace_X2_nextNumber : GoodIn wsX2_atPlace (wsV RX2 38 RX2 yX2_nextNumber wsX2_nextNumber) := goodIn_app (goodIn_of _ (by decide +kernel)) ggX2_atPlace_X2_nextNumber
set_option maxRecDepth 20000 in
theorem ggX2_atPlace_X2_waysBefore : GoodIn wsX2_atPlace wsX2_waysBefore := goodIn_r _ [9, 10, 11, 12, 13, 4, 14, 15, 16, 17, 18, 19, 20, 21, 22, 23, 24] (by decide +kernel) (by decide +kernel)
set_option maxRecDepth 20000 in
theorem gX2_atPlace_X2_waysBefore : GoodIn wsX2_atPlace (wsV RX2 24 RX2 yX2_waysBefore wsX2_waysBefore) := goodIn_app (goodIn_of _ (by decide +kernel)) ggX2_atPlace_X2_waysBefore
theorem dX2_atPlace_0 : decode cX2_atPlace 0 = .ok (.iconst 0, 1) := by decide +kernel
theorem dX2_atPlace_1 : decode cX2_atPlace 1 = .ok (.istore 4, 2) := by decide +kernel
theorem dX2_atPlace_3 : decode cX2_atPlace 3 = .ok (.iload_n 2, 1) := by decide +kernel
theorem dX2_atPlace_4 : decode cX2_atPlace 4 = .ok (.istore 5, 2) := by decide +kernel
theorem dX2_atPlace_6 : decode cX2_atPlace 6 = .ok (.iconst (-1), 1) := by decide +kernel
theorem dX2_atPlace_7 : decode cX2_atPlace 7 = .ok (.istore 6, 2) := by decide +kernel
theorem dX2_atPlace_9 : decode cX2_atPlace 9 = .ok (.iconst 0, 1) := by decide +kernel
theorem dX2_atPlace_10 : decode cX2_atPlace 10 = .ok (.istore 7, 2) := by decide +kernel
theorem dX2_atPlace_12 : decode cX2_atPlace 12 = .ok (.iload 7, 2) := by decide +kernel
theorem dX2_atPlace_14 : decode cX2_atPlace 14 = .ok (.iload_n 3, 1) := by decide +kernel
theorem dX2_atPlace_15 : decode cX2_atPlace 15 = .ok (.if_icmp .gt 43, 3) := by decide +kernel
theorem dX2_atPlace_18 : decode cX2_atPlace 18 = .ok (.aload_n 0, 1) := by decide +kernel
theorem dX2_atPlace_19 : decode cX2_atPlace 19 = .ok (.iload_n 1, 1) := by decide +kernel
theorem dX2_atPlace_20 : decode cX2_atPlace 20 = .ok (.iload 4, 2) := by decide +kernel
theorem dX2_atPlace_22 : decode cX2_atPlace 22 = .ok (.iload 5, 2) := by decide +kernel
theorem dX2_atPlace_24 : decode cX2_atPlace 24 = .ok (.invokevirtual 38, 3) := by decide +kernel
theorem dX2_atPlace_27 : decode cX2_atPlace 27 = .ok (.istore 6, 2) := by decide +kernel
theorem dX2_atPlace_29 : decode cX2_atPlace 29 = .ok (.iload 5, 2) := by decide +kernel
theorem dX2_atPlace_31 : decode cX2_atPlace 31 = .ok (.aload_n 0, 1) := by decide +kernel
theorem dX2_atPlace_32 : decode cX2_atPlace 32 = .ok (.iload_n 1, 1) := by decide +kernel
theorem dX2_atPlace_33 : decode cX2_atPlace 33 = .ok (.iload 4, 2) := by decide +kernel
theorem dX2_atPlace_35 : decode cX2_atPlace 35 = .ok (.iload 6, 2) := by decide +kernel
theorem dX2_atPlace_37 : decode cX2_atPlace 37 = .ok (.invokevirtual 24, 3) := by decide +kernel
theorem dX2_atPlace_40 : decode cX2_atPlace 40 = .ok (.isub, 1) := by decide +kernel
theorem dX2_atPlace_41 : decode cX2_atPlace 41 = .ok (.istore 5, 2) := by decide +kernel
theorem dX2_atPlace_43 : decode cX2_atPlace 43 = .ok (.iload 4, 2) := by decide +kernel
theorem dX2_atPlace_45 : decode cX2_atPlace 45 = .ok (.iconst 1, 1) := by decide +kernel
theorem dX2_atPlace_46 : decode cX2_atPlace 46 = .ok (.iload 6, 2) := by decide +kernel
theorem dX2_atPlace_48 : decode cX2_atPlace 48 = .ok (.ishl, 1) := by decide +kernel
theorem dX2_atPlace_49 : decode cX2_atPlace 49 = .ok (.ior, 1) := by decide +kernel
theorem dX2_atPlace_50 : decode cX2_atPlace 50 = .ok (.istore 4, 2) := by decide +kernel
theorem dX2_atPlace_52 : decode cX2_atPlace 52 = .ok (.iinc 7 1, 3) := by decide +kernel
theorem dX2_atPlace_55 : decode cX2_atPlace 55 = .ok (.goto (-43), 3) := by decide +kernel
theorem dX2_atPlace_58 : decode cX2_atPlace 58 = .ok (.iload 6, 2) := by decide +kernel
theorem dX2_atPlace_60 : decode cX2_atPlace 60 = .ok (.ireturn, 1) := by decide +kernel
set_option maxRecDepth 20000 in
theorem ggX2_nextNumber_X2_waysBefore : GoodIn wsX2_nextNumber wsX2_waysBefore := goodIn_r _ [5, 6, 7, 8, 9, 4, 10, 11, 12, 13, 14, 15, 16, 17, 18, 19, 20] (by decide +kernel) (by decide +kernel)
set_option maxRecDepth 20000 in
theorem gX2_nextNumber_X2_waysBefore : GoodIn wsX2_nextNumber (wsV RX2 24 RX2 yX2_waysBefore wsX2_waysBefore) := goodIn_app (goodIn_of _ (by decide +kernel)) ggX2_nextNumber_X2_waysBefore
theorem dX2_nextNumber_0 : decode cX2_nextNumber 0 = .ok (.iconst 0, 1) := by decide +kernel
theorem dX2_nextNumber_1 : decode cX2_nextNumber 1 = .ok (.istore 4, 2) := by decide +kernel
theorem dX2_nextNumber_3 : decode cX2_nextNumber 3 = .ok (.iload 4, 2) := by decide +kernel
theorem dX2_nextNumber_5 : decode cX2_nextNumber 5 = .ok (.iload_n 1, 1) := by decide +kernel
theorem dX2_nextNumber_6 : decode cX2_nextNumber 6 = .ok (.iconst 1, 1) := by decide +kernel
theorem dX2_nextNumber_7 : decode cX2_nextNumber 7 = .ok (.isub, 1) := by decide +kernel
theorem dX2_nextNumber_8 : decode cX2_nextNumber 8 = .ok (.if_icmp .ge 23, 3) := by decide +kernel
theorem dX2_nextNumber_11 : decode cX2_nextNumber 11 = .ok (.iload_n 3, 1) := by decide +kernel
theorem dX2_nextNumber_12 : decode cX2_nextNumber 12 = .ok (.aload_n 0, 1) := by decide +kernel
theorem dX2_nextNumber_13 : decode cX2_nextNumber 13 = .ok (.iload_n 1, 1) := by decide +kernel
theorem dX2_nextNumber_14 : decode cX2_nextNumber 14 = .ok (.iload_n 2, 1) := by decide +kernel
theorem dX2_nextNumber_15 : decode cX2_nextNumber 15 = .ok (.iload 4, 2) := by decide +kernel
theorem dX2_nextNumber_17 : decode cX2_nextNumber 17 = .ok (.iconst 1, 1) := by decide +kernel
theorem dX2_nextNumber_18 : decode cX2_nextNumber 18 = .ok (.iadd, 1) := by decide +kernel
theorem dX2_nextNumber_19 : decode cX2_nextNumber 19 = .ok (.invokevirtual 24, 3) := by decide +kernel
theorem dX2_nextNumber_22 : decode cX2_nextNumber 22 = .ok (.if_icmp .lt 9, 3) := by decide +kernel
theorem dX2_nextNumber_25 : decode cX2_nextNumber 25 = .ok (.iinc 4 1, 3) := by decide +kernel
theorem dX2_nextNumber_28 : decode cX2_nextNumber 28 = .ok (.goto (-25), 3) := by decide +kernel
theorem dX2_nextNumber_31 : decode cX2_nextNumber 31 = .ok (.iload 4, 2) := by decide +kernel
theorem dX2_nextNumber_33 : decode cX2_nextNumber 33 = .ok (.ireturn, 1) := by decide +kernel
set_option maxRecDepth 20000 in
theorem ggX2_numberOf_X2_isFree : GoodIn wsX2_numberOf wsX2_isFree := goodIn_r _ [5, 6, 7, 8, 9, 10, 11, 12, 13, 19, 20] (by decide +kernel) (by decide +kernel)
set_option maxRecDepth 20000 in
theorem gX2_numberOf_X2_isFree : GoodIn wsX2_numberOf (wsV RX2 34 RX2 yX2_isFree wsX2_isFree) := goodIn_app (goodIn_of _ (by decide +kernel)) ggX2_numberOf_X2_isFree
set_option maxRecDepth 20000 in
theorem ggX2_numberOf_X2_waysBefore : GoodIn wsX2_numberOf wsX2_waysBefore := goodIn_r _ [17, 18, 1, 2, 3, 4, 5, 6, 7, 8, 9, 10, 11, 12, 13, 19, 20] (by decide +kernel) (by decide +kernel)
set_option maxRecDepth 20000 in
theorem gX2_numberOf_X2_waysBefore : GoodIn wsX2_numberOf (wsV RX2 24 RX2 yX2_waysBefore wsX2_waysBefore) := goodIn_app (goodIn_of _ (by decide +kernel)) ggX2_numberOf_X2_waysBefore
theorem dX2_numberOf_0 : decode cX2_numberOf 0 = .ok (.iconst 0, 1) := by decide +kernel
theorem dX2_numberOf_1 : decode cX2_numberOf 1 = .ok (.istore_n 3, 1) := by decide +kernel
theorem dX2_numberOf_2 : decode cX2_numberOf 2 = .ok (.iconst 0, 1) := by decide +kernel
theorem dX2_numberOf_3 : decode cX2_numberOf 3 = .ok (.istore 4, 2) := by decide +kernel
theorem dX2_numberOf_5 : decode cX2_numberOf 5 = .ok (.iconst 0, 1) := by decide +kernel
theorem dX2_numberOf_6 : decode cX2_numberOf 6 = .ok (.istore 5, 2) := by decide +kernel
theorem dX2_numberOf_8 : decode cX2_numberOf 8 = .ok (.iload 5, 2) := by decide +kernel
theorem dX2_numberOf_10 : decode cX2_numberOf 10 = .ok (.iload_n 1, 1) := by decide +kernel
theorem dX2_numberOf_11 : decode cX2_numberOf 11 = .ok (.if_icmp .ge 59, 3) := by decide +kernel
theorem dX2_numberOf_14 : decode cX2_numberOf 14 = .ok (.iload_n 2, 1) := by decide +kernel
theorem dX2_numberOf_15 : decode cX2_numberOf 15 = .ok (.iconst 3, 1) := by decide +kernel
theorem dX2_numberOf_16 : decode cX2_numberOf 16 = .ok (.iload 5, 2) := by decide +kernel
theorem dX2_numberOf_18 : decode cX2_numberOf 18 = .ok (.imul, 1) := by decide +kernel
theorem dX2_numberOf_19 : decode cX2_numberOf 19 = .ok (.iushr, 1) := by decide +kernel
theorem dX2_numberOf_20 : decode cX2_numberOf 20 = .ok (.bipush 7, 2) := by decide +kernel
theorem dX2_numberOf_22 : decode cX2_numberOf 22 = .ok (.iand, 1) := by decide +kernel
theorem dX2_numberOf_23 : decode cX2_numberOf 23 = .ok (.istore 6, 2) := by decide +kernel
theorem dX2_numberOf_25 : decode cX2_numberOf 25 = .ok (.iload 6, 2) := by decide +kernel
theorem dX2_numberOf_27 : decode cX2_numberOf 27 = .ok (.iload_n 1, 1) := by decide +kernel
theorem dX2_numberOf_28 : decode cX2_numberOf 28 = .ok (.if_icmp .ge 13, 3) := by decide +kernel
theorem dX2_numberOf_31 : decode cX2_numberOf 31 = .ok (.aload_n 0, 1) := by decide +kernel
theorem dX2_numberOf_32 : decode cX2_numberOf 32 = .ok (.iload_n 3, 1) := by decide +kernel
theorem dX2_numberOf_33 : decode cX2_numberOf 33 = .ok (.iload 6, 2) := by decide +kernel
theorem dX2_numberOf_35 : decode cX2_numberOf 35 = .ok (.invokevirtual 34, 3) := by decide +kernel
theorem dX2_numberOf_38 : decode cX2_numberOf 38 = .ok (.ifCond .ne 6, 3) := by decide +kernel
theorem dX2_numberOf_41 : decode cX2_numberOf 41 = .ok (.bipush (-2), 2) := by decide +kernel
theorem dX2_numberOf_43 : decode cX2_numberOf 43 = .ok (.ireturn, 1) := by decide +kernel
theorem dX2_numberOf_44 : decode cX2_numberOf 44 = .ok (.iload 4, 2) := by decide +kernel
theorem dX2_numberOf_46 : decode cX2_numberOf 46 = .ok (.aload_n 0, 1) := by decide +kernel
theorem dX2_numberOf_47 : decode cX2_numberOf 47 = .ok (.iload_n 1, 1) := by decide +kernel
theorem dX2_numberOf_48 : decode cX2_numberOf 48 = .ok (.iload_n 3, 1) := by decide +kernel
theorem dX2_numberOf_49 : decode cX2_numberOf 49 = .ok (.iload 6, 2) := by decide +kernel
theorem dX2_numberOf_51 : decode cX2_numberOf 51 = .ok (.invokevirtual 24, 3) := by decide +kernel
theorem dX2_numberOf_54 : decode cX2_numberOf 54 = .ok (.iadd, 1) := by decide +kernel
theorem dX2_numberOf_55 : decode cX2_numberOf 55 = .ok (.istore 4, 2) := by decide +kernel
theorem dX2_numberOf_57 : decode cX2_numberOf 57 = .ok (.iload_n 3, 1) := by decide +kernel
theorem dX2_numberOf_58 : decode cX2_numberOf 58 = .ok (.iconst 1, 1) := by decide +kernel
theorem dX2_numberOf_59 : decode cX2_numberOf 59 = .ok (.iload 6, 2) := by decide +kernel
theorem dX2_numberOf_61 : decode cX2_numberOf 61 = .ok (.ishl, 1) := by decide +kernel
theorem dX2_numberOf_62 : decode cX2_numberOf 62 = .ok (.ior, 1) := by decide +kernel
theorem dX2_numberOf_63 : decode cX2_numberOf 63 = .ok (.istore_n 3, 1) := by decide +kernel
theorem dX2_numberOf_64 : decode cX2_numberOf 64 = .ok (.iinc 5 1, 3) := by decide +kernel
theorem dX2_numberOf_67 : decode cX2_numberOf 67 = .ok (.goto (-59), 3) := by decide +kernel
theorem dX2_numberOf_70 : decode cX2_numberOf 70 = .ok (.iload 4, 2) := by decide +kernel
theorem dX2_numberOf_72 : decode cX2_numberOf 72 = .ok (.ireturn, 1) := by decide +kernel
set_option maxRecDepth 20000 in
theorem ggX3_init_J7_fill_53178 : GoodIn wsX3_init wsJ7_fill_53178 := goodIn_r _ [15] (by decide +kernel) (by decide +kernel)
set_option maxRecDepth 20000 in
theorem gX3_init_J7_fill_53178 : GoodIn wsX3_init (va_wsS RX3 32 yJ7_fill_53178 wsJ7_fill_53178) := goodIn_app (goodIn_of _ (by decide +kernel)) ggX3_init_J7_fill_53178
theorem dX3_init_0 : decode cX3_init 0 = .ok (.aload_n 0, 1) := by decide +kernel
theorem dX3_init_1 : decode cX3_init 1 = .ok (.invokespecial 3, 3) := by decide +kernel
theorem dX3_init_4 : decode cX3_init 4 = .ok (.aload_n 0, 1) := by decide +kernel
theorem dX3_init_5 : decode cX3_init 5 = .ok (.bipush 16, 2) := by decide +kernel
theorem dX3_init_7 : decode cX3_init 7 = .ok (.newarray .int, 2) := by decide +kernel
theorem dX3_init_9 : decode cX3_init 9 = .ok (.putfield 9, 3) := by decide +kernel
theorem dX3_init_12 : decode cX3_init 12 = .ok (.aload_n 0, 1) := by decide +kernel
theorem dX3_init_13 : decode cX3_init 13 = .ok (.bipush 16, 2) := by decide +kernel
theorem dX3_init_15 : decode cX3_init 15 = .ok (.newarray .int, 2) := by decide +kernel
theorem dX3_init_17 : decode cX3_init 17 = .ok (.putfield 15, 3) := by decide +kernel
theorem dX3_init_20 : decode cX3_init 20 = .ok (.aload_n 0, 1) := by decide +kernel
theorem dX3_init_21 : decode cX3_init 21 = .ok (.bipush 16, 2) := by decide +kernel
