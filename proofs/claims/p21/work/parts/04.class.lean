theorem dX0_init_0 : decode cX0_init 0 = .ok (.aload_n 0, 1) := by decide +kernel
theorem dX0_init_1 : decode cX0_init 1 = .ok (.invokespecial 3, 3) := by decide +kernel
theorem dX0_init_4 : decode cX0_init 4 = .ok (.aload_n 0, 1) := by decide +kernel
theorem dX0_init_5 : decode cX0_init 5 = .ok (.bipush 6, 2) := by decide +kernel
theorem dX0_init_7 : decode cX0_init 7 = .ok (.newarray .long, 2) := by decide +kernel
theorem dX0_init_9 : decode cX0_init 9 = .ok (.putfield 9, 3) := by decide +kernel
theorem dX0_init_12 : decode cX0_init 12 = .ok (.aload_n 0, 1) := by decide +kernel
theorem dX0_init_13 : decode cX0_init 13 = .ok (.bipush 6, 2) := by decide +kernel
theorem dX0_init_15 : decode cX0_init 15 = .ok (.newarray .long, 2) := by decide +kernel
theorem dX0_init_17 : decode cX0_init 17 = .ok (.putfield 15, 3) := by decide +kernel
theorem dX0_init_20 : decode cX0_init 20 = .ok (.aload_n 0, 1) := by decide +kernel
theorem dX0_init_21 : decode cX0_init 21 = .ok (.lconst 0, 1) := by decide +kernel
theorem dX0_init_22 : decode cX0_init 22 = .ok (.putfield 18, 3) := by decide +kernel
theorem dX0_init_25 : decode cX0_init 25 = .ok (.aload_n 0, 1) := by decide +kernel
theorem dX0_init_26 : decode cX0_init 26 = .ok (.lconst 0, 1) := by decide +kernel
theorem dX0_init_27 : decode cX0_init 27 = .ok (.putfield 22, 3) := by decide +kernel
theorem dX0_init_30 : decode cX0_init 30 = .ok (.return_, 1) := by decide +kernel
set_option maxRecDepth 20000 in
theorem ggX0_reckon_X3_slopesBackward : GoodIn wsX0_reckon wsX3_slopesBackward := goodIn_r _ [12, 13, 14, 15, 16, 17, 18, 19, 20, 11, 21, 22, 23, 24, 25, 26, 27, 28, 29, 30, 31, 32, 33, 34, 35, 36, 37, 38, 39, 40, 41, 42, 73, 74, 75, 76, 77, 78, 79, 80, 81] (by decide +kernel) (by decide +kernel)
set_option maxRecDepth 20000 in
theorem gX0_reckon_X3_slopesBackward : GoodIn wsX0_reckon (wsV RX0 31 RX3 yX3_slopesBackward wsX3_slopesBackward) := goodIn_app (goodIn_of _ (by decide +kernel)) ggX0_reckon_X3_slopesBackward
set_option maxRecDepth 20000 in
theorem ggX0_reckon_X0_reckonDegreesSum : GoodIn wsX0_reckon wsX0_reckonDegreesSum := goodIn_r _ [47, 48, 49, 50, 51, 52, 53, 54, 55, 56, 57, 46, 58, 3, 59, 4, 69, 70, 71, 72, 60, 61, 62, 63, 64, 65, 66, 67, 68] (by decide +kernel) (by decide +kernel)
set_option maxRecDepth 20000 in
theorem gX0_reckon_X0_reckonDegreesSum : GoodIn wsX0_reckon (wsV RX0 46 RX0 yX0_reckonDegreesSum wsX0_reckonDegreesSum) := goodIn_app (goodIn_of _ (by decide +kernel)) ggX0_reckon_X0_reckonDegreesSum
theorem dX0_reckon_0 : decode cX0_reckon 0 = .ok (.aload_n 1, 1) := by decide +kernel
theorem dX0_reckon_1 : decode cX0_reckon 1 = .ok (.aload_n 2, 1) := by decide +kernel
theorem dX0_reckon_2 : decode cX0_reckon 2 = .ok (.getfield 25, 3) := by decide +kernel
theorem dX0_reckon_5 : decode cX0_reckon 5 = .ok (.aload_n 0, 1) := by decide +kernel
theorem dX0_reckon_6 : decode cX0_reckon 6 = .ok (.getfield 9, 3) := by decide +kernel
theorem dX0_reckon_9 : decode cX0_reckon 9 = .ok (.invokevirtual 31, 3) := by decide +kernel
theorem dX0_reckon_12 : decode cX0_reckon 12 = .ok (.aload_n 0, 1) := by decide +kernel
theorem dX0_reckon_13 : decode cX0_reckon 13 = .ok (.lconst 0, 1) := by decide +kernel
theorem dX0_reckon_14 : decode cX0_reckon 14 = .ok (.putfield 18, 3) := by decide +kernel
theorem dX0_reckon_17 : decode cX0_reckon 17 = .ok (.iconst 0, 1) := by decide +kernel
theorem dX0_reckon_18 : decode cX0_reckon 18 = .ok (.istore_n 3, 1) := by decide +kernel
theorem dX0_reckon_19 : decode cX0_reckon 19 = .ok (.iload_n 3, 1) := by decide +kernel
theorem dX0_reckon_20 : decode cX0_reckon 20 = .ok (.bipush 6, 2) := by decide +kernel
theorem dX0_reckon_22 : decode cX0_reckon 22 = .ok (.if_icmp .ge 104, 3) := by decide +kernel
theorem dX0_reckon_25 : decode cX0_reckon 25 = .ok (.aload_n 0, 1) := by decide +kernel
theorem dX0_reckon_26 : decode cX0_reckon 26 = .ok (.getfield 15, 3) := by decide +kernel
theorem dX0_reckon_29 : decode cX0_reckon 29 = .ok (.iload_n 3, 1) := by decide +kernel
theorem dX0_reckon_30 : decode cX0_reckon 30 = .ok (.aload_n 0, 1) := by decide +kernel
theorem dX0_reckon_31 : decode cX0_reckon 31 = .ok (.getfield 9, 3) := by decide +kernel
theorem dX0_reckon_34 : decode cX0_reckon 34 = .ok (.iload_n 3, 1) := by decide +kernel
theorem dX0_reckon_35 : decode cX0_reckon 35 = .ok (.laload, 1) := by decide +kernel
theorem dX0_reckon_36 : decode cX0_reckon 36 = .ok (.aload_n 0, 1) := by decide +kernel
theorem dX0_reckon_37 : decode cX0_reckon 37 = .ok (.getfield 9, 3) := by decide +kernel
theorem dX0_reckon_40 : decode cX0_reckon 40 = .ok (.iload_n 3, 1) := by decide +kernel
theorem dX0_reckon_41 : decode cX0_reckon 41 = .ok (.laload, 1) := by decide +kernel
theorem dX0_reckon_42 : decode cX0_reckon 42 = .ok (.lmul, 1) := by decide +kernel
theorem dX0_reckon_43 : decode cX0_reckon 43 = .ok (.aload_n 2, 1) := by decide +kernel
theorem dX0_reckon_44 : decode cX0_reckon 44 = .ok (.getfield 37, 3) := by decide +kernel
theorem dX0_reckon_47 : decode cX0_reckon 47 = .ok (.iload_n 3, 1) := by decide +kernel
theorem dX0_reckon_48 : decode cX0_reckon 48 = .ok (.iaload, 1) := by decide +kernel
theorem dX0_reckon_49 : decode cX0_reckon 49 = .ok (.i2l, 1) := by decide +kernel
theorem dX0_reckon_50 : decode cX0_reckon 50 = .ok (.lmul, 1) := by decide +kernel
theorem dX0_reckon_51 : decode cX0_reckon 51 = .ok (.lastore, 1) := by decide +kernel
theorem dX0_reckon_52 : decode cX0_reckon 52 = .ok (.aload_n 0, 1) := by decide +kernel
theorem dX0_reckon_53 : decode cX0_reckon 53 = .ok (.dup, 1) := by decide +kernel
theorem dX0_reckon_54 : decode cX0_reckon 54 = .ok (.getfield 18, 3) := by decide +kernel
theorem dX0_reckon_57 : decode cX0_reckon 57 = .ok (.aload_n 0, 1) := by decide +kernel
theorem dX0_reckon_58 : decode cX0_reckon 58 = .ok (.getfield 15, 3) := by decide +kernel
theorem dX0_reckon_61 : decode cX0_reckon 61 = .ok (.iload_n 3, 1) := by decide +kernel
theorem dX0_reckon_62 : decode cX0_reckon 62 = .ok (.laload, 1) := by decide +kernel
theorem dX0_reckon_63 : decode cX0_reckon 63 = .ok (.ladd, 1) := by decide +kernel
theorem dX0_reckon_64 : decode cX0_reckon 64 = .ok (.putfield 18, 3) := by decide +kernel
theorem dX0_reckon_67 : decode cX0_reckon 67 = .ok (.iconst 0, 1) := by decide +kernel
theorem dX0_reckon_68 : decode cX0_reckon 68 = .ok (.istore 4, 2) := by decide +kernel
theorem dX0_reckon_70 : decode cX0_reckon 70 = .ok (.iload 4, 2) := by decide +kernel
theorem dX0_reckon_72 : decode cX0_reckon 72 = .ok (.iload_n 3, 1) := by decide +kernel
theorem dX0_reckon_73 : decode cX0_reckon 73 = .ok (.if_icmp .ge 47, 3) := by decide +kernel
theorem dX0_reckon_76 : decode cX0_reckon 76 = .ok (.aload_n 0, 1) := by decide +kernel
theorem dX0_reckon_77 : decode cX0_reckon 77 = .ok (.dup, 1) := by decide +kernel
theorem dX0_reckon_78 : decode cX0_reckon 78 = .ok (.getfield 18, 3) := by decide +kernel
theorem dX0_reckon_81 : decode cX0_reckon 81 = .ok (.ldc2_w 40, 3) := by decide +kernel
theorem dX0_reckon_84 : decode cX0_reckon 84 = .ok (.aload_n 0, 1) := by decide +kernel
theorem dX0_reckon_85 : decode cX0_reckon 85 = .ok (.getfield 9, 3) := by decide +kernel
theorem dX0_reckon_88 : decode cX0_reckon 88 = .ok (.iload_n 3, 1) := by decide +kernel
theorem dX0_reckon_89 : decode cX0_reckon 89 = .ok (.laload, 1) := by decide +kernel
theorem dX0_reckon_90 : decode cX0_reckon 90 = .ok (.lmul, 1) := by decide +kernel
theorem dX0_reckon_91 : decode cX0_reckon 91 = .ok (.aload_n 0, 1) := by decide +kernel
theorem dX0_reckon_92 : decode cX0_reckon 92 = .ok (.getfield 9, 3) := by decide +kernel
theorem dX0_reckon_95 : decode cX0_reckon 95 = .ok (.iload 4, 2) := by decide +kernel
theorem dX0_reckon_97 : decode cX0_reckon 97 = .ok (.laload, 1) := by decide +kernel
theorem dX0_reckon_98 : decode cX0_reckon 98 = .ok (.lmul, 1) := by decide +kernel
theorem dX0_reckon_99 : decode cX0_reckon 99 = .ok (.aload_n 2, 1) := by decide +kernel
theorem dX0_reckon_100 : decode cX0_reckon 100 = .ok (.getfield 42, 3) := by decide +kernel
theorem dX0_reckon_103 : decode cX0_reckon 103 = .ok (.iload_n 3, 1) := by decide +kernel
theorem dX0_reckon_104 : decode cX0_reckon 104 = .ok (.aaload, 1) := by decide +kernel
theorem dX0_reckon_105 : decode cX0_reckon 105 = .ok (.iload 4, 2) := by decide +kernel
theorem dX0_reckon_107 : decode cX0_reckon 107 = .ok (.iaload, 1) := by decide +kernel
theorem dX0_reckon_108 : decode cX0_reckon 108 = .ok (.i2l, 1) := by decide +kernel
theorem dX0_reckon_109 : decode cX0_reckon 109 = .ok (.lmul, 1) := by decide +kernel
theorem dX0_reckon_110 : decode cX0_reckon 110 = .ok (.ladd, 1) := by decide +kernel
theorem dX0_reckon_111 : decode cX0_reckon 111 = .ok (.putfield 18, 3) := by decide +kernel
theorem dX0_reckon_114 : decode cX0_reckon 114 = .ok (.iinc 4 1, 3) := by decide +kernel
theorem dX0_reckon_117 : decode cX0_reckon 117 = .ok (.goto (-47), 3) := by decide +kernel
theorem dX0_reckon_120 : decode cX0_reckon 120 = .ok (.iinc 3 1, 3) := by decide +kernel
theorem dX0_reckon_123 : decode cX0_reckon 123 = .ok (.goto (-104), 3) := by decide +kernel
theorem dX0_reckon_126 : decode cX0_reckon 126 = .ok (.aload_n 0, 1) := by decide +kernel
theorem dX0_reckon_127 : decode cX0_reckon 127 = .ok (.aload_n 2, 1) := by decide +kernel
theorem dX0_reckon_128 : decode cX0_reckon 128 = .ok (.invokevirtual 46, 3) := by decide +kernel
theorem dX0_reckon_131 : decode cX0_reckon 131 = .ok (.return_, 1) := by decide +kernel
set_option maxRecDepth 20000 in
theorem ggX0_reckonDegreesSum_X4_degreesOf : GoodIn wsX0_reckonDegreesSum wsX4_degreesOf := goodIn_r _ [6, 7, 20, 21, 22, 23, 24, 25, 26, 27, 28] (by decide +kernel) (by decide +kernel)
set_option maxRecDepth 20000 in
theorem gX0_reckonDegreesSum_X4_degreesOf : GoodIn wsX0_reckonDegreesSum (wsV RX0 50 RX4 yX4_degreesOf wsX4_degreesOf) := goodIn_app (goodIn_of _ (by decide +kernel)) ggX0_reckonDegreesSum_X4_degreesOf
set_option maxRecDepth 20000 in
theorem ggX0_reckonDegreesSum_X0_shareOf : GoodIn wsX0_reckonDegreesSum wsX0_shareOf := goodIn_r _ [12, 13, 14, 15, 16, 17, 18, 19] (by decide +kernel) (by decide +kernel)
set_option maxRecDepth 20000 in
theorem gX0_reckonDegreesSum_X0_shareOf : GoodIn wsX0_reckonDegreesSum (wsV RX0 54 RX0 yX0_shareOf wsX0_shareOf) := goodIn_app (goodIn_of _ (by decide +kernel)) ggX0_reckonDegreesSum_X0_shareOf
theorem dX0_reckonDegreesSum_0 : decode cX0_reckonDegreesSum 0 = .ok (.aload_n 0, 1) := by decide +kernel
theorem dX0_reckonDegreesSum_1 : decode cX0_reckonDegreesSum 1 = .ok (.lconst 0, 1) := by decide +kernel
theorem dX0_reckonDegreesSum_2 : decode cX0_reckonDegreesSum 2 = .ok (.putfield 22, 3) := by decide +kernel
theorem dX0_reckonDegreesSum_5 : decode cX0_reckonDegreesSum 5 = .ok (.iconst 0, 1) := by decide +kernel
theorem dX0_reckonDegreesSum_6 : decode cX0_reckonDegreesSum 6 = .ok (.istore_n 2, 1) := by decide +kernel
theorem dX0_reckonDegreesSum_7 : decode cX0_reckonDegreesSum 7 = .ok (.iload_n 2, 1) := by decide +kernel
theorem dX0_reckonDegreesSum_8 : decode cX0_reckonDegreesSum 8 = .ok (.bipush 6, 2) := by decide +kernel
theorem dX0_reckonDegreesSum_10 : decode cX0_reckonDegreesSum 10 = .ok (.if_icmp .ge 42, 3) := by decide +kernel
theorem dX0_reckonDegreesSum_13 : decode cX0_reckonDegreesSum 13 = .ok (.aload_n 1, 1) := by decide +kernel
theorem dX0_reckonDegreesSum_14 : decode cX0_reckonDegreesSum 14 = .ok (.iload_n 2, 1) := by decide +kernel
theorem dX0_reckonDegreesSum_15 : decode cX0_reckonDegreesSum 15 = .ok (.invokevirtual 50, 3) := by decide +kernel
theorem dX0_reckonDegreesSum_18 : decode cX0_reckonDegreesSum 18 = .ok (.istore_n 3, 1) := by decide +kernel
theorem dX0_reckonDegreesSum_19 : decode cX0_reckonDegreesSum 19 = .ok (.iload_n 3, 1) := by decide +kernel
theorem dX0_reckonDegreesSum_20 : decode cX0_reckonDegreesSum 20 = .ok (.ifCond .le 26, 3) := by decide +kernel
theorem dX0_reckonDegreesSum_23 : decode cX0_reckonDegreesSum 23 = .ok (.aload_n 0, 1) := by decide +kernel
theorem dX0_reckonDegreesSum_24 : decode cX0_reckonDegreesSum 24 = .ok (.dup, 1) := by decide +kernel
theorem dX0_reckonDegreesSum_25 : decode cX0_reckonDegreesSum 25 = .ok (.getfield 22, 3) := by decide +kernel
theorem dX0_reckonDegreesSum_28 : decode cX0_reckonDegreesSum 28 = .ok (.aload_n 0, 1) := by decide +kernel
theorem dX0_reckonDegreesSum_29 : decode cX0_reckonDegreesSum 29 = .ok (.iload_n 2, 1) := by decide +kernel
theorem dX0_reckonDegreesSum_30 : decode cX0_reckonDegreesSum 30 = .ok (.invokevirtual 54, 3) := by decide +kernel
theorem dX0_reckonDegreesSum_33 : decode cX0_reckonDegreesSum 33 = .ok (.aload_n 0, 1) := by decide +kernel
theorem dX0_reckonDegreesSum_34 : decode cX0_reckonDegreesSum 34 = .ok (.iload_n 2, 1) := by decide +kernel
theorem dX0_reckonDegreesSum_35 : decode cX0_reckonDegreesSum 35 = .ok (.invokevirtual 54, 3) := by decide +kernel
theorem dX0_reckonDegreesSum_38 : decode cX0_reckonDegreesSum 38 = .ok (.lmul, 1) := by decide +kernel
theorem dX0_reckonDegreesSum_39 : decode cX0_reckonDegreesSum 39 = .ok (.iload_n 3, 1) := by decide +kernel
theorem dX0_reckonDegreesSum_40 : decode cX0_reckonDegreesSum 40 = .ok (.i2l, 1) := by decide +kernel
theorem dX0_reckonDegreesSum_41 : decode cX0_reckonDegreesSum 41 = .ok (.ldiv, 1) := by decide +kernel
theorem dX0_reckonDegreesSum_42 : decode cX0_reckonDegreesSum 42 = .ok (.ladd, 1) := by decide +kernel
theorem dX0_reckonDegreesSum_43 : decode cX0_reckonDegreesSum 43 = .ok (.putfield 22, 3) := by decide +kernel
theorem dX0_reckonDegreesSum_46 : decode cX0_reckonDegreesSum 46 = .ok (.iinc 2 1, 3) := by decide +kernel
theorem dX0_reckonDegreesSum_49 : decode cX0_reckonDegreesSum 49 = .ok (.goto (-42), 3) := by decide +kernel
theorem dX0_reckonDegreesSum_52 : decode cX0_reckonDegreesSum 52 = .ok (.return_, 1) := by decide +kernel
theorem dX0_shareOf_0 : decode cX0_shareOf 0 = .ok (.aload_n 0, 1) := by decide +kernel
theorem dX0_shareOf_1 : decode cX0_shareOf 1 = .ok (.getfield 18, 3) := by decide +kernel
theorem dX0_shareOf_4 : decode cX0_shareOf 4 = .ok (.lconst 0, 1) := by decide +kernel
theorem dX0_shareOf_5 : decode cX0_shareOf 5 = .ok (.lcmp, 1) := by decide +kernel
theorem dX0_shareOf_6 : decode cX0_shareOf 6 = .ok (.ifCond .ne 7, 3) := by decide +kernel
theorem dX0_shareOf_9 : decode cX0_shareOf 9 = .ok (.lconst 0, 1) := by decide +kernel
theorem dX0_shareOf_10 : decode cX0_shareOf 10 = .ok (.goto 18, 3) := by decide +kernel
theorem dX0_shareOf_13 : decode cX0_shareOf 13 = .ok (.ldc2_w 58, 3) := by decide +kernel
theorem dX0_shareOf_16 : decode cX0_shareOf 16 = .ok (.aload_n 0, 1) := by decide +kernel
theorem dX0_shareOf_17 : decode cX0_shareOf 17 = .ok (.getfield 15, 3) := by decide +kernel
theorem dX0_shareOf_20 : decode cX0_shareOf 20 = .ok (.iload_n 1, 1) := by decide +kernel
theorem dX0_shareOf_21 : decode cX0_shareOf 21 = .ok (.laload, 1) := by decide +kernel
theorem dX0_shareOf_22 : decode cX0_shareOf 22 = .ok (.lmul, 1) := by decide +kernel
theorem dX0_shareOf_23 : decode cX0_shareOf 23 = .ok (.aload_n 0, 1) := by decide +kernel
theorem dX0_shareOf_24 : decode cX0_shareOf 24 = .ok (.getfield 18, 3) := by decide +kernel
theorem dX0_shareOf_27 : decode cX0_shareOf 27 = .ok (.ldiv, 1) := by decide +kernel
theorem dX0_shareOf_28 : decode cX0_shareOf 28 = .ok (.lreturn, 1) := by decide +kernel
set_option maxRecDepth 20000 in
theorem ggX0_inputAtRank_X0_rankOf : GoodIn wsX0_inputAtRank wsX0_rankOf := goodIn_r _ [5, 6, 7, 8, 9, 10] (by decide +kernel) (by decide +kernel)
set_option maxRecDepth 20000 in
theorem gX0_inputAtRank_X0_rankOf : GoodIn wsX0_inputAtRank (wsV RX0 60 RX0 yX0_rankOf wsX0_rankOf) := goodIn_app (goodIn_of _ (by decide +kernel)) ggX0_inputAtRank_X0_rankOf
theorem dX0_inputAtRank_0 : decode cX0_inputAtRank 0 = .ok (.iconst 0, 1) := by decide +kernel
theorem dX0_inputAtRank_1 : decode cX0_inputAtRank 1 = .ok (.istore_n 2, 1) := by decide +kernel
theorem dX0_inputAtRank_2 : decode cX0_inputAtRank 2 = .ok (.iload_n 2, 1) := by decide +kernel
theorem dX0_inputAtRank_3 : decode cX0_inputAtRank 3 = .ok (.bipush 6, 2) := by decide +kernel
theorem dX0_inputAtRank_5 : decode cX0_inputAtRank 5 = .ok (.if_icmp .ge 20, 3) := by decide +kernel
theorem dX0_inputAtRank_8 : decode cX0_inputAtRank 8 = .ok (.aload_n 0, 1) := by decide +kernel
theorem dX0_inputAtRank_9 : decode cX0_inputAtRank 9 = .ok (.iload_n 2, 1) := by decide +kernel
theorem dX0_inputAtRank_10 : decode cX0_inputAtRank 10 = .ok (.invokevirtual 60, 3) := by decide +kernel
theorem dX0_inputAtRank_13 : decode cX0_inputAtRank 13 = .ok (.iload_n 1, 1) := by decide +kernel
theorem dX0_inputAtRank_14 : decode cX0_inputAtRank 14 = .ok (.if_icmp .ne 5, 3) := by decide +kernel
theorem dX0_inputAtRank_17 : decode cX0_inputAtRank 17 = .ok (.iload_n 2, 1) := by decide +kernel
theorem dX0_inputAtRank_18 : decode cX0_inputAtRank 18 = .ok (.ireturn, 1) := by decide +kernel
theorem dX0_inputAtRank_19 : decode cX0_inputAtRank 19 = .ok (.iinc 2 1, 3) := by decide +kernel
theorem dX0_inputAtRank_22 : decode cX0_inputAtRank 22 = .ok (.goto (-20), 3) := by decide +kernel
theorem dX0_inputAtRank_25 : decode cX0_inputAtRank 25 = .ok (.iconst (-1), 1) := by decide +kernel
theorem dX0_inputAtRank_26 : decode cX0_inputAtRank 26 = .ok (.ireturn, 1) := by decide +kernel
theorem dX0_rankOf_0 : decode cX0_rankOf 0 = .ok (.iconst 0, 1) := by decide +kernel
theorem dX0_rankOf_1 : decode cX0_rankOf 1 = .ok (.istore_n 2, 1) := by decide +kernel
theorem dX0_rankOf_2 : decode cX0_rankOf 2 = .ok (.iconst 0, 1) := by decide +kernel
theorem dX0_rankOf_3 : decode cX0_rankOf 3 = .ok (.istore_n 3, 1) := by decide +kernel
theorem dX0_rankOf_4 : decode cX0_rankOf 4 = .ok (.iload_n 3, 1) := by decide +kernel
theorem dX0_rankOf_5 : decode cX0_rankOf 5 = .ok (.bipush 6, 2) := by decide +kernel
theorem dX0_rankOf_7 : decode cX0_rankOf 7 = .ok (.if_icmp .ge 61, 3) := by decide +kernel
theorem dX0_rankOf_10 : decode cX0_rankOf 10 = .ok (.aload_n 0, 1) := by decide +kernel
theorem dX0_rankOf_11 : decode cX0_rankOf 11 = .ok (.getfield 15, 3) := by decide +kernel
theorem dX0_rankOf_14 : decode cX0_rankOf 14 = .ok (.iload_n 3, 1) := by decide +kernel
theorem dX0_rankOf_15 : decode cX0_rankOf 15 = .ok (.laload, 1) := by decide +kernel
theorem dX0_rankOf_16 : decode cX0_rankOf 16 = .ok (.aload_n 0, 1) := by decide +kernel
theorem dX0_rankOf_17 : decode cX0_rankOf 17 = .ok (.getfield 15, 3) := by decide +kernel
theorem dX0_rankOf_20 : decode cX0_rankOf 20 = .ok (.iload_n 1, 1) := by decide +kernel
theorem dX0_rankOf_21 : decode cX0_rankOf 21 = .ok (.laload, 1) := by decide +kernel
theorem dX0_rankOf_22 : decode cX0_rankOf 22 = .ok (.lcmp, 1) := by decide +kernel
theorem dX0_rankOf_23 : decode cX0_rankOf 23 = .ok (.ifCond .ne 7, 3) := by decide +kernel
theorem dX0_rankOf_26 : decode cX0_rankOf 26 = .ok (.iconst 1, 1) := by decide +kernel
theorem dX0_rankOf_27 : decode cX0_rankOf 27 = .ok (.goto 4, 3) := by decide +kernel
theorem dX0_rankOf_30 : decode cX0_rankOf 30 = .ok (.iconst 0, 1) := by decide +kernel
theorem dX0_rankOf_31 : decode cX0_rankOf 31 = .ok (.istore 4, 2) := by decide +kernel
theorem dX0_rankOf_33 : decode cX0_rankOf 33 = .ok (.aload_n 0, 1) := by decide +kernel
theorem dX0_rankOf_34 : decode cX0_rankOf 34 = .ok (.getfield 15, 3) := by decide +kernel
theorem dX0_rankOf_37 : decode cX0_rankOf 37 = .ok (.iload_n 3, 1) := by decide +kernel
theorem dX0_rankOf_38 : decode cX0_rankOf 38 = .ok (.laload, 1) := by decide +kernel
theorem dX0_rankOf_39 : decode cX0_rankOf 39 = .ok (.aload_n 0, 1) := by decide +kernel
theorem dX0_rankOf_40 : decode cX0_rankOf 40 = .ok (.getfield 15, 3) := by decide +kernel
theorem dX0_rankOf_43 : decode cX0_rankOf 43 = .ok (.iload_n 1, 1) := by decide +kernel
theorem dX0_rankOf_44 : decode cX0_rankOf 44 = .ok (.laload, 1) := by decide +kernel
theorem dX0_rankOf_45 : decode cX0_rankOf 45 = .ok (.lcmp, 1) := by decide +kernel
theorem dX0_rankOf_46 : decode cX0_rankOf 46 = .ok (.ifCond .gt 13, 3) := by decide +kernel
theorem dX0_rankOf_49 : decode cX0_rankOf 49 = .ok (.iload 4, 2) := by decide +kernel
theorem dX0_rankOf_51 : decode cX0_rankOf 51 = .ok (.ifCond .eq 11, 3) := by decide +kernel
theorem dX0_rankOf_54 : decode cX0_rankOf 54 = .ok (.iload_n 3, 1) := by decide +kernel
theorem dX0_rankOf_55 : decode cX0_rankOf 55 = .ok (.iload_n 1, 1) := by decide +kernel
theorem dX0_rankOf_56 : decode cX0_rankOf 56 = .ok (.if_icmp .ge 6, 3) := by decide +kernel
theorem dX0_rankOf_59 : decode cX0_rankOf 59 = .ok (.iinc 2 1, 3) := by decide +kernel
theorem dX0_rankOf_62 : decode cX0_rankOf 62 = .ok (.iinc 3 1, 3) := by decide +kernel
theorem dX0_rankOf_65 : decode cX0_rankOf 65 = .ok (.goto (-61), 3) := by decide +kernel
theorem dX0_rankOf_68 : decode cX0_rankOf 68 = .ok (.iload_n 2, 1) := by decide +kernel
theorem dX0_rankOf_69 : decode cX0_rankOf 69 = .ok (.ireturn, 1) := by decide +kernel
theorem dX0_doubt_0 : decode cX0_doubt 0 = .ok (.aload_n 0, 1) := by decide +kernel
theorem dX0_doubt_1 : decode cX0_doubt 1 = .ok (.getfield 18, 3) := by decide +kernel
theorem dX0_doubt_4 : decode cX0_doubt 4 = .ok (.lconst 0, 1) := by decide +kernel
theorem dX0_doubt_5 : decode cX0_doubt 5 = .ok (.lcmp, 1) := by decide +kernel
theorem dX0_doubt_6 : decode cX0_doubt 6 = .ok (.ifCond .ge 7, 3) := by decide +kernel
theorem dX0_doubt_9 : decode cX0_doubt 9 = .ok (.ldc2_w 63, 3) := by decide +kernel
theorem dX0_doubt_12 : decode cX0_doubt 12 = .ok (.lreturn, 1) := by decide +kernel
theorem dX0_doubt_13 : decode cX0_doubt 13 = .ok (.lconst 0, 1) := by decide +kernel
theorem dX0_doubt_14 : decode cX0_doubt 14 = .ok (.lstore_n 1, 1) := by decide +kernel
theorem dX0_doubt_15 : decode cX0_doubt 15 = .ok (.bipush 31, 2) := by decide +kernel
theorem dX0_doubt_17 : decode cX0_doubt 17 = .ok (.istore_n 3, 1) := by decide +kernel
theorem dX0_doubt_18 : decode cX0_doubt 18 = .ok (.iload_n 3, 1) := by decide +kernel
theorem dX0_doubt_19 : decode cX0_doubt 19 = .ok (.ifCond .lt 41, 3) := by decide +kernel
theorem dX0_doubt_22 : decode cX0_doubt 22 = .ok (.lload_n 1, 1) := by decide +kernel
theorem dX0_doubt_23 : decode cX0_doubt 23 = .ok (.lconst 1, 1) := by decide +kernel
theorem dX0_doubt_24 : decode cX0_doubt 24 = .ok (.iload_n 3, 1) := by decide +kernel
theorem dX0_doubt_25 : decode cX0_doubt 25 = .ok (.lshl, 1) := by decide +kernel
theorem dX0_doubt_26 : decode cX0_doubt 26 = .ok (.ladd, 1) := by decide +kernel
theorem dX0_doubt_27 : decode cX0_doubt 27 = .ok (.lstore 4, 2) := by decide +kernel
theorem dX0_doubt_29 : decode cX0_doubt 29 = .ok (.lload 4, 2) := by decide +kernel
theorem dX0_doubt_31 : decode cX0_doubt 31 = .ok (.ldc2_w 65, 3) := by decide +kernel
theorem dX0_doubt_34 : decode cX0_doubt 34 = .ok (.lcmp, 1) := by decide +kernel
theorem dX0_doubt_35 : decode cX0_doubt 35 = .ok (.ifCond .gt 19, 3) := by decide +kernel
theorem dX0_doubt_38 : decode cX0_doubt 38 = .ok (.lload 4, 2) := by decide +kernel
theorem dX0_doubt_40 : decode cX0_doubt 40 = .ok (.lload 4, 2) := by decide +kernel
theorem dX0_doubt_42 : decode cX0_doubt 42 = .ok (.lmul, 1) := by decide +kernel
theorem dX0_doubt_43 : decode cX0_doubt 43 = .ok (.aload_n 0, 1) := by decide +kernel
theorem dX0_doubt_44 : decode cX0_doubt 44 = .ok (.getfield 18, 3) := by decide +kernel
theorem dX0_doubt_47 : decode cX0_doubt 47 = .ok (.lcmp, 1) := by decide +kernel
theorem dX0_doubt_48 : decode cX0_doubt 48 = .ok (.ifCond .gt 6, 3) := by decide +kernel
theorem dX0_doubt_51 : decode cX0_doubt 51 = .ok (.lload 4, 2) := by decide +kernel
theorem dX0_doubt_53 : decode cX0_doubt 53 = .ok (.lstore_n 1, 1) := by decide +kernel
theorem dX0_doubt_54 : decode cX0_doubt 54 = .ok (.iinc 3 (-1), 3) := by decide +kernel
theorem dX0_doubt_57 : decode cX0_doubt 57 = .ok (.goto (-39), 3) := by decide +kernel
theorem dX0_doubt_60 : decode cX0_doubt 60 = .ok (.lload_n 1, 1) := by decide +kernel
theorem dX0_doubt_61 : decode cX0_doubt 61 = .ok (.lreturn, 1) := by decide +kernel
theorem dX0_degrees_0 : decode cX0_degrees 0 = .ok (.aload_n 0, 1) := by decide +kernel
theorem dX0_degrees_1 : decode cX0_degrees 1 = .ok (.getfield 22, 3) := by decide +kernel
theorem dX0_degrees_4 : decode cX0_degrees 4 = .ok (.lconst 0, 1) := by decide +kernel
theorem dX0_degrees_5 : decode cX0_degrees 5 = .ok (.lcmp, 1) := by decide +kernel
theorem dX0_degrees_6 : decode cX0_degrees 6 = .ok (.ifCond .ne 9, 3) := by decide +kernel
theorem dX0_degrees_9 : decode cX0_degrees 9 = .ok (.ldc2_w 63, 3) := by decide +kernel
theorem dX0_degrees_12 : decode cX0_degrees 12 = .ok (.goto 11, 3) := by decide +kernel
theorem dX0_degrees_15 : decode cX0_degrees 15 = .ok (.ldc2_w 67, 3) := by decide +kernel
theorem dX0_degrees_18 : decode cX0_degrees 18 = .ok (.aload_n 0, 1) := by decide +kernel
theorem dX0_degrees_19 : decode cX0_degrees 19 = .ok (.getfield 22, 3) := by decide +kernel
theorem dX0_degrees_22 : decode cX0_degrees 22 = .ok (.ldiv, 1) := by decide +kernel
theorem dX0_degrees_23 : decode cX0_degrees 23 = .ok (.lreturn, 1) := by decide +kernel
set_option maxRecDepth 20000 in
theorem ggX0_factor_X0_degrees : GoodIn wsX0_factor wsX0_degrees := goodIn_r _ [7, 1, 8, 9, 18, 19, 20, 21] (by decide +kernel) (by decide +kernel)
set_option maxRecDepth 20000 in
theorem gX0_factor_X0_degrees : GoodIn wsX0_factor (wsV RX0 73 RX0 yX0_degrees wsX0_degrees) := goodIn_app (goodIn_of _ (by decide +kernel)) ggX0_factor_X0_degrees
set_option maxRecDepth 20000 in
theorem ggX0_factor_X2_factorUpTo : GoodIn wsX0_factor wsX2_factorUpTo := goodIn_r _ [14, 15, 16, 17, 22, 23, 24] (by decide +kernel) (by decide +kernel)
set_option maxRecDepth 20000 in
theorem gX0_factor_X2_factorUpTo : GoodIn wsX0_factor (wsV RX0 77 RX2 yX2_factorUpTo wsX2_factorUpTo) := goodIn_app (goodIn_of _ (by decide +kernel)) ggX0_factor_X2_factorUpTo
theorem dX0_factor_0 : decode cX0_factor 0 = .ok (.aload_n 1, 1) := by decide +kernel
theorem dX0_factor_1 : decode cX0_factor 1 = .ok (.aload_n 0, 1) := by decide +kernel
theorem dX0_factor_2 : decode cX0_factor 2 = .ok (.getfield 22, 3) := by decide +kernel
theorem dX0_factor_5 : decode cX0_factor 5 = .ok (.lconst 0, 1) := by decide +kernel
theorem dX0_factor_6 : decode cX0_factor 6 = .ok (.lcmp, 1) := by decide +kernel
theorem dX0_factor_7 : decode cX0_factor 7 = .ok (.ifCond .ne 9, 3) := by decide +kernel
theorem dX0_factor_10 : decode cX0_factor 10 = .ok (.ldc2_w 71, 3) := by decide +kernel
theorem dX0_factor_13 : decode cX0_factor 13 = .ok (.goto 7, 3) := by decide +kernel
theorem dX0_factor_16 : decode cX0_factor 16 = .ok (.aload_n 0, 1) := by decide +kernel
theorem dX0_factor_17 : decode cX0_factor 17 = .ok (.invokevirtual 73, 3) := by decide +kernel
theorem dX0_factor_20 : decode cX0_factor 20 = .ok (.invokevirtual 77, 3) := by decide +kernel
theorem dX0_factor_23 : decode cX0_factor 23 = .ok (.ireturn, 1) := by decide +kernel
set_option maxRecDepth 20000 in
theorem ggX0_statedDoubt_X0_doubt : GoodIn wsX0_statedDoubt wsX0_doubt := goodIn_r _ [7, 8, 1, 9, 29, 30, 31, 32] (by decide +kernel) (by decide +kernel)
set_option maxRecDepth 20000 in
theorem gX0_statedDoubt_X0_doubt : GoodIn wsX0_statedDoubt (wsV RX0 81 RX0 yX0_doubt wsX0_doubt) := goodIn_app (goodIn_of _ (by decide +kernel)) ggX0_statedDoubt_X0_doubt
set_option maxRecDepth 20000 in
theorem ggX0_statedDoubt_X0_factor : GoodIn wsX0_statedDoubt wsX0_factor := goodIn_r _ [13, 14, 15, 16, 17, 18, 6, 19, 1, 20, 21, 22, 23, 24, 25, 26, 27, 28, 29, 30, 31, 32, 33, 34, 35] (by decide +kernel) (by decide +kernel)
set_option maxRecDepth 20000 in
theorem gX0_statedDoubt_X0_factor : GoodIn wsX0_statedDoubt (wsV RX0 84 RX0 yX0_factor wsX0_factor) := goodIn_app (goodIn_of _ (by decide +kernel)) ggX0_statedDoubt_X0_factor
theorem dX0_statedDoubt_0 : decode cX0_statedDoubt 0 = .ok (.aload_n 0, 1) := by decide +kernel
theorem dX0_statedDoubt_1 : decode cX0_statedDoubt 1 = .ok (.invokevirtual 81, 3) := by decide +kernel
theorem dX0_statedDoubt_4 : decode cX0_statedDoubt 4 = .ok (.lstore_n 2, 1) := by decide +kernel
theorem dX0_statedDoubt_5 : decode cX0_statedDoubt 5 = .ok (.aload_n 0, 1) := by decide +kernel
theorem dX0_statedDoubt_6 : decode cX0_statedDoubt 6 = .ok (.aload_n 1, 1) := by decide +kernel
theorem dX0_statedDoubt_7 : decode cX0_statedDoubt 7 = .ok (.invokevirtual 84, 3) := by decide +kernel
theorem dX0_statedDoubt_10 : decode cX0_statedDoubt 10 = .ok (.istore 4, 2) := by decide +kernel
theorem dX0_statedDoubt_12 : decode cX0_statedDoubt 12 = .ok (.lload_n 2, 1) := by decide +kernel
theorem dX0_statedDoubt_13 : decode cX0_statedDoubt 13 = .ok (.ldc2_w 63, 3) := by decide +kernel
theorem dX0_statedDoubt_16 : decode cX0_statedDoubt 16 = .ok (.lcmp, 1) := by decide +kernel
theorem dX0_statedDoubt_17 : decode cX0_statedDoubt 17 = .ok (.ifCond .eq 9, 3) := by decide +kernel
theorem dX0_statedDoubt_20 : decode cX0_statedDoubt 20 = .ok (.iload 4, 2) := by decide +kernel
theorem dX0_statedDoubt_22 : decode cX0_statedDoubt 22 = .ok (.iconst (-1), 1) := by decide +kernel
theorem dX0_statedDoubt_23 : decode cX0_statedDoubt 23 = .ok (.if_icmp .ne 9, 3) := by decide +kernel
theorem dX0_statedDoubt_26 : decode cX0_statedDoubt 26 = .ok (.ldc2_w 63, 3) := by decide +kernel
theorem dX0_statedDoubt_29 : decode cX0_statedDoubt 29 = .ok (.goto 12, 3) := by decide +kernel
theorem dX0_statedDoubt_32 : decode cX0_statedDoubt 32 = .ok (.lload_n 2, 1) := by decide +kernel
theorem dX0_statedDoubt_33 : decode cX0_statedDoubt 33 = .ok (.iload 4, 2) := by decide +kernel
theorem dX0_statedDoubt_35 : decode cX0_statedDoubt 35 = .ok (.i2l, 1) := by decide +kernel
theorem dX0_statedDoubt_36 : decode cX0_statedDoubt 36 = .ok (.lmul, 1) := by decide +kernel
theorem dX0_statedDoubt_37 : decode cX0_statedDoubt 37 = .ok (.ldc2_w 58, 3) := by decide +kernel
theorem dX0_statedDoubt_40 : decode cX0_statedDoubt 40 = .ok (.ldiv, 1) := by decide +kernel
theorem dX0_statedDoubt_41 : decode cX0_statedDoubt 41 = .ok (.lreturn, 1) := by decide +kernel
theorem dX1_init_0 : decode cX1_init 0 = .ok (.aload_n 0, 1) := by decide +kernel
theorem dX1_init_1 : decode cX1_init 1 = .ok (.invokespecial 1, 3) := by decide +kernel
theorem dX1_init_4 : decode cX1_init 4 = .ok (.aload_n 0, 1) := by decide +kernel
theorem dX1_init_5 : decode cX1_init 5 = .ok (.iconst 1, 1) := by decide +kernel
theorem dX1_init_6 : decode cX1_init 6 = .ok (.putfield 7, 3) := by decide +kernel
theorem dX1_init_9 : decode cX1_init 9 = .ok (.return_, 1) := by decide +kernel
theorem dX1_modulo_0 : decode cX1_modulo 0 = .ok (.aload_n 0, 1) := by decide +kernel
theorem dX1_modulo_1 : decode cX1_modulo 1 = .ok (.bipush 75, 2) := by decide +kernel
theorem dX1_modulo_3 : decode cX1_modulo 3 = .ok (.aload_n 0, 1) := by decide +kernel
theorem dX1_modulo_4 : decode cX1_modulo 4 = .ok (.getfield 7, 3) := by decide +kernel
theorem dX1_modulo_7 : decode cX1_modulo 7 = .ok (.imul, 1) := by decide +kernel
theorem dX1_modulo_8 : decode cX1_modulo 8 = .ok (.bipush 74, 2) := by decide +kernel
theorem dX1_modulo_10 : decode cX1_modulo 10 = .ok (.iadd, 1) := by decide +kernel
theorem dX1_modulo_11 : decode cX1_modulo 11 = .ok (.ldc 13, 2) := by decide +kernel
theorem dX1_modulo_13 : decode cX1_modulo 13 = .ok (.irem, 1) := by decide +kernel
theorem dX1_modulo_14 : decode cX1_modulo 14 = .ok (.putfield 7, 3) := by decide +kernel
theorem dX1_modulo_17 : decode cX1_modulo 17 = .ok (.iload_n 1, 1) := by decide +kernel
theorem dX1_modulo_18 : decode cX1_modulo 18 = .ok (.ifCond .le 12, 3) := by decide +kernel
theorem dX1_modulo_21 : decode cX1_modulo 21 = .ok (.aload_n 0, 1) := by decide +kernel
theorem dX1_modulo_22 : decode cX1_modulo 22 = .ok (.getfield 7, 3) := by decide +kernel
theorem dX1_modulo_25 : decode cX1_modulo 25 = .ok (.iload_n 1, 1) := by decide +kernel
theorem dX1_modulo_26 : decode cX1_modulo 26 = .ok (.irem, 1) := by decide +kernel
theorem dX1_modulo_27 : decode cX1_modulo 27 = .ok (.goto 4, 3) := by decide +kernel
theorem dX1_modulo_30 : decode cX1_modulo 30 = .ok (.iconst 0, 1) := by decide +kernel
theorem dX1_modulo_31 : decode cX1_modulo 31 = .ok (.ireturn, 1) := by decide +kernel
theorem dX2_init_0 : decode cX2_init 0 = .ok (.aload_n 0, 1) := by decide +kernel
theorem dX2_init_1 : decode cX2_init 1 = .ok (.invokespecial 3, 3) := by decide +kernel
theorem dX2_init_4 : decode cX2_init 4 = .ok (.aload_n 0, 1) := by decide +kernel
theorem dX2_init_5 : decode cX2_init 5 = .ok (.bipush 12, 2) := by decide +kernel
theorem dX2_init_7 : decode cX2_init 7 = .ok (.newarray .int, 2) := by decide +kernel
theorem dX2_init_9 : decode cX2_init 9 = .ok (.putfield 9, 3) := by decide +kernel
theorem dX2_init_12 : decode cX2_init 12 = .ok (.aload_n 0, 1) := by decide +kernel
theorem dX2_init_13 : decode cX2_init 13 = .ok (.bipush 12, 2) := by decide +kernel
theorem dX2_init_15 : decode cX2_init 15 = .ok (.newarray .int, 2) := by decide +kernel
theorem dX2_init_17 : decode cX2_init 17 = .ok (.putfield 15, 3) := by decide +kernel
theorem dX2_init_20 : decode cX2_init 20 = .ok (.aload_n 0, 1) := by decide +kernel
theorem dX2_init_21 : decode cX2_init 21 = .ok (.getfield 9, 3) := by decide +kernel
theorem dX2_init_24 : decode cX2_init 24 = .ok (.iconst 0, 1) := by decide +kernel
theorem dX2_init_25 : decode cX2_init 25 = .ok (.iconst 1, 1) := by decide +kernel
theorem dX2_init_26 : decode cX2_init 26 = .ok (.iastore, 1) := by decide +kernel
theorem dX2_init_27 : decode cX2_init 27 = .ok (.aload_n 0, 1) := by decide +kernel
theorem dX2_init_28 : decode cX2_init 28 = .ok (.getfield 15, 3) := by decide +kernel
theorem dX2_init_31 : decode cX2_init 31 = .ok (.iconst 0, 1) := by decide +kernel
theorem dX2_init_32 : decode cX2_init 32 = .ok (.sipush 200, 3) := by decide +kernel
theorem dX2_init_35 : decode cX2_init 35 = .ok (.iastore, 1) := by decide +kernel
theorem dX2_init_36 : decode cX2_init 36 = .ok (.aload_n 0, 1) := by decide +kernel
theorem dX2_init_37 : decode cX2_init 37 = .ok (.iconst 1, 1) := by decide +kernel
theorem dX2_init_38 : decode cX2_init 38 = .ok (.putfield 18, 3) := by decide +kernel
theorem dX2_init_41 : decode cX2_init 41 = .ok (.return_, 1) := by decide +kernel
theorem dX2_find_0 : decode cX2_find 0 = .ok (.iconst 0, 1) := by decide +kernel
theorem dX2_find_1 : decode cX2_find 1 = .ok (.istore_n 2, 1) := by decide +kernel
theorem dX2_find_2 : decode cX2_find 2 = .ok (.iload_n 2, 1) := by decide +kernel
theorem dX2_find_3 : decode cX2_find 3 = .ok (.aload_n 0, 1) := by decide +kernel
theorem dX2_find_4 : decode cX2_find 4 = .ok (.getfield 18, 3) := by decide +kernel
theorem dX2_find_7 : decode cX2_find 7 = .ok (.if_icmp .ge 19, 3) := by decide +kernel
theorem dX2_find_10 : decode cX2_find 10 = .ok (.aload_n 0, 1) := by decide +kernel
theorem dX2_find_11 : decode cX2_find 11 = .ok (.getfield 9, 3) := by decide +kernel
theorem dX2_find_14 : decode cX2_find 14 = .ok (.iload_n 2, 1) := by decide +kernel
theorem dX2_find_15 : decode cX2_find 15 = .ok (.iaload, 1) := by decide +kernel
theorem dX2_find_16 : decode cX2_find 16 = .ok (.iload_n 1, 1) := by decide +kernel
theorem dX2_find_17 : decode cX2_find 17 = .ok (.if_icmp .eq 9, 3) := by decide +kernel
theorem dX2_find_20 : decode cX2_find 20 = .ok (.iinc 2 1, 3) := by decide +kernel
theorem dX2_find_23 : decode cX2_find 23 = .ok (.goto (-21), 3) := by decide +kernel
theorem dX2_find_26 : decode cX2_find 26 = .ok (.iload_n 2, 1) := by decide +kernel
theorem dX2_find_27 : decode cX2_find 27 = .ok (.ireturn, 1) := by decide +kernel
set_option maxRecDepth 20000 in
theorem ggX2_hasRoomFor_X2_find : GoodIn wsX2_hasRoomFor wsX2_find := goodIn_r _ [5, 6, 7, 8, 9, 10] (by decide +kernel) (by decide +kernel)
set_option maxRecDepth 20000 in
theorem gX2_hasRoomFor_X2_find : GoodIn wsX2_hasRoomFor (wsV RX2 22 RX2 yX2_find wsX2_find) := goodIn_app (goodIn_of _ (by decide +kernel)) ggX2_hasRoomFor_X2_find
theorem dX2_hasRoomFor_0 : decode cX2_hasRoomFor 0 = .ok (.aload_n 0, 1) := by decide +kernel
theorem dX2_hasRoomFor_1 : decode cX2_hasRoomFor 1 = .ok (.iload_n 1, 1) := by decide +kernel
theorem dX2_hasRoomFor_2 : decode cX2_hasRoomFor 2 = .ok (.invokevirtual 22, 3) := by decide +kernel
theorem dX2_hasRoomFor_5 : decode cX2_hasRoomFor 5 = .ok (.bipush 12, 2) := by decide +kernel
theorem dX2_hasRoomFor_7 : decode cX2_hasRoomFor 7 = .ok (.if_icmp .ge 7, 3) := by decide +kernel
theorem dX2_hasRoomFor_10 : decode cX2_hasRoomFor 10 = .ok (.iconst 1, 1) := by decide +kernel
theorem dX2_hasRoomFor_11 : decode cX2_hasRoomFor 11 = .ok (.goto 4, 3) := by decide +kernel
theorem dX2_hasRoomFor_14 : decode cX2_hasRoomFor 14 = .ok (.iconst 0, 1) := by decide +kernel
theorem dX2_hasRoomFor_15 : decode cX2_hasRoomFor 15 = .ok (.ireturn, 1) := by decide +kernel
set_option maxRecDepth 20000 in
theorem ggX2_put_X2_find : GoodIn wsX2_put wsX2_find := goodIn_r _ [12, 3, 1, 13, 14, 15] (by decide +kernel) (by decide +kernel)
set_option maxRecDepth 20000 in
theorem gX2_put_X2_find : GoodIn wsX2_put (wsV RX2 22 RX2 yX2_find wsX2_find) := goodIn_app (goodIn_of _ (by decide +kernel)) ggX2_put_X2_find
theorem dX2_put_0 : decode cX2_put 0 = .ok (.aload_n 0, 1) := by decide +kernel
theorem dX2_put_1 : decode cX2_put 1 = .ok (.iload_n 1, 1) := by decide +kernel
theorem dX2_put_2 : decode cX2_put 2 = .ok (.invokevirtual 22, 3) := by decide +kernel
theorem dX2_put_5 : decode cX2_put 5 = .ok (.istore_n 3, 1) := by decide +kernel
theorem dX2_put_6 : decode cX2_put 6 = .ok (.iload_n 3, 1) := by decide +kernel
theorem dX2_put_7 : decode cX2_put 7 = .ok (.bipush 12, 2) := by decide +kernel
theorem dX2_put_9 : decode cX2_put 9 = .ok (.if_icmp .ge 31, 3) := by decide +kernel
theorem dX2_put_12 : decode cX2_put 12 = .ok (.aload_n 0, 1) := by decide +kernel
theorem dX2_put_13 : decode cX2_put 13 = .ok (.getfield 9, 3) := by decide +kernel
theorem dX2_put_16 : decode cX2_put 16 = .ok (.iload_n 3, 1) := by decide +kernel
theorem dX2_put_17 : decode cX2_put 17 = .ok (.iload_n 1, 1) := by decide +kernel
theorem dX2_put_18 : decode cX2_put 18 = .ok (.iastore, 1) := by decide +kernel
theorem dX2_put_19 : decode cX2_put 19 = .ok (.aload_n 0, 1) := by decide +kernel
theorem dX2_put_20 : decode cX2_put 20 = .ok (.getfield 15, 3) := by decide +kernel
theorem dX2_put_23 : decode cX2_put 23 = .ok (.iload_n 3, 1) := by decide +kernel
theorem dX2_put_24 : decode cX2_put 24 = .ok (.iload_n 2, 1) := by decide +kernel
theorem dX2_put_25 : decode cX2_put 25 = .ok (.iastore, 1) := by decide +kernel
theorem dX2_put_26 : decode cX2_put 26 = .ok (.aload_n 0, 1) := by decide +kernel
theorem dX2_put_27 : decode cX2_put 27 = .ok (.aload_n 0, 1) := by decide +kernel
theorem dX2_put_28 : decode cX2_put 28 = .ok (.getfield 18, 3) := by decide +kernel
theorem dX2_put_31 : decode cX2_put 31 = .ok (.iload_n 3, 1) := by decide +kernel
theorem dX2_put_32 : decode cX2_put 32 = .ok (.iconst 1, 1) := by decide +kernel
theorem dX2_put_33 : decode cX2_put 33 = .ok (.iadd, 1) := by decide +kernel
theorem dX2_put_34 : decode cX2_put 34 = .ok (.invokestatic 26, 3) := by decide +kernel
theorem dX2_put_37 : decode cX2_put 37 = .ok (.putfield 18, 3) := by decide +kernel
theorem dX2_put_40 : decode cX2_put 40 = .ok (.return_, 1) := by decide +kernel
set_option maxRecDepth 20000 in
theorem ggX2_remove_X2_find : GoodIn wsX2_remove wsX2_find := goodIn_r _ [8, 1, 2, 9, 10, 11] (by decide +kernel) (by decide +kernel)
set_option maxRecDepth 20000 in
theorem gX2_remove_X2_find : GoodIn wsX2_remove (wsV RX2 22 RX2 yX2_find wsX2_find) := goodIn_app (goodIn_of _ (by decide +kernel)) ggX2_remove_X2_find
theorem dX2_remove_0 : decode cX2_remove 0 = .ok (.aload_n 0, 1) := by decide +kernel
theorem dX2_remove_1 : decode cX2_remove 1 = .ok (.iload_n 1, 1) := by decide +kernel
theorem dX2_remove_2 : decode cX2_remove 2 = .ok (.invokevirtual 22, 3) := by decide +kernel
theorem dX2_remove_5 : decode cX2_remove 5 = .ok (.istore_n 2, 1) := by decide +kernel
theorem dX2_remove_6 : decode cX2_remove 6 = .ok (.iload_n 2, 1) := by decide +kernel
theorem dX2_remove_7 : decode cX2_remove 7 = .ok (.aload_n 0, 1) := by decide +kernel
theorem dX2_remove_8 : decode cX2_remove 8 = .ok (.getfield 18, 3) := by decide +kernel
theorem dX2_remove_11 : decode cX2_remove 11 = .ok (.if_icmp .ge 43, 3) := by decide +kernel
theorem dX2_remove_14 : decode cX2_remove 14 = .ok (.aload_n 0, 1) := by decide +kernel
theorem dX2_remove_15 : decode cX2_remove 15 = .ok (.dup, 1) := by decide +kernel
theorem dX2_remove_16 : decode cX2_remove 16 = .ok (.getfield 18, 3) := by decide +kernel
theorem dX2_remove_19 : decode cX2_remove 19 = .ok (.iconst 1, 1) := by decide +kernel
theorem dX2_remove_20 : decode cX2_remove 20 = .ok (.isub, 1) := by decide +kernel
theorem dX2_remove_21 : decode cX2_remove 21 = .ok (.putfield 18, 3) := by decide +kernel
theorem dX2_remove_24 : decode cX2_remove 24 = .ok (.aload_n 0, 1) := by decide +kernel
theorem dX2_remove_25 : decode cX2_remove 25 = .ok (.getfield 9, 3) := by decide +kernel
theorem dX2_remove_28 : decode cX2_remove 28 = .ok (.iload_n 2, 1) := by decide +kernel
theorem dX2_remove_29 : decode cX2_remove 29 = .ok (.aload_n 0, 1) := by decide +kernel
theorem dX2_remove_30 : decode cX2_remove 30 = .ok (.getfield 9, 3) := by decide +kernel
theorem dX2_remove_33 : decode cX2_remove 33 = .ok (.aload_n 0, 1) := by decide +kernel
theorem dX2_remove_34 : decode cX2_remove 34 = .ok (.getfield 18, 3) := by decide +kernel
theorem dX2_remove_37 : decode cX2_remove 37 = .ok (.iaload, 1) := by decide +kernel
theorem dX2_remove_38 : decode cX2_remove 38 = .ok (.iastore, 1) := by decide +kernel
theorem dX2_remove_39 : decode cX2_remove 39 = .ok (.aload_n 0, 1) := by decide +kernel
theorem dX2_remove_40 : decode cX2_remove 40 = .ok (.getfield 15, 3) := by decide +kernel
theorem dX2_remove_43 : decode cX2_remove 43 = .ok (.iload_n 2, 1) := by decide +kernel
theorem dX2_remove_44 : decode cX2_remove 44 = .ok (.aload_n 0, 1) := by decide +kernel
theorem dX2_remove_45 : decode cX2_remove 45 = .ok (.getfield 15, 3) := by decide +kernel
theorem dX2_remove_48 : decode cX2_remove 48 = .ok (.aload_n 0, 1) := by decide +kernel
theorem dX2_remove_49 : decode cX2_remove 49 = .ok (.getfield 18, 3) := by decide +kernel
theorem dX2_remove_52 : decode cX2_remove 52 = .ok (.iaload, 1) := by decide +kernel
theorem dX2_remove_53 : decode cX2_remove 53 = .ok (.iastore, 1) := by decide +kernel
theorem dX2_remove_54 : decode cX2_remove 54 = .ok (.return_, 1) := by decide +kernel
theorem dX2_factorUpTo_0 : decode cX2_factorUpTo 0 = .ok (.iconst 0, 1) := by decide +kernel
theorem dX2_factorUpTo_1 : decode cX2_factorUpTo 1 = .ok (.istore_n 3, 1) := by decide +kernel
theorem dX2_factorUpTo_2 : decode cX2_factorUpTo 2 = .ok (.iconst (-1), 1) := by decide +kernel
theorem dX2_factorUpTo_3 : decode cX2_factorUpTo 3 = .ok (.istore 4, 2) := by decide +kernel
theorem dX2_factorUpTo_5 : decode cX2_factorUpTo 5 = .ok (.iconst 0, 1) := by decide +kernel
theorem dX2_factorUpTo_6 : decode cX2_factorUpTo 6 = .ok (.istore 5, 2) := by decide +kernel
theorem dX2_factorUpTo_8 : decode cX2_factorUpTo 8 = .ok (.iload 5, 2) := by decide +kernel
theorem dX2_factorUpTo_10 : decode cX2_factorUpTo 10 = .ok (.aload_n 0, 1) := by decide +kernel
theorem dX2_factorUpTo_11 : decode cX2_factorUpTo 11 = .ok (.getfield 18, 3) := by decide +kernel
theorem dX2_factorUpTo_14 : decode cX2_factorUpTo 14 = .ok (.if_icmp .ge 50, 3) := by decide +kernel
theorem dX2_factorUpTo_17 : decode cX2_factorUpTo 17 = .ok (.aload_n 0, 1) := by decide +kernel
theorem dX2_factorUpTo_18 : decode cX2_factorUpTo 18 = .ok (.getfield 9, 3) := by decide +kernel
theorem dX2_factorUpTo_21 : decode cX2_factorUpTo 21 = .ok (.iload 5, 2) := by decide +kernel
theorem dX2_factorUpTo_23 : decode cX2_factorUpTo 23 = .ok (.iaload, 1) := by decide +kernel
theorem dX2_factorUpTo_24 : decode cX2_factorUpTo 24 = .ok (.i2l, 1) := by decide +kernel
theorem dX2_factorUpTo_25 : decode cX2_factorUpTo 25 = .ok (.lload_n 1, 1) := by decide +kernel
theorem dX2_factorUpTo_26 : decode cX2_factorUpTo 26 = .ok (.lcmp, 1) := by decide +kernel
theorem dX2_factorUpTo_27 : decode cX2_factorUpTo 27 = .ok (.ifCond .gt 31, 3) := by decide +kernel
theorem dX2_factorUpTo_30 : decode cX2_factorUpTo 30 = .ok (.aload_n 0, 1) := by decide +kernel
theorem dX2_factorUpTo_31 : decode cX2_factorUpTo 31 = .ok (.getfield 9, 3) := by decide +kernel
theorem dX2_factorUpTo_34 : decode cX2_factorUpTo 34 = .ok (.iload 5, 2) := by decide +kernel
theorem dX2_factorUpTo_36 : decode cX2_factorUpTo 36 = .ok (.iaload, 1) := by decide +kernel
theorem dX2_factorUpTo_37 : decode cX2_factorUpTo 37 = .ok (.iload_n 3, 1) := by decide +kernel
theorem dX2_factorUpTo_38 : decode cX2_factorUpTo 38 = .ok (.if_icmp .le 20, 3) := by decide +kernel
theorem dX2_factorUpTo_41 : decode cX2_factorUpTo 41 = .ok (.aload_n 0, 1) := by decide +kernel
theorem dX2_factorUpTo_42 : decode cX2_factorUpTo 42 = .ok (.getfield 9, 3) := by decide +kernel
theorem dX2_factorUpTo_45 : decode cX2_factorUpTo 45 = .ok (.iload 5, 2) := by decide +kernel
theorem dX2_factorUpTo_47 : decode cX2_factorUpTo 47 = .ok (.iaload, 1) := by decide +kernel
theorem dX2_factorUpTo_48 : decode cX2_factorUpTo 48 = .ok (.istore_n 3, 1) := by decide +kernel
theorem dX2_factorUpTo_49 : decode cX2_factorUpTo 49 = .ok (.aload_n 0, 1) := by decide +kernel
theorem dX2_factorUpTo_50 : decode cX2_factorUpTo 50 = .ok (.getfield 15, 3) := by decide +kernel
theorem dX2_factorUpTo_53 : decode cX2_factorUpTo 53 = .ok (.iload 5, 2) := by decide +kernel
theorem dX2_factorUpTo_55 : decode cX2_factorUpTo 55 = .ok (.iaload, 1) := by decide +kernel
theorem dX2_factorUpTo_56 : decode cX2_factorUpTo 56 = .ok (.istore 4, 2) := by decide +kernel
theorem dX2_factorUpTo_58 : decode cX2_factorUpTo 58 = .ok (.iinc 5 1, 3) := by decide +kernel
theorem dX2_factorUpTo_61 : decode cX2_factorUpTo 61 = .ok (.goto (-53), 3) := by decide +kernel
theorem dX2_factorUpTo_64 : decode cX2_factorUpTo 64 = .ok (.iload 4, 2) := by decide +kernel
theorem dX2_factorUpTo_66 : decode cX2_factorUpTo 66 = .ok (.ireturn, 1) := by decide +kernel
theorem dX3_init_0 : decode cX3_init 0 = .ok (.aload_n 0, 1) := by decide +kernel
theorem dX3_init_1 : decode cX3_init 1 = .ok (.invokespecial 3, 3) := by decide +kernel
theorem dX3_init_4 : decode cX3_init 4 = .ok (.aload_n 0, 1) := by decide +kernel
theorem dX3_init_5 : decode cX3_init 5 = .ok (.bipush 60, 2) := by decide +kernel
theorem dX3_init_7 : decode cX3_init 7 = .ok (.newarray .int, 2) := by decide +kernel
theorem dX3_init_9 : decode cX3_init 9 = .ok (.putfield 9, 3) := by decide +kernel
theorem dX3_init_12 : decode cX3_init 12 = .ok (.aload_n 0, 1) := by decide +kernel
theorem dX3_init_13 : decode cX3_init 13 = .ok (.bipush 60, 2) := by decide +kernel
theorem dX3_init_15 : decode cX3_init 15 = .ok (.newarray .int, 2) := by decide +kernel
theorem dX3_init_17 : decode cX3_init 17 = .ok (.putfield 15, 3) := by decide +kernel
theorem dX3_init_20 : decode cX3_init 20 = .ok (.aload_n 0, 1) := by decide +kernel
theorem dX3_init_21 : decode cX3_init 21 = .ok (.bipush 60, 2) := by decide +kernel
theorem dX3_init_23 : decode cX3_init 23 = .ok (.newarray .int, 2) := by decide +kernel
theorem dX3_init_25 : decode cX3_init 25 = .ok (.putfield 18, 3) := by decide +kernel
theorem dX3_init_28 : decode cX3_init 28 = .ok (.aload_n 0, 1) := by decide +kernel
theorem dX3_init_29 : decode cX3_init 29 = .ok (.bipush 60, 2) := by decide +kernel
theorem dX3_init_31 : decode cX3_init 31 = .ok (.newarray .int, 2) := by decide +kernel
theorem dX3_init_33 : decode cX3_init 33 = .ok (.putfield 21, 3) := by decide +kernel
theorem dX3_init_36 : decode cX3_init 36 = .ok (.aload_n 0, 1) := by decide +kernel
theorem dX3_init_37 : decode cX3_init 37 = .ok (.bipush 60, 2) := by decide +kernel
theorem dX3_init_39 : decode cX3_init 39 = .ok (.newarray .long, 2) := by decide +kernel
theorem dX3_init_41 : decode cX3_init 41 = .ok (.putfield 24, 3) := by decide +kernel
theorem dX3_init_44 : decode cX3_init 44 = .ok (.aload_n 0, 1) := by decide +kernel
theorem dX3_init_45 : decode cX3_init 45 = .ok (.bipush 60, 2) := by decide +kernel
theorem dX3_init_47 : decode cX3_init 47 = .ok (.newarray .long, 2) := by decide +kernel
theorem dX3_init_49 : decode cX3_init 49 = .ok (.putfield 28, 3) := by decide +kernel
theorem dX3_init_52 : decode cX3_init 52 = .ok (.aload_n 0, 1) := by decide +kernel
theorem dX3_init_53 : decode cX3_init 53 = .ok (.bipush 60, 2) := by decide +kernel
theorem dX3_init_55 : decode cX3_init 55 = .ok (.newarray .int, 2) := by decide +kernel
theorem dX3_init_57 : decode cX3_init 57 = .ok (.putfield 31, 3) := by decide +kernel
theorem dX3_init_60 : decode cX3_init 60 = .ok (.aload_n 0, 1) := by decide +kernel
theorem dX3_init_61 : decode cX3_init 61 = .ok (.iconst 0, 1) := by decide +kernel
theorem dX3_init_62 : decode cX3_init 62 = .ok (.putfield 34, 3) := by decide +kernel
theorem dX3_init_65 : decode cX3_init 65 = .ok (.aload_n 0, 1) := by decide +kernel
theorem dX3_init_66 : decode cX3_init 66 = .ok (.iconst 0, 1) := by decide +kernel
theorem dX3_init_67 : decode cX3_init 67 = .ok (.putfield 38, 3) := by decide +kernel
theorem dX3_init_70 : decode cX3_init 70 = .ok (.return_, 1) := by decide +kernel
theorem dX3_clear_0 : decode cX3_clear 0 = .ok (.aload_n 0, 1) := by decide +kernel
theorem dX3_clear_1 : decode cX3_clear 1 = .ok (.iconst 0, 1) := by decide +kernel
theorem dX3_clear_2 : decode cX3_clear 2 = .ok (.putfield 34, 3) := by decide +kernel
theorem dX3_clear_5 : decode cX3_clear 5 = .ok (.aload_n 0, 1) := by decide +kernel
theorem dX3_clear_6 : decode cX3_clear 6 = .ok (.iconst 0, 1) := by decide +kernel
theorem dX3_clear_7 : decode cX3_clear 7 = .ok (.putfield 38, 3) := by decide +kernel
theorem dX3_clear_10 : decode cX3_clear 10 = .ok (.return_, 1) := by decide +kernel
set_option maxRecDepth 20000 in
theorem ggX3_add_X3_find : GoodIn wsX3_add wsX3_find := goodIn_r _ [10, 1, 2, 3, 4, 11, 12, 13, 14, 15, 16, 17, 18, 19] (by decide +kernel) (by decide +kernel)
set_option maxRecDepth 20000 in
theorem gX3_add_X3_find : GoodIn wsX3_add (wsV RX3 41 RX3 yX3_find wsX3_find) := goodIn_app (goodIn_of _ (by decide +kernel)) ggX3_add_X3_find
theorem dX3_add_0 : decode cX3_add 0 = .ok (.aload_n 0, 1) := by decide +kernel
theorem dX3_add_1 : decode cX3_add 1 = .ok (.iload_n 1, 1) := by decide +kernel
theorem dX3_add_2 : decode cX3_add 2 = .ok (.iload_n 2, 1) := by decide +kernel
theorem dX3_add_3 : decode cX3_add 3 = .ok (.iload_n 3, 1) := by decide +kernel
theorem dX3_add_4 : decode cX3_add 4 = .ok (.invokevirtual 41, 3) := by decide +kernel
theorem dX3_add_7 : decode cX3_add 7 = .ok (.istore 5, 2) := by decide +kernel
theorem dX3_add_9 : decode cX3_add 9 = .ok (.iload 5, 2) := by decide +kernel
theorem dX3_add_11 : decode cX3_add 11 = .ok (.bipush 60, 2) := by decide +kernel
theorem dX3_add_13 : decode cX3_add 13 = .ok (.if_icmp .lt 5, 3) := by decide +kernel
theorem dX3_add_16 : decode cX3_add 16 = .ok (.iconst (-1), 1) := by decide +kernel
theorem dX3_add_17 : decode cX3_add 17 = .ok (.ireturn, 1) := by decide +kernel
theorem dX3_add_18 : decode cX3_add 18 = .ok (.iload 5, 2) := by decide +kernel
theorem dX3_add_20 : decode cX3_add 20 = .ok (.aload_n 0, 1) := by decide +kernel
theorem dX3_add_21 : decode cX3_add 21 = .ok (.getfield 34, 3) := by decide +kernel
theorem dX3_add_24 : decode cX3_add 24 = .ok (.if_icmp .ne 46, 3) := by decide +kernel
theorem dX3_add_27 : decode cX3_add 27 = .ok (.aload_n 0, 1) := by decide +kernel
theorem dX3_add_28 : decode cX3_add 28 = .ok (.getfield 9, 3) := by decide +kernel
theorem dX3_add_31 : decode cX3_add 31 = .ok (.iload 5, 2) := by decide +kernel
theorem dX3_add_33 : decode cX3_add 33 = .ok (.iload_n 1, 1) := by decide +kernel
theorem dX3_add_34 : decode cX3_add 34 = .ok (.iastore, 1) := by decide +kernel
theorem dX3_add_35 : decode cX3_add 35 = .ok (.aload_n 0, 1) := by decide +kernel
theorem dX3_add_36 : decode cX3_add 36 = .ok (.getfield 15, 3) := by decide +kernel
theorem dX3_add_39 : decode cX3_add 39 = .ok (.iload 5, 2) := by decide +kernel
theorem dX3_add_41 : decode cX3_add 41 = .ok (.iload_n 2, 1) := by decide +kernel
theorem dX3_add_42 : decode cX3_add 42 = .ok (.iastore, 1) := by decide +kernel
theorem dX3_add_43 : decode cX3_add 43 = .ok (.aload_n 0, 1) := by decide +kernel
theorem dX3_add_44 : decode cX3_add 44 = .ok (.getfield 18, 3) := by decide +kernel
theorem dX3_add_47 : decode cX3_add 47 = .ok (.iload 5, 2) := by decide +kernel
theorem dX3_add_49 : decode cX3_add 49 = .ok (.iload_n 3, 1) := by decide +kernel
theorem dX3_add_50 : decode cX3_add 50 = .ok (.iastore, 1) := by decide +kernel
theorem dX3_add_51 : decode cX3_add 51 = .ok (.aload_n 0, 1) := by decide +kernel
theorem dX3_add_52 : decode cX3_add 52 = .ok (.getfield 21, 3) := by decide +kernel
theorem dX3_add_55 : decode cX3_add 55 = .ok (.iload 5, 2) := by decide +kernel
theorem dX3_add_57 : decode cX3_add 57 = .ok (.iload 4, 2) := by decide +kernel
theorem dX3_add_59 : decode cX3_add 59 = .ok (.iastore, 1) := by decide +kernel
theorem dX3_add_60 : decode cX3_add 60 = .ok (.aload_n 0, 1) := by decide +kernel
theorem dX3_add_61 : decode cX3_add 61 = .ok (.dup, 1) := by decide +kernel
theorem dX3_add_62 : decode cX3_add 62 = .ok (.getfield 34, 3) := by decide +kernel
theorem dX3_add_65 : decode cX3_add 65 = .ok (.iconst 1, 1) := by decide +kernel
theorem dX3_add_66 : decode cX3_add 66 = .ok (.iadd, 1) := by decide +kernel
theorem dX3_add_67 : decode cX3_add 67 = .ok (.putfield 34, 3) := by decide +kernel
theorem dX3_add_70 : decode cX3_add 70 = .ok (.iload 5, 2) := by decide +kernel
theorem dX3_add_72 : decode cX3_add 72 = .ok (.ireturn, 1) := by decide +kernel
theorem dX3_find_0 : decode cX3_find 0 = .ok (.iconst 0, 1) := by decide +kernel
theorem dX3_find_1 : decode cX3_find 1 = .ok (.istore 4, 2) := by decide +kernel
theorem dX3_find_3 : decode cX3_find 3 = .ok (.iload 4, 2) := by decide +kernel
theorem dX3_find_5 : decode cX3_find 5 = .ok (.aload_n 0, 1) := by decide +kernel
theorem dX3_find_6 : decode cX3_find 6 = .ok (.getfield 34, 3) := by decide +kernel
theorem dX3_find_9 : decode cX3_find 9 = .ok (.if_icmp .ge 42, 3) := by decide +kernel
theorem dX3_find_12 : decode cX3_find 12 = .ok (.aload_n 0, 1) := by decide +kernel
theorem dX3_find_13 : decode cX3_find 13 = .ok (.getfield 9, 3) := by decide +kernel
theorem dX3_find_16 : decode cX3_find 16 = .ok (.iload 4, 2) := by decide +kernel
theorem dX3_find_18 : decode cX3_find 18 = .ok (.iaload, 1) := by decide +kernel
theorem dX3_find_19 : decode cX3_find 19 = .ok (.iload_n 1, 1) := by decide +kernel
theorem dX3_find_20 : decode cX3_find 20 = .ok (.if_icmp .ne 25, 3) := by decide +kernel
theorem dX3_find_23 : decode cX3_find 23 = .ok (.aload_n 0, 1) := by decide +kernel
theorem dX3_find_24 : decode cX3_find 24 = .ok (.getfield 15, 3) := by decide +kernel
theorem dX3_find_27 : decode cX3_find 27 = .ok (.iload 4, 2) := by decide +kernel
theorem dX3_find_29 : decode cX3_find 29 = .ok (.iaload, 1) := by decide +kernel
theorem dX3_find_30 : decode cX3_find 30 = .ok (.iload_n 2, 1) := by decide +kernel
theorem dX3_find_31 : decode cX3_find 31 = .ok (.if_icmp .ne 14, 3) := by decide +kernel
theorem dX3_find_34 : decode cX3_find 34 = .ok (.aload_n 0, 1) := by decide +kernel
theorem dX3_find_35 : decode cX3_find 35 = .ok (.getfield 18, 3) := by decide +kernel
theorem dX3_find_38 : decode cX3_find 38 = .ok (.iload 4, 2) := by decide +kernel
theorem dX3_find_40 : decode cX3_find 40 = .ok (.iaload, 1) := by decide +kernel
theorem dX3_find_41 : decode cX3_find 41 = .ok (.iload_n 3, 1) := by decide +kernel
theorem dX3_find_42 : decode cX3_find 42 = .ok (.if_icmp .eq 9, 3) := by decide +kernel
theorem dX3_find_45 : decode cX3_find 45 = .ok (.iinc 4 1, 3) := by decide +kernel
theorem dX3_find_48 : decode cX3_find 48 = .ok (.goto (-45), 3) := by decide +kernel
theorem dX3_find_51 : decode cX3_find 51 = .ok (.iload 4, 2) := by decide +kernel
theorem dX3_find_53 : decode cX3_find 53 = .ok (.ireturn, 1) := by decide +kernel
set_option maxRecDepth 20000 in
theorem ggX3_reckonBy_X3_reckonPart : GoodIn wsX3_reckonBy wsX3_reckonPart := goodIn_r _ [8, 9, 10, 11, 2, 12, 13, 7, 14, 15, 16, 17, 18, 19, 20, 21, 22, 23] (by decide +kernel) (by decide +kernel)
set_option maxRecDepth 20000 in
theorem gX3_reckonBy_X3_reckonPart : GoodIn wsX3_reckonBy (wsV RX3 45 RX3 yX3_reckonPart wsX3_reckonPart) := goodIn_app (goodIn_of _ (by decide +kernel)) ggX3_reckonBy_X3_reckonPart
theorem dX3_reckonBy_0 : decode cX3_reckonBy 0 = .ok (.iconst 0, 1) := by decide +kernel
theorem dX3_reckonBy_1 : decode cX3_reckonBy 1 = .ok (.istore_n 2, 1) := by decide +kernel
theorem dX3_reckonBy_2 : decode cX3_reckonBy 2 = .ok (.iload_n 2, 1) := by decide +kernel
theorem dX3_reckonBy_3 : decode cX3_reckonBy 3 = .ok (.aload_n 0, 1) := by decide +kernel
theorem dX3_reckonBy_4 : decode cX3_reckonBy 4 = .ok (.getfield 34, 3) := by decide +kernel
theorem dX3_reckonBy_7 : decode cX3_reckonBy 7 = .ok (.if_icmp .ge 21, 3) := by decide +kernel
theorem dX3_reckonBy_10 : decode cX3_reckonBy 10 = .ok (.aload_n 0, 1) := by decide +kernel
theorem dX3_reckonBy_11 : decode cX3_reckonBy 11 = .ok (.getfield 24, 3) := by decide +kernel
theorem dX3_reckonBy_14 : decode cX3_reckonBy 14 = .ok (.iload_n 2, 1) := by decide +kernel
theorem dX3_reckonBy_15 : decode cX3_reckonBy 15 = .ok (.aload_n 0, 1) := by decide +kernel
theorem dX3_reckonBy_16 : decode cX3_reckonBy 16 = .ok (.iload_n 2, 1) := by decide +kernel
theorem dX3_reckonBy_17 : decode cX3_reckonBy 17 = .ok (.aload_n 1, 1) := by decide +kernel
theorem dX3_reckonBy_18 : decode cX3_reckonBy 18 = .ok (.invokevirtual 45, 3) := by decide +kernel
theorem dX3_reckonBy_21 : decode cX3_reckonBy 21 = .ok (.lastore, 1) := by decide +kernel
theorem dX3_reckonBy_22 : decode cX3_reckonBy 22 = .ok (.iinc 2 1, 3) := by decide +kernel
theorem dX3_reckonBy_25 : decode cX3_reckonBy 25 = .ok (.goto (-23), 3) := by decide +kernel
theorem dX3_reckonBy_28 : decode cX3_reckonBy 28 = .ok (.aload_n 0, 1) := by decide +kernel
theorem dX3_reckonBy_29 : decode cX3_reckonBy 29 = .ok (.getfield 24, 3) := by decide +kernel
theorem dX3_reckonBy_32 : decode cX3_reckonBy 32 = .ok (.aload_n 0, 1) := by decide +kernel
theorem dX3_reckonBy_33 : decode cX3_reckonBy 33 = .ok (.getfield 38, 3) := by decide +kernel
theorem dX3_reckonBy_36 : decode cX3_reckonBy 36 = .ok (.laload, 1) := by decide +kernel
theorem dX3_reckonBy_37 : decode cX3_reckonBy 37 = .ok (.lreturn, 1) := by decide +kernel
set_option maxRecDepth 20000 in
theorem ggX3_reckonPart_X3_power : GoodIn wsX3_reckonPart wsX3_power := goodIn_r _ [8] (by decide +kernel) (by decide +kernel)
set_option maxRecDepth 20000 in
theorem gX3_reckonPart_X3_power : GoodIn wsX3_reckonPart (va_wsS RX3 49 yX3_power wsX3_power) := goodIn_app (goodIn_of _ (by decide +kernel)) ggX3_reckonPart_X3_power
theorem dX3_reckonPart_0 : decode cX3_reckonPart 0 = .ok (.aload_n 0, 1) := by decide +kernel
theorem dX3_reckonPart_1 : decode cX3_reckonPart 1 = .ok (.getfield 15, 3) := by decide +kernel
theorem dX3_reckonPart_4 : decode cX3_reckonPart 4 = .ok (.iload_n 1, 1) := by decide +kernel
theorem dX3_reckonPart_5 : decode cX3_reckonPart 5 = .ok (.iaload, 1) := by decide +kernel
theorem dX3_reckonPart_6 : decode cX3_reckonPart 6 = .ok (.istore_n 3, 1) := by decide +kernel
theorem dX3_reckonPart_7 : decode cX3_reckonPart 7 = .ok (.aload_n 0, 1) := by decide +kernel
theorem dX3_reckonPart_8 : decode cX3_reckonPart 8 = .ok (.getfield 18, 3) := by decide +kernel
theorem dX3_reckonPart_11 : decode cX3_reckonPart 11 = .ok (.iload_n 1, 1) := by decide +kernel
theorem dX3_reckonPart_12 : decode cX3_reckonPart 12 = .ok (.iaload, 1) := by decide +kernel
theorem dX3_reckonPart_13 : decode cX3_reckonPart 13 = .ok (.istore 4, 2) := by decide +kernel
theorem dX3_reckonPart_15 : decode cX3_reckonPart 15 = .ok (.aload_n 0, 1) := by decide +kernel
theorem dX3_reckonPart_16 : decode cX3_reckonPart 16 = .ok (.getfield 9, 3) := by decide +kernel
theorem dX3_reckonPart_19 : decode cX3_reckonPart 19 = .ok (.iload_n 1, 1) := by decide +kernel
theorem dX3_reckonPart_20 : decode cX3_reckonPart 20 = .ok (.iaload, 1) := by decide +kernel
theorem dX3_reckonPart_21 : decode cX3_reckonPart 21 = .ok (.tableswitch 100 0 5 #[39, 42, 47, 55, 70, 85], 39) := by decide +kernel
theorem dX3_reckonPart_60 : decode cX3_reckonPart 60 = .ok (.iload_n 3, 1) := by decide +kernel
theorem dX3_reckonPart_61 : decode cX3_reckonPart 61 = .ok (.i2l, 1) := by decide +kernel
theorem dX3_reckonPart_62 : decode cX3_reckonPart 62 = .ok (.lreturn, 1) := by decide +kernel
theorem dX3_reckonPart_63 : decode cX3_reckonPart 63 = .ok (.aload_n 2, 1) := by decide +kernel
theorem dX3_reckonPart_64 : decode cX3_reckonPart 64 = .ok (.iload_n 3, 1) := by decide +kernel
theorem dX3_reckonPart_65 : decode cX3_reckonPart 65 = .ok (.iaload, 1) := by decide +kernel
theorem dX3_reckonPart_66 : decode cX3_reckonPart 66 = .ok (.i2l, 1) := by decide +kernel
theorem dX3_reckonPart_67 : decode cX3_reckonPart 67 = .ok (.lreturn, 1) := by decide +kernel
theorem dX3_reckonPart_68 : decode cX3_reckonPart 68 = .ok (.aload_n 0, 1) := by decide +kernel
theorem dX3_reckonPart_69 : decode cX3_reckonPart 69 = .ok (.getfield 24, 3) := by decide +kernel
theorem dX3_reckonPart_72 : decode cX3_reckonPart 72 = .ok (.iload_n 3, 1) := by decide +kernel
theorem dX3_reckonPart_73 : decode cX3_reckonPart 73 = .ok (.laload, 1) := by decide +kernel
theorem dX3_reckonPart_74 : decode cX3_reckonPart 74 = .ok (.lneg, 1) := by decide +kernel
theorem dX3_reckonPart_75 : decode cX3_reckonPart 75 = .ok (.lreturn, 1) := by decide +kernel
theorem dX3_reckonPart_76 : decode cX3_reckonPart 76 = .ok (.aload_n 0, 1) := by decide +kernel
theorem dX3_reckonPart_77 : decode cX3_reckonPart 77 = .ok (.getfield 24, 3) := by decide +kernel
theorem dX3_reckonPart_80 : decode cX3_reckonPart 80 = .ok (.iload_n 3, 1) := by decide +kernel
theorem dX3_reckonPart_81 : decode cX3_reckonPart 81 = .ok (.laload, 1) := by decide +kernel
theorem dX3_reckonPart_82 : decode cX3_reckonPart 82 = .ok (.aload_n 0, 1) := by decide +kernel
theorem dX3_reckonPart_83 : decode cX3_reckonPart 83 = .ok (.getfield 24, 3) := by decide +kernel
theorem dX3_reckonPart_86 : decode cX3_reckonPart 86 = .ok (.iload 4, 2) := by decide +kernel
theorem dX3_reckonPart_88 : decode cX3_reckonPart 88 = .ok (.laload, 1) := by decide +kernel
theorem dX3_reckonPart_89 : decode cX3_reckonPart 89 = .ok (.ladd, 1) := by decide +kernel
theorem dX3_reckonPart_90 : decode cX3_reckonPart 90 = .ok (.lreturn, 1) := by decide +kernel
theorem dX3_reckonPart_91 : decode cX3_reckonPart 91 = .ok (.aload_n 0, 1) := by decide +kernel
theorem dX3_reckonPart_92 : decode cX3_reckonPart 92 = .ok (.getfield 24, 3) := by decide +kernel
theorem dX3_reckonPart_95 : decode cX3_reckonPart 95 = .ok (.iload_n 3, 1) := by decide +kernel
theorem dX3_reckonPart_96 : decode cX3_reckonPart 96 = .ok (.laload, 1) := by decide +kernel
theorem dX3_reckonPart_97 : decode cX3_reckonPart 97 = .ok (.aload_n 0, 1) := by decide +kernel
theorem dX3_reckonPart_98 : decode cX3_reckonPart 98 = .ok (.getfield 24, 3) := by decide +kernel
theorem dX3_reckonPart_101 : decode cX3_reckonPart 101 = .ok (.iload 4, 2) := by decide +kernel
theorem dX3_reckonPart_103 : decode cX3_reckonPart 103 = .ok (.laload, 1) := by decide +kernel
theorem dX3_reckonPart_104 : decode cX3_reckonPart 104 = .ok (.lsub, 1) := by decide +kernel
theorem dX3_reckonPart_105 : decode cX3_reckonPart 105 = .ok (.lreturn, 1) := by decide +kernel
theorem dX3_reckonPart_106 : decode cX3_reckonPart 106 = .ok (.aload_n 0, 1) := by decide +kernel
theorem dX3_reckonPart_107 : decode cX3_reckonPart 107 = .ok (.getfield 24, 3) := by decide +kernel
theorem dX3_reckonPart_110 : decode cX3_reckonPart 110 = .ok (.iload_n 3, 1) := by decide +kernel
theorem dX3_reckonPart_111 : decode cX3_reckonPart 111 = .ok (.laload, 1) := by decide +kernel
theorem dX3_reckonPart_112 : decode cX3_reckonPart 112 = .ok (.aload_n 0, 1) := by decide +kernel
theorem dX3_reckonPart_113 : decode cX3_reckonPart 113 = .ok (.getfield 24, 3) := by decide +kernel
theorem dX3_reckonPart_116 : decode cX3_reckonPart 116 = .ok (.iload 4, 2) := by decide +kernel
theorem dX3_reckonPart_118 : decode cX3_reckonPart 118 = .ok (.laload, 1) := by decide +kernel
theorem dX3_reckonPart_119 : decode cX3_reckonPart 119 = .ok (.lmul, 1) := by decide +kernel
theorem dX3_reckonPart_120 : decode cX3_reckonPart 120 = .ok (.lreturn, 1) := by decide +kernel
theorem dX3_reckonPart_121 : decode cX3_reckonPart 121 = .ok (.aload_n 0, 1) := by decide +kernel
theorem dX3_reckonPart_122 : decode cX3_reckonPart 122 = .ok (.getfield 24, 3) := by decide +kernel
theorem dX3_reckonPart_125 : decode cX3_reckonPart 125 = .ok (.iload_n 3, 1) := by decide +kernel
theorem dX3_reckonPart_126 : decode cX3_reckonPart 126 = .ok (.laload, 1) := by decide +kernel
theorem dX3_reckonPart_127 : decode cX3_reckonPart 127 = .ok (.iload 4, 2) := by decide +kernel
theorem dX3_reckonPart_129 : decode cX3_reckonPart 129 = .ok (.invokestatic 49, 3) := by decide +kernel
theorem dX3_reckonPart_132 : decode cX3_reckonPart 132 = .ok (.lreturn, 1) := by decide +kernel
theorem dX3_power_0 : decode cX3_power 0 = .ok (.lconst 1, 1) := by decide +kernel
theorem dX3_power_1 : decode cX3_power 1 = .ok (.lstore_n 3, 1) := by decide +kernel
theorem dX3_power_2 : decode cX3_power 2 = .ok (.iconst 0, 1) := by decide +kernel
theorem dX3_power_3 : decode cX3_power 3 = .ok (.istore 5, 2) := by decide +kernel
theorem dX3_power_5 : decode cX3_power 5 = .ok (.iload 5, 2) := by decide +kernel
theorem dX3_power_7 : decode cX3_power 7 = .ok (.iload_n 2, 1) := by decide +kernel
theorem dX3_power_8 : decode cX3_power 8 = .ok (.if_icmp .ge 13, 3) := by decide +kernel
theorem dX3_power_11 : decode cX3_power 11 = .ok (.lload_n 3, 1) := by decide +kernel
theorem dX3_power_12 : decode cX3_power 12 = .ok (.lload_n 0, 1) := by decide +kernel
theorem dX3_power_13 : decode cX3_power 13 = .ok (.lmul, 1) := by decide +kernel
theorem dX3_power_14 : decode cX3_power 14 = .ok (.lstore_n 3, 1) := by decide +kernel
theorem dX3_power_15 : decode cX3_power 15 = .ok (.iinc 5 1, 3) := by decide +kernel
theorem dX3_power_18 : decode cX3_power 18 = .ok (.goto (-13), 3) := by decide +kernel
theorem dX3_power_21 : decode cX3_power 21 = .ok (.lload_n 3, 1) := by decide +kernel
theorem dX3_power_22 : decode cX3_power 22 = .ok (.lreturn, 1) := by decide +kernel
set_option maxRecDepth 20000 in
theorem ggX3_powerSlope_X3_power : GoodIn wsX3_powerSlope wsX3_power := goodIn_r _ [7] (by decide +kernel) (by decide +kernel)
set_option maxRecDepth 20000 in
theorem gX3_powerSlope_X3_power : GoodIn wsX3_powerSlope (va_wsS RX3 49 yX3_power wsX3_power) := goodIn_app (goodIn_of _ (by decide +kernel)) ggX3_powerSlope_X3_power
theorem dX3_powerSlope_0 : decode cX3_powerSlope 0 = .ok (.aload_n 0, 1) := by decide +kernel
theorem dX3_powerSlope_1 : decode cX3_powerSlope 1 = .ok (.getfield 18, 3) := by decide +kernel
theorem dX3_powerSlope_4 : decode cX3_powerSlope 4 = .ok (.iload_n 1, 1) := by decide +kernel
theorem dX3_powerSlope_5 : decode cX3_powerSlope 5 = .ok (.iaload, 1) := by decide +kernel
theorem dX3_powerSlope_6 : decode cX3_powerSlope 6 = .ok (.istore_n 2, 1) := by decide +kernel
theorem dX3_powerSlope_7 : decode cX3_powerSlope 7 = .ok (.iload_n 2, 1) := by decide +kernel
theorem dX3_powerSlope_8 : decode cX3_powerSlope 8 = .ok (.ifCond .ne 7, 3) := by decide +kernel
theorem dX3_powerSlope_11 : decode cX3_powerSlope 11 = .ok (.lconst 0, 1) := by decide +kernel
theorem dX3_powerSlope_12 : decode cX3_powerSlope 12 = .ok (.goto 23, 3) := by decide +kernel
theorem dX3_powerSlope_15 : decode cX3_powerSlope 15 = .ok (.iload_n 2, 1) := by decide +kernel
theorem dX3_powerSlope_16 : decode cX3_powerSlope 16 = .ok (.i2l, 1) := by decide +kernel
theorem dX3_powerSlope_17 : decode cX3_powerSlope 17 = .ok (.aload_n 0, 1) := by decide +kernel
theorem dX3_powerSlope_18 : decode cX3_powerSlope 18 = .ok (.getfield 24, 3) := by decide +kernel
theorem dX3_powerSlope_21 : decode cX3_powerSlope 21 = .ok (.aload_n 0, 1) := by decide +kernel
theorem dX3_powerSlope_22 : decode cX3_powerSlope 22 = .ok (.getfield 15, 3) := by decide +kernel
theorem dX3_powerSlope_25 : decode cX3_powerSlope 25 = .ok (.iload_n 1, 1) := by decide +kernel
theorem dX3_powerSlope_26 : decode cX3_powerSlope 26 = .ok (.iaload, 1) := by decide +kernel
theorem dX3_powerSlope_27 : decode cX3_powerSlope 27 = .ok (.laload, 1) := by decide +kernel
theorem dX3_powerSlope_28 : decode cX3_powerSlope 28 = .ok (.iload_n 2, 1) := by decide +kernel
theorem dX3_powerSlope_29 : decode cX3_powerSlope 29 = .ok (.iconst 1, 1) := by decide +kernel
theorem dX3_powerSlope_30 : decode cX3_powerSlope 30 = .ok (.isub, 1) := by decide +kernel
theorem dX3_powerSlope_31 : decode cX3_powerSlope 31 = .ok (.invokestatic 49, 3) := by decide +kernel
theorem dX3_powerSlope_34 : decode cX3_powerSlope 34 = .ok (.lmul, 1) := by decide +kernel
theorem dX3_powerSlope_35 : decode cX3_powerSlope 35 = .ok (.lreturn, 1) := by decide +kernel
set_option maxRecDepth 20000 in
theorem ggX3_slopeForward_X3_reckonBy : GoodIn wsX3_slopeForward wsX3_reckonBy := goodIn_r _ [8, 1, 9, 3, 10, 11, 12, 7, 13, 14, 15, 16, 17, 18, 19, 28, 29, 30, 31, 32, 33, 34, 35, 36] (by decide +kernel) (by decide +kernel)
set_option maxRecDepth 20000 in
theorem gX3_slopeForward_X3_reckonBy : GoodIn wsX3_slopeForward (wsV RX3 53 RX3 yX3_reckonBy wsX3_reckonBy) := goodIn_app (goodIn_of _ (by decide +kernel)) ggX3_slopeForward_X3_reckonBy
set_option maxRecDepth 20000 in
theorem ggX3_slopeForward_X3_slopeOfPart : GoodIn wsX3_slopeForward wsX3_slopeOfPart := goodIn_r _ [23, 14, 15, 16, 2, 9, 24, 25, 26, 7, 27, 17, 18, 19, 28, 29, 30, 31, 32, 33, 34, 35, 36] (by decide +kernel) (by decide +kernel)
set_option maxRecDepth 20000 in
theorem gX3_slopeForward_X3_slopeOfPart : GoodIn wsX3_slopeForward (wsV RX3 57 RX3 yX3_slopeOfPart wsX3_slopeOfPart) := goodIn_app (goodIn_of _ (by decide +kernel)) ggX3_slopeForward_X3_slopeOfPart
theorem dX3_slopeForward_0 : decode cX3_slopeForward 0 = .ok (.aload_n 0, 1) := by decide +kernel
theorem dX3_slopeForward_1 : decode cX3_slopeForward 1 = .ok (.aload_n 1, 1) := by decide +kernel
theorem dX3_slopeForward_2 : decode cX3_slopeForward 2 = .ok (.invokevirtual 53, 3) := by decide +kernel
theorem dX3_slopeForward_5 : decode cX3_slopeForward 5 = .ok (.pop2, 1) := by decide +kernel
theorem dX3_slopeForward_6 : decode cX3_slopeForward 6 = .ok (.iconst 0, 1) := by decide +kernel
theorem dX3_slopeForward_7 : decode cX3_slopeForward 7 = .ok (.istore_n 3, 1) := by decide +kernel
theorem dX3_slopeForward_8 : decode cX3_slopeForward 8 = .ok (.iload_n 3, 1) := by decide +kernel
theorem dX3_slopeForward_9 : decode cX3_slopeForward 9 = .ok (.aload_n 0, 1) := by decide +kernel
theorem dX3_slopeForward_10 : decode cX3_slopeForward 10 = .ok (.getfield 34, 3) := by decide +kernel
theorem dX3_slopeForward_13 : decode cX3_slopeForward 13 = .ok (.if_icmp .ge 21, 3) := by decide +kernel
theorem dX3_slopeForward_16 : decode cX3_slopeForward 16 = .ok (.aload_n 0, 1) := by decide +kernel
theorem dX3_slopeForward_17 : decode cX3_slopeForward 17 = .ok (.getfield 28, 3) := by decide +kernel
theorem dX3_slopeForward_20 : decode cX3_slopeForward 20 = .ok (.iload_n 3, 1) := by decide +kernel
theorem dX3_slopeForward_21 : decode cX3_slopeForward 21 = .ok (.aload_n 0, 1) := by decide +kernel
theorem dX3_slopeForward_22 : decode cX3_slopeForward 22 = .ok (.iload_n 3, 1) := by decide +kernel
theorem dX3_slopeForward_23 : decode cX3_slopeForward 23 = .ok (.iload_n 2, 1) := by decide +kernel
theorem dX3_slopeForward_24 : decode cX3_slopeForward 24 = .ok (.invokevirtual 57, 3) := by decide +kernel
theorem dX3_slopeForward_27 : decode cX3_slopeForward 27 = .ok (.lastore, 1) := by decide +kernel
theorem dX3_slopeForward_28 : decode cX3_slopeForward 28 = .ok (.iinc 3 1, 3) := by decide +kernel
theorem dX3_slopeForward_31 : decode cX3_slopeForward 31 = .ok (.goto (-23), 3) := by decide +kernel
theorem dX3_slopeForward_34 : decode cX3_slopeForward 34 = .ok (.aload_n 0, 1) := by decide +kernel
theorem dX3_slopeForward_35 : decode cX3_slopeForward 35 = .ok (.getfield 28, 3) := by decide +kernel
theorem dX3_slopeForward_38 : decode cX3_slopeForward 38 = .ok (.aload_n 0, 1) := by decide +kernel
theorem dX3_slopeForward_39 : decode cX3_slopeForward 39 = .ok (.getfield 38, 3) := by decide +kernel
theorem dX3_slopeForward_42 : decode cX3_slopeForward 42 = .ok (.laload, 1) := by decide +kernel
theorem dX3_slopeForward_43 : decode cX3_slopeForward 43 = .ok (.lreturn, 1) := by decide +kernel
set_option maxRecDepth 20000 in
theorem ggX3_slopeOfPart_X3_powerSlope : GoodIn wsX3_slopeOfPart wsX3_powerSlope := goodIn_r _ [10, 2, 5, 1, 11, 12, 9, 13, 14, 15, 16, 17, 18, 19, 20, 21, 22] (by decide +kernel) (by decide +kernel)
set_option maxRecDepth 20000 in
theorem gX3_slopeOfPart_X3_powerSlope : GoodIn wsX3_slopeOfPart (wsV RX3 61 RX3 yX3_powerSlope wsX3_powerSlope) := goodIn_app (goodIn_of _ (by decide +kernel)) ggX3_slopeOfPart_X3_powerSlope
theorem dX3_slopeOfPart_0 : decode cX3_slopeOfPart 0 = .ok (.aload_n 0, 1) := by decide +kernel
theorem dX3_slopeOfPart_1 : decode cX3_slopeOfPart 1 = .ok (.getfield 15, 3) := by decide +kernel
theorem dX3_slopeOfPart_4 : decode cX3_slopeOfPart 4 = .ok (.iload_n 1, 1) := by decide +kernel
theorem dX3_slopeOfPart_5 : decode cX3_slopeOfPart 5 = .ok (.iaload, 1) := by decide +kernel
theorem dX3_slopeOfPart_6 : decode cX3_slopeOfPart 6 = .ok (.istore_n 3, 1) := by decide +kernel
theorem dX3_slopeOfPart_7 : decode cX3_slopeOfPart 7 = .ok (.aload_n 0, 1) := by decide +kernel
theorem dX3_slopeOfPart_8 : decode cX3_slopeOfPart 8 = .ok (.getfield 18, 3) := by decide +kernel
theorem dX3_slopeOfPart_11 : decode cX3_slopeOfPart 11 = .ok (.iload_n 1, 1) := by decide +kernel
theorem dX3_slopeOfPart_12 : decode cX3_slopeOfPart 12 = .ok (.iaload, 1) := by decide +kernel
theorem dX3_slopeOfPart_13 : decode cX3_slopeOfPart 13 = .ok (.istore 4, 2) := by decide +kernel
theorem dX3_slopeOfPart_15 : decode cX3_slopeOfPart 15 = .ok (.aload_n 0, 1) := by decide +kernel
theorem dX3_slopeOfPart_16 : decode cX3_slopeOfPart 16 = .ok (.getfield 9, 3) := by decide +kernel
theorem dX3_slopeOfPart_19 : decode cX3_slopeOfPart 19 = .ok (.iload_n 1, 1) := by decide +kernel
theorem dX3_slopeOfPart_20 : decode cX3_slopeOfPart 20 = .ok (.iaload, 1) := by decide +kernel
theorem dX3_slopeOfPart_21 : decode cX3_slopeOfPart 21 = .ok (.tableswitch 120 0 5 #[39, 41, 52, 60, 75, 90], 39) := by decide +kernel
theorem dX3_slopeOfPart_60 : decode cX3_slopeOfPart 60 = .ok (.lconst 0, 1) := by decide +kernel
theorem dX3_slopeOfPart_61 : decode cX3_slopeOfPart 61 = .ok (.lreturn, 1) := by decide +kernel
theorem dX3_slopeOfPart_62 : decode cX3_slopeOfPart 62 = .ok (.iload_n 3, 1) := by decide +kernel
theorem dX3_slopeOfPart_63 : decode cX3_slopeOfPart 63 = .ok (.iload_n 2, 1) := by decide +kernel
theorem dX3_slopeOfPart_64 : decode cX3_slopeOfPart 64 = .ok (.if_icmp .ne 7, 3) := by decide +kernel
theorem dX3_slopeOfPart_67 : decode cX3_slopeOfPart 67 = .ok (.lconst 1, 1) := by decide +kernel
theorem dX3_slopeOfPart_68 : decode cX3_slopeOfPart 68 = .ok (.goto 4, 3) := by decide +kernel
theorem dX3_slopeOfPart_71 : decode cX3_slopeOfPart 71 = .ok (.lconst 0, 1) := by decide +kernel
theorem dX3_slopeOfPart_72 : decode cX3_slopeOfPart 72 = .ok (.lreturn, 1) := by decide +kernel
theorem dX3_slopeOfPart_73 : decode cX3_slopeOfPart 73 = .ok (.aload_n 0, 1) := by decide +kernel
theorem dX3_slopeOfPart_74 : decode cX3_slopeOfPart 74 = .ok (.getfield 28, 3) := by decide +kernel
theorem dX3_slopeOfPart_77 : decode cX3_slopeOfPart 77 = .ok (.iload_n 3, 1) := by decide +kernel
theorem dX3_slopeOfPart_78 : decode cX3_slopeOfPart 78 = .ok (.laload, 1) := by decide +kernel
theorem dX3_slopeOfPart_79 : decode cX3_slopeOfPart 79 = .ok (.lneg, 1) := by decide +kernel
theorem dX3_slopeOfPart_80 : decode cX3_slopeOfPart 80 = .ok (.lreturn, 1) := by decide +kernel
theorem dX3_slopeOfPart_81 : decode cX3_slopeOfPart 81 = .ok (.aload_n 0, 1) := by decide +kernel
theorem dX3_slopeOfPart_82 : decode cX3_slopeOfPart 82 = .ok (.getfield 28, 3) := by decide +kernel
theorem dX3_slopeOfPart_85 : decode cX3_slopeOfPart 85 = .ok (.iload_n 3, 1) := by decide +kernel
theorem dX3_slopeOfPart_86 : decode cX3_slopeOfPart 86 = .ok (.laload, 1) := by decide +kernel
theorem dX3_slopeOfPart_87 : decode cX3_slopeOfPart 87 = .ok (.aload_n 0, 1) := by decide +kernel
theorem dX3_slopeOfPart_88 : decode cX3_slopeOfPart 88 = .ok (.getfield 28, 3) := by decide +kernel
theorem dX3_slopeOfPart_91 : decode cX3_slopeOfPart 91 = .ok (.iload 4, 2) := by decide +kernel
theorem dX3_slopeOfPart_93 : decode cX3_slopeOfPart 93 = .ok (.laload, 1) := by decide +kernel
theorem dX3_slopeOfPart_94 : decode cX3_slopeOfPart 94 = .ok (.ladd, 1) := by decide +kernel
theorem dX3_slopeOfPart_95 : decode cX3_slopeOfPart 95 = .ok (.lreturn, 1) := by decide +kernel
theorem dX3_slopeOfPart_96 : decode cX3_slopeOfPart 96 = .ok (.aload_n 0, 1) := by decide +kernel
theorem dX3_slopeOfPart_97 : decode cX3_slopeOfPart 97 = .ok (.getfield 28, 3) := by decide +kernel
theorem dX3_slopeOfPart_100 : decode cX3_slopeOfPart 100 = .ok (.iload_n 3, 1) := by decide +kernel
theorem dX3_slopeOfPart_101 : decode cX3_slopeOfPart 101 = .ok (.laload, 1) := by decide +kernel
theorem dX3_slopeOfPart_102 : decode cX3_slopeOfPart 102 = .ok (.aload_n 0, 1) := by decide +kernel
theorem dX3_slopeOfPart_103 : decode cX3_slopeOfPart 103 = .ok (.getfield 28, 3) := by decide +kernel
theorem dX3_slopeOfPart_106 : decode cX3_slopeOfPart 106 = .ok (.iload 4, 2) := by decide +kernel
theorem dX3_slopeOfPart_108 : decode cX3_slopeOfPart 108 = .ok (.laload, 1) := by decide +kernel
theorem dX3_slopeOfPart_109 : decode cX3_slopeOfPart 109 = .ok (.lsub, 1) := by decide +kernel
theorem dX3_slopeOfPart_110 : decode cX3_slopeOfPart 110 = .ok (.lreturn, 1) := by decide +kernel
theorem dX3_slopeOfPart_111 : decode cX3_slopeOfPart 111 = .ok (.aload_n 0, 1) := by decide +kernel
theorem dX3_slopeOfPart_112 : decode cX3_slopeOfPart 112 = .ok (.getfield 24, 3) := by decide +kernel
theorem dX3_slopeOfPart_115 : decode cX3_slopeOfPart 115 = .ok (.iload_n 3, 1) := by decide +kernel
theorem dX3_slopeOfPart_116 : decode cX3_slopeOfPart 116 = .ok (.laload, 1) := by decide +kernel
theorem dX3_slopeOfPart_117 : decode cX3_slopeOfPart 117 = .ok (.aload_n 0, 1) := by decide +kernel
theorem dX3_slopeOfPart_118 : decode cX3_slopeOfPart 118 = .ok (.getfield 28, 3) := by decide +kernel
theorem dX3_slopeOfPart_121 : decode cX3_slopeOfPart 121 = .ok (.iload 4, 2) := by decide +kernel
theorem dX3_slopeOfPart_123 : decode cX3_slopeOfPart 123 = .ok (.laload, 1) := by decide +kernel
theorem dX3_slopeOfPart_124 : decode cX3_slopeOfPart 124 = .ok (.lmul, 1) := by decide +kernel
theorem dX3_slopeOfPart_125 : decode cX3_slopeOfPart 125 = .ok (.aload_n 0, 1) := by decide +kernel
theorem dX3_slopeOfPart_126 : decode cX3_slopeOfPart 126 = .ok (.getfield 28, 3) := by decide +kernel
theorem dX3_slopeOfPart_129 : decode cX3_slopeOfPart 129 = .ok (.iload_n 3, 1) := by decide +kernel
theorem dX3_slopeOfPart_130 : decode cX3_slopeOfPart 130 = .ok (.laload, 1) := by decide +kernel
theorem dX3_slopeOfPart_131 : decode cX3_slopeOfPart 131 = .ok (.aload_n 0, 1) := by decide +kernel
theorem dX3_slopeOfPart_132 : decode cX3_slopeOfPart 132 = .ok (.getfield 24, 3) := by decide +kernel
theorem dX3_slopeOfPart_135 : decode cX3_slopeOfPart 135 = .ok (.iload 4, 2) := by decide +kernel
theorem dX3_slopeOfPart_137 : decode cX3_slopeOfPart 137 = .ok (.laload, 1) := by decide +kernel
theorem dX3_slopeOfPart_138 : decode cX3_slopeOfPart 138 = .ok (.lmul, 1) := by decide +kernel
theorem dX3_slopeOfPart_139 : decode cX3_slopeOfPart 139 = .ok (.ladd, 1) := by decide +kernel
theorem dX3_slopeOfPart_140 : decode cX3_slopeOfPart 140 = .ok (.lreturn, 1) := by decide +kernel
theorem dX3_slopeOfPart_141 : decode cX3_slopeOfPart 141 = .ok (.aload_n 0, 1) := by decide +kernel
theorem dX3_slopeOfPart_142 : decode cX3_slopeOfPart 142 = .ok (.iload_n 1, 1) := by decide +kernel
theorem dX3_slopeOfPart_143 : decode cX3_slopeOfPart 143 = .ok (.invokevirtual 61, 3) := by decide +kernel
theorem dX3_slopeOfPart_146 : decode cX3_slopeOfPart 146 = .ok (.aload_n 0, 1) := by decide +kernel
theorem dX3_slopeOfPart_147 : decode cX3_slopeOfPart 147 = .ok (.getfield 28, 3) := by decide +kernel
theorem dX3_slopeOfPart_150 : decode cX3_slopeOfPart 150 = .ok (.iload_n 3, 1) := by decide +kernel
theorem dX3_slopeOfPart_151 : decode cX3_slopeOfPart 151 = .ok (.laload, 1) := by decide +kernel
theorem dX3_slopeOfPart_152 : decode cX3_slopeOfPart 152 = .ok (.lmul, 1) := by decide +kernel
theorem dX3_slopeOfPart_153 : decode cX3_slopeOfPart 153 = .ok (.lreturn, 1) := by decide +kernel
set_option maxRecDepth 20000 in
theorem ggX3_slopesBackward_X3_reckonBy : GoodIn wsX3_slopesBackward wsX3_reckonBy := goodIn_r _ [10, 3, 11, 2, 12, 13, 14, 9, 15, 5, 16, 4, 17, 18, 19, 32, 33, 34, 35, 36, 37, 38, 39, 40] (by decide +kernel) (by decide +kernel)
set_option maxRecDepth 20000 in
theorem gX3_slopesBackward_X3_reckonBy : GoodIn wsX3_slopesBackward (wsV RX3 53 RX3 yX3_reckonBy wsX3_reckonBy) := goodIn_app (goodIn_of _ (by decide +kernel)) ggX3_slopesBackward_X3_reckonBy
set_option maxRecDepth 20000 in
theorem ggX3_slopesBackward_J7_fill_d0a16 : GoodIn wsX3_slopesBackward wsJ7_fill_d0a16 := goodIn_r _ [23] (by decide +kernel) (by decide +kernel)
set_option maxRecDepth 20000 in
theorem gX3_slopesBackward_J7_fill_d0a16 : GoodIn wsX3_slopesBackward (va_wsS RX3 65 yJ7_fill_d0a16 wsJ7_fill_d0a16) := goodIn_app (goodIn_of _ (by decide +kernel)) ggX3_slopesBackward_J7_fill_d0a16
set_option maxRecDepth 20000 in
theorem ggX3_slopesBackward_X3_handDown : GoodIn wsX3_slopesBackward wsX3_handDown := goodIn_r _ [27, 5, 16, 1, 4, 11, 28, 29, 30, 9, 31, 17, 18, 19, 32, 33, 34, 35, 36, 37, 38, 39, 40] (by decide +kernel) (by decide +kernel)
set_option maxRecDepth 20000 in
theorem gX3_slopesBackward_X3_handDown : GoodIn wsX3_slopesBackward (wsV RX3 71 RX3 yX3_handDown wsX3_handDown) := goodIn_app (goodIn_of _ (by decide +kernel)) ggX3_slopesBackward_X3_handDown
theorem dX3_slopesBackward_0 : decode cX3_slopesBackward 0 = .ok (.aload_n 0, 1) := by decide +kernel
theorem dX3_slopesBackward_1 : decode cX3_slopesBackward 1 = .ok (.aload_n 1, 1) := by decide +kernel
theorem dX3_slopesBackward_2 : decode cX3_slopesBackward 2 = .ok (.invokevirtual 53, 3) := by decide +kernel
theorem dX3_slopesBackward_5 : decode cX3_slopesBackward 5 = .ok (.pop2, 1) := by decide +kernel
theorem dX3_slopesBackward_6 : decode cX3_slopesBackward 6 = .ok (.aload_n 2, 1) := by decide +kernel
theorem dX3_slopesBackward_7 : decode cX3_slopesBackward 7 = .ok (.lconst 0, 1) := by decide +kernel
theorem dX3_slopesBackward_8 : decode cX3_slopesBackward 8 = .ok (.invokestatic 65, 3) := by decide +kernel
theorem dX3_slopesBackward_11 : decode cX3_slopesBackward 11 = .ok (.aload_n 0, 1) := by decide +kernel
theorem dX3_slopesBackward_12 : decode cX3_slopesBackward 12 = .ok (.getfield 28, 3) := by decide +kernel
theorem dX3_slopesBackward_15 : decode cX3_slopesBackward 15 = .ok (.lconst 0, 1) := by decide +kernel
theorem dX3_slopesBackward_16 : decode cX3_slopesBackward 16 = .ok (.invokestatic 65, 3) := by decide +kernel
theorem dX3_slopesBackward_19 : decode cX3_slopesBackward 19 = .ok (.aload_n 0, 1) := by decide +kernel
theorem dX3_slopesBackward_20 : decode cX3_slopesBackward 20 = .ok (.getfield 28, 3) := by decide +kernel
theorem dX3_slopesBackward_23 : decode cX3_slopesBackward 23 = .ok (.aload_n 0, 1) := by decide +kernel
theorem dX3_slopesBackward_24 : decode cX3_slopesBackward 24 = .ok (.getfield 38, 3) := by decide +kernel
theorem dX3_slopesBackward_27 : decode cX3_slopesBackward 27 = .ok (.lconst 1, 1) := by decide +kernel
theorem dX3_slopesBackward_28 : decode cX3_slopesBackward 28 = .ok (.lastore, 1) := by decide +kernel
theorem dX3_slopesBackward_29 : decode cX3_slopesBackward 29 = .ok (.aload_n 0, 1) := by decide +kernel
theorem dX3_slopesBackward_30 : decode cX3_slopesBackward 30 = .ok (.getfield 34, 3) := by decide +kernel
theorem dX3_slopesBackward_33 : decode cX3_slopesBackward 33 = .ok (.iconst 1, 1) := by decide +kernel
theorem dX3_slopesBackward_34 : decode cX3_slopesBackward 34 = .ok (.isub, 1) := by decide +kernel
theorem dX3_slopesBackward_35 : decode cX3_slopesBackward 35 = .ok (.istore_n 3, 1) := by decide +kernel
theorem dX3_slopesBackward_36 : decode cX3_slopesBackward 36 = .ok (.iload_n 3, 1) := by decide +kernel
theorem dX3_slopesBackward_37 : decode cX3_slopesBackward 37 = .ok (.ifCond .lt 53, 3) := by decide +kernel
theorem dX3_slopesBackward_40 : decode cX3_slopesBackward 40 = .ok (.aload_n 0, 1) := by decide +kernel
theorem dX3_slopesBackward_41 : decode cX3_slopesBackward 41 = .ok (.getfield 9, 3) := by decide +kernel
theorem dX3_slopesBackward_44 : decode cX3_slopesBackward 44 = .ok (.iload_n 3, 1) := by decide +kernel
theorem dX3_slopesBackward_45 : decode cX3_slopesBackward 45 = .ok (.iaload, 1) := by decide +kernel
theorem dX3_slopesBackward_46 : decode cX3_slopesBackward 46 = .ok (.iconst 1, 1) := by decide +kernel
theorem dX3_slopesBackward_47 : decode cX3_slopesBackward 47 = .ok (.if_icmp .ne 23, 3) := by decide +kernel
theorem dX3_slopesBackward_50 : decode cX3_slopesBackward 50 = .ok (.aload_n 2, 1) := by decide +kernel
theorem dX3_slopesBackward_51 : decode cX3_slopesBackward 51 = .ok (.aload_n 0, 1) := by decide +kernel
theorem dX3_slopesBackward_52 : decode cX3_slopesBackward 52 = .ok (.getfield 15, 3) := by decide +kernel
theorem dX3_slopesBackward_55 : decode cX3_slopesBackward 55 = .ok (.iload_n 3, 1) := by decide +kernel
theorem dX3_slopesBackward_56 : decode cX3_slopesBackward 56 = .ok (.iaload, 1) := by decide +kernel
theorem dX3_slopesBackward_57 : decode cX3_slopesBackward 57 = .ok (.dup2, 1) := by decide +kernel
theorem dX3_slopesBackward_58 : decode cX3_slopesBackward 58 = .ok (.laload, 1) := by decide +kernel
theorem dX3_slopesBackward_59 : decode cX3_slopesBackward 59 = .ok (.aload_n 0, 1) := by decide +kernel
theorem dX3_slopesBackward_60 : decode cX3_slopesBackward 60 = .ok (.getfield 28, 3) := by decide +kernel
theorem dX3_slopesBackward_63 : decode cX3_slopesBackward 63 = .ok (.iload_n 3, 1) := by decide +kernel
theorem dX3_slopesBackward_64 : decode cX3_slopesBackward 64 = .ok (.laload, 1) := by decide +kernel
theorem dX3_slopesBackward_65 : decode cX3_slopesBackward 65 = .ok (.ladd, 1) := by decide +kernel
theorem dX3_slopesBackward_66 : decode cX3_slopesBackward 66 = .ok (.lastore, 1) := by decide +kernel
theorem dX3_slopesBackward_67 : decode cX3_slopesBackward 67 = .ok (.goto 17, 3) := by decide +kernel
theorem dX3_slopesBackward_70 : decode cX3_slopesBackward 70 = .ok (.aload_n 0, 1) := by decide +kernel
theorem dX3_slopesBackward_71 : decode cX3_slopesBackward 71 = .ok (.getfield 9, 3) := by decide +kernel
theorem dX3_slopesBackward_74 : decode cX3_slopesBackward 74 = .ok (.iload_n 3, 1) := by decide +kernel
theorem dX3_slopesBackward_75 : decode cX3_slopesBackward 75 = .ok (.iaload, 1) := by decide +kernel
theorem dX3_slopesBackward_76 : decode cX3_slopesBackward 76 = .ok (.ifCond .eq 8, 3) := by decide +kernel
theorem dX3_slopesBackward_79 : decode cX3_slopesBackward 79 = .ok (.aload_n 0, 1) := by decide +kernel
theorem dX3_slopesBackward_80 : decode cX3_slopesBackward 80 = .ok (.iload_n 3, 1) := by decide +kernel
theorem dX3_slopesBackward_81 : decode cX3_slopesBackward 81 = .ok (.invokevirtual 71, 3) := by decide +kernel
theorem dX3_slopesBackward_84 : decode cX3_slopesBackward 84 = .ok (.iinc 3 (-1), 3) := by decide +kernel
theorem dX3_slopesBackward_87 : decode cX3_slopesBackward 87 = .ok (.goto (-51), 3) := by decide +kernel
theorem dX3_slopesBackward_90 : decode cX3_slopesBackward 90 = .ok (.return_, 1) := by decide +kernel
set_option maxRecDepth 20000 in
theorem ggX3_handDown_X3_powerSlope : GoodIn wsX3_handDown wsX3_powerSlope := goodIn_r _ [10, 2, 5, 1, 11, 12, 9, 13, 14, 15, 16, 17, 18, 19, 20, 21, 22] (by decide +kernel) (by decide +kernel)
set_option maxRecDepth 20000 in
theorem gX3_handDown_X3_powerSlope : GoodIn wsX3_handDown (wsV RX3 61 RX3 yX3_powerSlope wsX3_powerSlope) := goodIn_app (goodIn_of _ (by decide +kernel)) ggX3_handDown_X3_powerSlope
theorem dX3_handDown_0 : decode cX3_handDown 0 = .ok (.aload_n 0, 1) := by decide +kernel
theorem dX3_handDown_1 : decode cX3_handDown 1 = .ok (.getfield 15, 3) := by decide +kernel
theorem dX3_handDown_4 : decode cX3_handDown 4 = .ok (.iload_n 1, 1) := by decide +kernel
theorem dX3_handDown_5 : decode cX3_handDown 5 = .ok (.iaload, 1) := by decide +kernel
theorem dX3_handDown_6 : decode cX3_handDown 6 = .ok (.istore_n 2, 1) := by decide +kernel
theorem dX3_handDown_7 : decode cX3_handDown 7 = .ok (.aload_n 0, 1) := by decide +kernel
theorem dX3_handDown_8 : decode cX3_handDown 8 = .ok (.getfield 18, 3) := by decide +kernel
theorem dX3_handDown_11 : decode cX3_handDown 11 = .ok (.iload_n 1, 1) := by decide +kernel
theorem dX3_handDown_12 : decode cX3_handDown 12 = .ok (.iaload, 1) := by decide +kernel
theorem dX3_handDown_13 : decode cX3_handDown 13 = .ok (.istore_n 3, 1) := by decide +kernel
theorem dX3_handDown_14 : decode cX3_handDown 14 = .ok (.aload_n 0, 1) := by decide +kernel
theorem dX3_handDown_15 : decode cX3_handDown 15 = .ok (.getfield 28, 3) := by decide +kernel
theorem dX3_handDown_18 : decode cX3_handDown 18 = .ok (.iload_n 1, 1) := by decide +kernel
theorem dX3_handDown_19 : decode cX3_handDown 19 = .ok (.laload, 1) := by decide +kernel
theorem dX3_handDown_20 : decode cX3_handDown 20 = .ok (.lstore 4, 2) := by decide +kernel
theorem dX3_handDown_22 : decode cX3_handDown 22 = .ok (.aload_n 0, 1) := by decide +kernel
theorem dX3_handDown_23 : decode cX3_handDown 23 = .ok (.getfield 9, 3) := by decide +kernel
theorem dX3_handDown_26 : decode cX3_handDown 26 = .ok (.iload_n 1, 1) := by decide +kernel
theorem dX3_handDown_27 : decode cX3_handDown 27 = .ok (.iaload, 1) := by decide +kernel
theorem dX3_handDown_28 : decode cX3_handDown 28 = .ok (.tableswitch 135 2 5 #[32, 46, 71, 96], 32) := by decide +kernel
theorem dX3_handDown_60 : decode cX3_handDown 60 = .ok (.aload_n 0, 1) := by decide +kernel
theorem dX3_handDown_61 : decode cX3_handDown 61 = .ok (.getfield 28, 3) := by decide +kernel
theorem dX3_handDown_64 : decode cX3_handDown 64 = .ok (.iload_n 2, 1) := by decide +kernel
theorem dX3_handDown_65 : decode cX3_handDown 65 = .ok (.dup2, 1) := by decide +kernel
theorem dX3_handDown_66 : decode cX3_handDown 66 = .ok (.laload, 1) := by decide +kernel
theorem dX3_handDown_67 : decode cX3_handDown 67 = .ok (.lload 4, 2) := by decide +kernel
theorem dX3_handDown_69 : decode cX3_handDown 69 = .ok (.lsub, 1) := by decide +kernel
theorem dX3_handDown_70 : decode cX3_handDown 70 = .ok (.lastore, 1) := by decide +kernel
theorem dX3_handDown_71 : decode cX3_handDown 71 = .ok (.goto 109, 3) := by decide +kernel
theorem dX3_handDown_74 : decode cX3_handDown 74 = .ok (.aload_n 0, 1) := by decide +kernel
theorem dX3_handDown_75 : decode cX3_handDown 75 = .ok (.getfield 28, 3) := by decide +kernel
theorem dX3_handDown_78 : decode cX3_handDown 78 = .ok (.iload_n 2, 1) := by decide +kernel
theorem dX3_handDown_79 : decode cX3_handDown 79 = .ok (.dup2, 1) := by decide +kernel
theorem dX3_handDown_80 : decode cX3_handDown 80 = .ok (.laload, 1) := by decide +kernel
theorem dX3_handDown_81 : decode cX3_handDown 81 = .ok (.lload 4, 2) := by decide +kernel
theorem dX3_handDown_83 : decode cX3_handDown 83 = .ok (.ladd, 1) := by decide +kernel
theorem dX3_handDown_84 : decode cX3_handDown 84 = .ok (.lastore, 1) := by decide +kernel
theorem dX3_handDown_85 : decode cX3_handDown 85 = .ok (.aload_n 0, 1) := by decide +kernel
theorem dX3_handDown_86 : decode cX3_handDown 86 = .ok (.getfield 28, 3) := by decide +kernel
theorem dX3_handDown_89 : decode cX3_handDown 89 = .ok (.iload_n 3, 1) := by decide +kernel
theorem dX3_handDown_90 : decode cX3_handDown 90 = .ok (.dup2, 1) := by decide +kernel
theorem dX3_handDown_91 : decode cX3_handDown 91 = .ok (.laload, 1) := by decide +kernel
theorem dX3_handDown_92 : decode cX3_handDown 92 = .ok (.lload 4, 2) := by decide +kernel
theorem dX3_handDown_94 : decode cX3_handDown 94 = .ok (.ladd, 1) := by decide +kernel
theorem dX3_handDown_95 : decode cX3_handDown 95 = .ok (.lastore, 1) := by decide +kernel
theorem dX3_handDown_96 : decode cX3_handDown 96 = .ok (.goto 84, 3) := by decide +kernel
theorem dX3_handDown_99 : decode cX3_handDown 99 = .ok (.aload_n 0, 1) := by decide +kernel
theorem dX3_handDown_100 : decode cX3_handDown 100 = .ok (.getfield 28, 3) := by decide +kernel
theorem dX3_handDown_103 : decode cX3_handDown 103 = .ok (.iload_n 2, 1) := by decide +kernel
theorem dX3_handDown_104 : decode cX3_handDown 104 = .ok (.dup2, 1) := by decide +kernel
theorem dX3_handDown_105 : decode cX3_handDown 105 = .ok (.laload, 1) := by decide +kernel
theorem dX3_handDown_106 : decode cX3_handDown 106 = .ok (.lload 4, 2) := by decide +kernel
theorem dX3_handDown_108 : decode cX3_handDown 108 = .ok (.ladd, 1) := by decide +kernel
theorem dX3_handDown_109 : decode cX3_handDown 109 = .ok (.lastore, 1) := by decide +kernel
theorem dX3_handDown_110 : decode cX3_handDown 110 = .ok (.aload_n 0, 1) := by decide +kernel
theorem dX3_handDown_111 : decode cX3_handDown 111 = .ok (.getfield 28, 3) := by decide +kernel
theorem dX3_handDown_114 : decode cX3_handDown 114 = .ok (.iload_n 3, 1) := by decide +kernel
theorem dX3_handDown_115 : decode cX3_handDown 115 = .ok (.dup2, 1) := by decide +kernel
theorem dX3_handDown_116 : decode cX3_handDown 116 = .ok (.laload, 1) := by decide +kernel
theorem dX3_handDown_117 : decode cX3_handDown 117 = .ok (.lload 4, 2) := by decide +kernel
theorem dX3_handDown_119 : decode cX3_handDown 119 = .ok (.lsub, 1) := by decide +kernel
theorem dX3_handDown_120 : decode cX3_handDown 120 = .ok (.lastore, 1) := by decide +kernel
theorem dX3_handDown_121 : decode cX3_handDown 121 = .ok (.goto 59, 3) := by decide +kernel
theorem dX3_handDown_124 : decode cX3_handDown 124 = .ok (.aload_n 0, 1) := by decide +kernel
theorem dX3_handDown_125 : decode cX3_handDown 125 = .ok (.getfield 28, 3) := by decide +kernel
theorem dX3_handDown_128 : decode cX3_handDown 128 = .ok (.iload_n 2, 1) := by decide +kernel
theorem dX3_handDown_129 : decode cX3_handDown 129 = .ok (.dup2, 1) := by decide +kernel
theorem dX3_handDown_130 : decode cX3_handDown 130 = .ok (.laload, 1) := by decide +kernel
theorem dX3_handDown_131 : decode cX3_handDown 131 = .ok (.lload 4, 2) := by decide +kernel
theorem dX3_handDown_133 : decode cX3_handDown 133 = .ok (.aload_n 0, 1) := by decide +kernel
theorem dX3_handDown_134 : decode cX3_handDown 134 = .ok (.getfield 24, 3) := by decide +kernel
theorem dX3_handDown_137 : decode cX3_handDown 137 = .ok (.iload_n 3, 1) := by decide +kernel
theorem dX3_handDown_138 : decode cX3_handDown 138 = .ok (.laload, 1) := by decide +kernel
theorem dX3_handDown_139 : decode cX3_handDown 139 = .ok (.lmul, 1) := by decide +kernel
theorem dX3_handDown_140 : decode cX3_handDown 140 = .ok (.ladd, 1) := by decide +kernel
theorem dX3_handDown_141 : decode cX3_handDown 141 = .ok (.lastore, 1) := by decide +kernel
theorem dX3_handDown_142 : decode cX3_handDown 142 = .ok (.aload_n 0, 1) := by decide +kernel
theorem dX3_handDown_143 : decode cX3_handDown 143 = .ok (.getfield 28, 3) := by decide +kernel
theorem dX3_handDown_146 : decode cX3_handDown 146 = .ok (.iload_n 3, 1) := by decide +kernel
theorem dX3_handDown_147 : decode cX3_handDown 147 = .ok (.dup2, 1) := by decide +kernel
theorem dX3_handDown_148 : decode cX3_handDown 148 = .ok (.laload, 1) := by decide +kernel
theorem dX3_handDown_149 : decode cX3_handDown 149 = .ok (.lload 4, 2) := by decide +kernel
theorem dX3_handDown_151 : decode cX3_handDown 151 = .ok (.aload_n 0, 1) := by decide +kernel
theorem dX3_handDown_152 : decode cX3_handDown 152 = .ok (.getfield 24, 3) := by decide +kernel
theorem dX3_handDown_155 : decode cX3_handDown 155 = .ok (.iload_n 2, 1) := by decide +kernel
theorem dX3_handDown_156 : decode cX3_handDown 156 = .ok (.laload, 1) := by decide +kernel
theorem dX3_handDown_157 : decode cX3_handDown 157 = .ok (.lmul, 1) := by decide +kernel
theorem dX3_handDown_158 : decode cX3_handDown 158 = .ok (.ladd, 1) := by decide +kernel
theorem dX3_handDown_159 : decode cX3_handDown 159 = .ok (.lastore, 1) := by decide +kernel
theorem dX3_handDown_160 : decode cX3_handDown 160 = .ok (.goto 20, 3) := by decide +kernel
theorem dX3_handDown_163 : decode cX3_handDown 163 = .ok (.aload_n 0, 1) := by decide +kernel
theorem dX3_handDown_164 : decode cX3_handDown 164 = .ok (.getfield 28, 3) := by decide +kernel
theorem dX3_handDown_167 : decode cX3_handDown 167 = .ok (.iload_n 2, 1) := by decide +kernel
theorem dX3_handDown_168 : decode cX3_handDown 168 = .ok (.dup2, 1) := by decide +kernel
theorem dX3_handDown_169 : decode cX3_handDown 169 = .ok (.laload, 1) := by decide +kernel
theorem dX3_handDown_170 : decode cX3_handDown 170 = .ok (.lload 4, 2) := by decide +kernel
theorem dX3_handDown_172 : decode cX3_handDown 172 = .ok (.aload_n 0, 1) := by decide +kernel
theorem dX3_handDown_173 : decode cX3_handDown 173 = .ok (.iload_n 1, 1) := by decide +kernel
theorem dX3_handDown_174 : decode cX3_handDown 174 = .ok (.invokevirtual 61, 3) := by decide +kernel
theorem dX3_handDown_177 : decode cX3_handDown 177 = .ok (.lmul, 1) := by decide +kernel
theorem dX3_handDown_178 : decode cX3_handDown 178 = .ok (.ladd, 1) := by decide +kernel
theorem dX3_handDown_179 : decode cX3_handDown 179 = .ok (.lastore, 1) := by decide +kernel
theorem dX3_handDown_180 : decode cX3_handDown 180 = .ok (.return_, 1) := by decide +kernel
set_option maxRecDepth 20000 in
theorem ggX3_exponentBy_X3_exponentOfPart : GoodIn wsX3_exponentBy wsX3_exponentOfPart := goodIn_r _ [8, 9, 10, 11, 2, 12, 13, 14, 15, 16, 17, 18, 19, 20] (by decide +kernel) (by decide +kernel)
set_option maxRecDepth 20000 in
theorem gX3_exponentBy_X3_exponentOfPart : GoodIn wsX3_exponentBy (wsV RX3 75 RX3 yX3_exponentOfPart wsX3_exponentOfPart) := goodIn_app (goodIn_of _ (by decide +kernel)) ggX3_exponentBy_X3_exponentOfPart
theorem dX3_exponentBy_0 : decode cX3_exponentBy 0 = .ok (.iconst 0, 1) := by decide +kernel
theorem dX3_exponentBy_1 : decode cX3_exponentBy 1 = .ok (.istore_n 2, 1) := by decide +kernel
theorem dX3_exponentBy_2 : decode cX3_exponentBy 2 = .ok (.iload_n 2, 1) := by decide +kernel
theorem dX3_exponentBy_3 : decode cX3_exponentBy 3 = .ok (.aload_n 0, 1) := by decide +kernel
theorem dX3_exponentBy_4 : decode cX3_exponentBy 4 = .ok (.getfield 34, 3) := by decide +kernel
theorem dX3_exponentBy_7 : decode cX3_exponentBy 7 = .ok (.if_icmp .ge 21, 3) := by decide +kernel
theorem dX3_exponentBy_10 : decode cX3_exponentBy 10 = .ok (.aload_n 0, 1) := by decide +kernel
theorem dX3_exponentBy_11 : decode cX3_exponentBy 11 = .ok (.getfield 31, 3) := by decide +kernel
theorem dX3_exponentBy_14 : decode cX3_exponentBy 14 = .ok (.iload_n 2, 1) := by decide +kernel
theorem dX3_exponentBy_15 : decode cX3_exponentBy 15 = .ok (.aload_n 0, 1) := by decide +kernel
theorem dX3_exponentBy_16 : decode cX3_exponentBy 16 = .ok (.iload_n 2, 1) := by decide +kernel
theorem dX3_exponentBy_17 : decode cX3_exponentBy 17 = .ok (.aload_n 1, 1) := by decide +kernel
theorem dX3_exponentBy_18 : decode cX3_exponentBy 18 = .ok (.invokevirtual 75, 3) := by decide +kernel
theorem dX3_exponentBy_21 : decode cX3_exponentBy 21 = .ok (.iastore, 1) := by decide +kernel
theorem dX3_exponentBy_22 : decode cX3_exponentBy 22 = .ok (.iinc 2 1, 3) := by decide +kernel
theorem dX3_exponentBy_25 : decode cX3_exponentBy 25 = .ok (.goto (-23), 3) := by decide +kernel
theorem dX3_exponentBy_28 : decode cX3_exponentBy 28 = .ok (.aload_n 0, 1) := by decide +kernel
theorem dX3_exponentBy_29 : decode cX3_exponentBy 29 = .ok (.getfield 31, 3) := by decide +kernel
theorem dX3_exponentBy_32 : decode cX3_exponentBy 32 = .ok (.aload_n 0, 1) := by decide +kernel
theorem dX3_exponentBy_33 : decode cX3_exponentBy 33 = .ok (.getfield 38, 3) := by decide +kernel
theorem dX3_exponentBy_36 : decode cX3_exponentBy 36 = .ok (.iaload, 1) := by decide +kernel
theorem dX3_exponentBy_37 : decode cX3_exponentBy 37 = .ok (.ireturn, 1) := by decide +kernel
theorem dX3_exponentOfPart_0 : decode cX3_exponentOfPart 0 = .ok (.aload_n 0, 1) := by decide +kernel
theorem dX3_exponentOfPart_1 : decode cX3_exponentOfPart 1 = .ok (.getfield 15, 3) := by decide +kernel
theorem dX3_exponentOfPart_4 : decode cX3_exponentOfPart 4 = .ok (.iload_n 1, 1) := by decide +kernel
theorem dX3_exponentOfPart_5 : decode cX3_exponentOfPart 5 = .ok (.iaload, 1) := by decide +kernel
theorem dX3_exponentOfPart_6 : decode cX3_exponentOfPart 6 = .ok (.istore_n 3, 1) := by decide +kernel
theorem dX3_exponentOfPart_7 : decode cX3_exponentOfPart 7 = .ok (.aload_n 0, 1) := by decide +kernel
theorem dX3_exponentOfPart_8 : decode cX3_exponentOfPart 8 = .ok (.getfield 18, 3) := by decide +kernel
theorem dX3_exponentOfPart_11 : decode cX3_exponentOfPart 11 = .ok (.iload_n 1, 1) := by decide +kernel
theorem dX3_exponentOfPart_12 : decode cX3_exponentOfPart 12 = .ok (.iaload, 1) := by decide +kernel
theorem dX3_exponentOfPart_13 : decode cX3_exponentOfPart 13 = .ok (.istore 4, 2) := by decide +kernel
theorem dX3_exponentOfPart_15 : decode cX3_exponentOfPart 15 = .ok (.aload_n 0, 1) := by decide +kernel
theorem dX3_exponentOfPart_16 : decode cX3_exponentOfPart 16 = .ok (.getfield 9, 3) := by decide +kernel
theorem dX3_exponentOfPart_19 : decode cX3_exponentOfPart 19 = .ok (.iload_n 1, 1) := by decide +kernel
theorem dX3_exponentOfPart_20 : decode cX3_exponentOfPart 20 = .ok (.iaload, 1) := by decide +kernel
theorem dX3_exponentOfPart_21 : decode cX3_exponentOfPart 21 = .ok (.tableswitch 74 0 6 #[43, 45, 74, 74, 74, 49, 64], 43) := by decide +kernel
theorem dX3_exponentOfPart_64 : decode cX3_exponentOfPart 64 = .ok (.iconst 0, 1) := by decide +kernel
theorem dX3_exponentOfPart_65 : decode cX3_exponentOfPart 65 = .ok (.ireturn, 1) := by decide +kernel
theorem dX3_exponentOfPart_66 : decode cX3_exponentOfPart 66 = .ok (.aload_n 2, 1) := by decide +kernel
theorem dX3_exponentOfPart_67 : decode cX3_exponentOfPart 67 = .ok (.iload_n 3, 1) := by decide +kernel
theorem dX3_exponentOfPart_68 : decode cX3_exponentOfPart 68 = .ok (.iaload, 1) := by decide +kernel
theorem dX3_exponentOfPart_69 : decode cX3_exponentOfPart 69 = .ok (.ireturn, 1) := by decide +kernel
theorem dX3_exponentOfPart_70 : decode cX3_exponentOfPart 70 = .ok (.aload_n 0, 1) := by decide +kernel
theorem dX3_exponentOfPart_71 : decode cX3_exponentOfPart 71 = .ok (.getfield 31, 3) := by decide +kernel
theorem dX3_exponentOfPart_74 : decode cX3_exponentOfPart 74 = .ok (.iload_n 3, 1) := by decide +kernel
theorem dX3_exponentOfPart_75 : decode cX3_exponentOfPart 75 = .ok (.iaload, 1) := by decide +kernel
theorem dX3_exponentOfPart_76 : decode cX3_exponentOfPart 76 = .ok (.aload_n 0, 1) := by decide +kernel
theorem dX3_exponentOfPart_77 : decode cX3_exponentOfPart 77 = .ok (.getfield 31, 3) := by decide +kernel
theorem dX3_exponentOfPart_80 : decode cX3_exponentOfPart 80 = .ok (.iload 4, 2) := by decide +kernel
theorem dX3_exponentOfPart_82 : decode cX3_exponentOfPart 82 = .ok (.iaload, 1) := by decide +kernel
theorem dX3_exponentOfPart_83 : decode cX3_exponentOfPart 83 = .ok (.iadd, 1) := by decide +kernel
theorem dX3_exponentOfPart_84 : decode cX3_exponentOfPart 84 = .ok (.ireturn, 1) := by decide +kernel
theorem dX3_exponentOfPart_85 : decode cX3_exponentOfPart 85 = .ok (.aload_n 0, 1) := by decide +kernel
theorem dX3_exponentOfPart_86 : decode cX3_exponentOfPart 86 = .ok (.getfield 31, 3) := by decide +kernel
theorem dX3_exponentOfPart_89 : decode cX3_exponentOfPart 89 = .ok (.iload_n 3, 1) := by decide +kernel
theorem dX3_exponentOfPart_90 : decode cX3_exponentOfPart 90 = .ok (.iaload, 1) := by decide +kernel
theorem dX3_exponentOfPart_91 : decode cX3_exponentOfPart 91 = .ok (.iload 4, 2) := by decide +kernel
theorem dX3_exponentOfPart_93 : decode cX3_exponentOfPart 93 = .ok (.imul, 1) := by decide +kernel
theorem dX3_exponentOfPart_94 : decode cX3_exponentOfPart 94 = .ok (.ireturn, 1) := by decide +kernel
theorem dX3_exponentOfPart_95 : decode cX3_exponentOfPart 95 = .ok (.aload_n 0, 1) := by decide +kernel
theorem dX3_exponentOfPart_96 : decode cX3_exponentOfPart 96 = .ok (.getfield 31, 3) := by decide +kernel
theorem dX3_exponentOfPart_99 : decode cX3_exponentOfPart 99 = .ok (.iload_n 3, 1) := by decide +kernel
theorem dX3_exponentOfPart_100 : decode cX3_exponentOfPart 100 = .ok (.iaload, 1) := by decide +kernel
theorem dX3_exponentOfPart_101 : decode cX3_exponentOfPart 101 = .ok (.ireturn, 1) := by decide +kernel
set_option maxRecDepth 20000 in
theorem ggX3_findDisagreement_X3_exponentBy : GoodIn wsX3_findDisagreement wsX3_exponentBy := goodIn_r _ [12, 13, 14, 15, 16, 17, 18, 11, 19, 20, 21, 22, 28, 29, 30, 31, 32, 33, 34, 35, 36] (by decide +kernel) (by decide +kernel)
set_option maxRecDepth 20000 in
theorem gX3_findDisagreement_X3_exponentBy : GoodIn wsX3_findDisagreement (wsV RX3 79 RX3 yX3_exponentBy wsX3_exponentBy) := goodIn_app (goodIn_of _ (by decide +kernel)) ggX3_findDisagreement_X3_exponentBy
set_option maxRecDepth 20000 in
theorem ggX3_findDisagreement_X3_findUnevenSides : GoodIn wsX3_findDisagreement wsX3_findUnevenSides := goodIn_r _ [26, 13, 22, 14, 20, 21, 27, 28, 29, 30, 31, 32, 33, 34, 35, 36] (by decide +kernel) (by decide +kernel)
set_option maxRecDepth 20000 in
theorem gX3_findDisagreement_X3_findUnevenSides : GoodIn wsX3_findDisagreement (wsV RX3 83 RX3 yX3_findUnevenSides wsX3_findUnevenSides) := goodIn_app (goodIn_of _ (by decide +kernel)) ggX3_findDisagreement_X3_findUnevenSides
theorem dX3_findDisagreement_0 : decode cX3_findDisagreement 0 = .ok (.aload_n 0, 1) := by decide +kernel
theorem dX3_findDisagreement_1 : decode cX3_findDisagreement 1 = .ok (.aload_n 1, 1) := by decide +kernel
theorem dX3_findDisagreement_2 : decode cX3_findDisagreement 2 = .ok (.invokevirtual 79, 3) := by decide +kernel
theorem dX3_findDisagreement_5 : decode cX3_findDisagreement 5 = .ok (.pop, 1) := by decide +kernel
theorem dX3_findDisagreement_6 : decode cX3_findDisagreement 6 = .ok (.aload_n 0, 1) := by decide +kernel
theorem dX3_findDisagreement_7 : decode cX3_findDisagreement 7 = .ok (.invokevirtual 83, 3) := by decide +kernel
theorem dX3_findDisagreement_10 : decode cX3_findDisagreement 10 = .ok (.istore_n 3, 1) := by decide +kernel
theorem dX3_findDisagreement_11 : decode cX3_findDisagreement 11 = .ok (.aload_n 0, 1) := by decide +kernel
theorem dX3_findDisagreement_12 : decode cX3_findDisagreement 12 = .ok (.aload_n 2, 1) := by decide +kernel
theorem dX3_findDisagreement_13 : decode cX3_findDisagreement 13 = .ok (.invokevirtual 79, 3) := by decide +kernel
theorem dX3_findDisagreement_16 : decode cX3_findDisagreement 16 = .ok (.pop, 1) := by decide +kernel
theorem dX3_findDisagreement_17 : decode cX3_findDisagreement 17 = .ok (.aload_n 0, 1) := by decide +kernel
theorem dX3_findDisagreement_18 : decode cX3_findDisagreement 18 = .ok (.invokevirtual 83, 3) := by decide +kernel
theorem dX3_findDisagreement_21 : decode cX3_findDisagreement 21 = .ok (.istore 4, 2) := by decide +kernel
theorem dX3_findDisagreement_23 : decode cX3_findDisagreement 23 = .ok (.iload_n 3, 1) := by decide +kernel
theorem dX3_findDisagreement_24 : decode cX3_findDisagreement 24 = .ok (.iconst (-1), 1) := by decide +kernel
theorem dX3_findDisagreement_25 : decode cX3_findDisagreement 25 = .ok (.if_icmp .eq 9, 3) := by decide +kernel
theorem dX3_findDisagreement_28 : decode cX3_findDisagreement 28 = .ok (.iload 4, 2) := by decide +kernel
theorem dX3_findDisagreement_30 : decode cX3_findDisagreement 30 = .ok (.iconst (-1), 1) := by decide +kernel
theorem dX3_findDisagreement_31 : decode cX3_findDisagreement 31 = .ok (.if_icmp .ne 10, 3) := by decide +kernel
theorem dX3_findDisagreement_34 : decode cX3_findDisagreement 34 = .ok (.iload_n 3, 1) := by decide +kernel
theorem dX3_findDisagreement_35 : decode cX3_findDisagreement 35 = .ok (.iload 4, 2) := by decide +kernel
theorem dX3_findDisagreement_37 : decode cX3_findDisagreement 37 = .ok (.invokestatic 87, 3) := by decide +kernel
theorem dX3_findDisagreement_40 : decode cX3_findDisagreement 40 = .ok (.ireturn, 1) := by decide +kernel
theorem dX3_findDisagreement_41 : decode cX3_findDisagreement 41 = .ok (.iload_n 3, 1) := by decide +kernel
theorem dX3_findDisagreement_42 : decode cX3_findDisagreement 42 = .ok (.iload 4, 2) := by decide +kernel
theorem dX3_findDisagreement_44 : decode cX3_findDisagreement 44 = .ok (.invokestatic 93, 3) := by decide +kernel
theorem dX3_findDisagreement_47 : decode cX3_findDisagreement 47 = .ok (.ireturn, 1) := by decide +kernel
theorem dX3_findUnevenSides_0 : decode cX3_findUnevenSides 0 = .ok (.iconst (-1), 1) := by decide +kernel
theorem dX3_findUnevenSides_1 : decode cX3_findUnevenSides 1 = .ok (.istore_n 1, 1) := by decide +kernel
theorem dX3_findUnevenSides_2 : decode cX3_findUnevenSides 2 = .ok (.iconst 0, 1) := by decide +kernel
theorem dX3_findUnevenSides_3 : decode cX3_findUnevenSides 3 = .ok (.istore_n 2, 1) := by decide +kernel
theorem dX3_findUnevenSides_4 : decode cX3_findUnevenSides 4 = .ok (.iload_n 2, 1) := by decide +kernel
theorem dX3_findUnevenSides_5 : decode cX3_findUnevenSides 5 = .ok (.aload_n 0, 1) := by decide +kernel
theorem dX3_findUnevenSides_6 : decode cX3_findUnevenSides 6 = .ok (.getfield 34, 3) := by decide +kernel
theorem dX3_findUnevenSides_9 : decode cX3_findUnevenSides 9 = .ok (.if_icmp .ge 86, 3) := by decide +kernel
theorem dX3_findUnevenSides_12 : decode cX3_findUnevenSides 12 = .ok (.aload_n 0, 1) := by decide +kernel
theorem dX3_findUnevenSides_13 : decode cX3_findUnevenSides 13 = .ok (.getfield 9, 3) := by decide +kernel
theorem dX3_findUnevenSides_16 : decode cX3_findUnevenSides 16 = .ok (.iload_n 2, 1) := by decide +kernel
theorem dX3_findUnevenSides_17 : decode cX3_findUnevenSides 17 = .ok (.iaload, 1) := by decide +kernel
theorem dX3_findUnevenSides_18 : decode cX3_findUnevenSides 18 = .ok (.iconst 3, 1) := by decide +kernel
theorem dX3_findUnevenSides_19 : decode cX3_findUnevenSides 19 = .ok (.if_icmp .eq 13, 3) := by decide +kernel
theorem dX3_findUnevenSides_22 : decode cX3_findUnevenSides 22 = .ok (.aload_n 0, 1) := by decide +kernel
theorem dX3_findUnevenSides_23 : decode cX3_findUnevenSides 23 = .ok (.getfield 9, 3) := by decide +kernel
theorem dX3_findUnevenSides_26 : decode cX3_findUnevenSides 26 = .ok (.iload_n 2, 1) := by decide +kernel
theorem dX3_findUnevenSides_27 : decode cX3_findUnevenSides 27 = .ok (.iaload, 1) := by decide +kernel
theorem dX3_findUnevenSides_28 : decode cX3_findUnevenSides 28 = .ok (.iconst 4, 1) := by decide +kernel
theorem dX3_findUnevenSides_29 : decode cX3_findUnevenSides 29 = .ok (.if_icmp .ne 32, 3) := by decide +kernel
theorem dX3_findUnevenSides_32 : decode cX3_findUnevenSides 32 = .ok (.aload_n 0, 1) := by decide +kernel
theorem dX3_findUnevenSides_33 : decode cX3_findUnevenSides 33 = .ok (.getfield 31, 3) := by decide +kernel
theorem dX3_findUnevenSides_36 : decode cX3_findUnevenSides 36 = .ok (.aload_n 0, 1) := by decide +kernel
theorem dX3_findUnevenSides_37 : decode cX3_findUnevenSides 37 = .ok (.getfield 15, 3) := by decide +kernel
theorem dX3_findUnevenSides_40 : decode cX3_findUnevenSides 40 = .ok (.iload_n 2, 1) := by decide +kernel
theorem dX3_findUnevenSides_41 : decode cX3_findUnevenSides 41 = .ok (.iaload, 1) := by decide +kernel
theorem dX3_findUnevenSides_42 : decode cX3_findUnevenSides 42 = .ok (.iaload, 1) := by decide +kernel
theorem dX3_findUnevenSides_43 : decode cX3_findUnevenSides 43 = .ok (.aload_n 0, 1) := by decide +kernel
theorem dX3_findUnevenSides_44 : decode cX3_findUnevenSides 44 = .ok (.getfield 31, 3) := by decide +kernel
theorem dX3_findUnevenSides_47 : decode cX3_findUnevenSides 47 = .ok (.aload_n 0, 1) := by decide +kernel
theorem dX3_findUnevenSides_48 : decode cX3_findUnevenSides 48 = .ok (.getfield 18, 3) := by decide +kernel
theorem dX3_findUnevenSides_51 : decode cX3_findUnevenSides 51 = .ok (.iload_n 2, 1) := by decide +kernel
theorem dX3_findUnevenSides_52 : decode cX3_findUnevenSides 52 = .ok (.iaload, 1) := by decide +kernel
theorem dX3_findUnevenSides_53 : decode cX3_findUnevenSides 53 = .ok (.iaload, 1) := by decide +kernel
theorem dX3_findUnevenSides_54 : decode cX3_findUnevenSides 54 = .ok (.if_icmp .eq 7, 3) := by decide +kernel
theorem dX3_findUnevenSides_57 : decode cX3_findUnevenSides 57 = .ok (.iconst 1, 1) := by decide +kernel
theorem dX3_findUnevenSides_58 : decode cX3_findUnevenSides 58 = .ok (.goto 4, 3) := by decide +kernel
theorem dX3_findUnevenSides_61 : decode cX3_findUnevenSides 61 = .ok (.iconst 0, 1) := by decide +kernel
theorem dX3_findUnevenSides_62 : decode cX3_findUnevenSides 62 = .ok (.istore_n 3, 1) := by decide +kernel
theorem dX3_findUnevenSides_63 : decode cX3_findUnevenSides 63 = .ok (.iload_n 3, 1) := by decide +kernel
theorem dX3_findUnevenSides_64 : decode cX3_findUnevenSides 64 = .ok (.ifCond .eq 25, 3) := by decide +kernel
theorem dX3_findUnevenSides_67 : decode cX3_findUnevenSides 67 = .ok (.iload_n 1, 1) := by decide +kernel
theorem dX3_findUnevenSides_68 : decode cX3_findUnevenSides 68 = .ok (.iconst (-1), 1) := by decide +kernel
theorem dX3_findUnevenSides_69 : decode cX3_findUnevenSides 69 = .ok (.if_icmp .eq 13, 3) := by decide +kernel
theorem dX3_findUnevenSides_72 : decode cX3_findUnevenSides 72 = .ok (.aload_n 0, 1) := by decide +kernel
theorem dX3_findUnevenSides_73 : decode cX3_findUnevenSides 73 = .ok (.getfield 21, 3) := by decide +kernel
theorem dX3_findUnevenSides_76 : decode cX3_findUnevenSides 76 = .ok (.iload_n 2, 1) := by decide +kernel
theorem dX3_findUnevenSides_77 : decode cX3_findUnevenSides 77 = .ok (.iaload, 1) := by decide +kernel
theorem dX3_findUnevenSides_78 : decode cX3_findUnevenSides 78 = .ok (.iload_n 1, 1) := by decide +kernel
theorem dX3_findUnevenSides_79 : decode cX3_findUnevenSides 79 = .ok (.if_icmp .ge 10, 3) := by decide +kernel
theorem dX3_findUnevenSides_82 : decode cX3_findUnevenSides 82 = .ok (.aload_n 0, 1) := by decide +kernel
theorem dX3_findUnevenSides_83 : decode cX3_findUnevenSides 83 = .ok (.getfield 21, 3) := by decide +kernel
theorem dX3_findUnevenSides_86 : decode cX3_findUnevenSides 86 = .ok (.iload_n 2, 1) := by decide +kernel
theorem dX3_findUnevenSides_87 : decode cX3_findUnevenSides 87 = .ok (.iaload, 1) := by decide +kernel
theorem dX3_findUnevenSides_88 : decode cX3_findUnevenSides 88 = .ok (.istore_n 1, 1) := by decide +kernel
theorem dX3_findUnevenSides_89 : decode cX3_findUnevenSides 89 = .ok (.iinc 2 1, 3) := by decide +kernel
theorem dX3_findUnevenSides_92 : decode cX3_findUnevenSides 92 = .ok (.goto (-88), 3) := by decide +kernel
theorem dX3_findUnevenSides_95 : decode cX3_findUnevenSides 95 = .ok (.iload_n 1, 1) := by decide +kernel
theorem dX3_findUnevenSides_96 : decode cX3_findUnevenSides 96 = .ok (.ireturn, 1) := by decide +kernel
theorem dX4_init_0 : decode cX4_init 0 = .ok (.aload_n 0, 1) := by decide +kernel
theorem dX4_init_1 : decode cX4_init 1 = .ok (.invokespecial 3, 3) := by decide +kernel
theorem dX4_init_4 : decode cX4_init 4 = .ok (.aload_n 0, 1) := by decide +kernel
theorem dX4_init_5 : decode cX4_init 5 = .ok (.bipush 6, 2) := by decide +kernel
theorem dX4_init_7 : decode cX4_init 7 = .ok (.newarray .int, 2) := by decide +kernel
theorem dX4_init_9 : decode cX4_init 9 = .ok (.putfield 9, 3) := by decide +kernel
theorem dX4_init_12 : decode cX4_init 12 = .ok (.aload_n 0, 1) := by decide +kernel
theorem dX4_init_13 : decode cX4_init 13 = .ok (.bipush 6, 2) := by decide +kernel
theorem dX4_init_15 : decode cX4_init 15 = .ok (.newarray .int, 2) := by decide +kernel
theorem dX4_init_17 : decode cX4_init 17 = .ok (.putfield 15, 3) := by decide +kernel
theorem dX4_init_20 : decode cX4_init 20 = .ok (.aload_n 0, 1) := by decide +kernel
theorem dX4_init_21 : decode cX4_init 21 = .ok (.bipush 6, 2) := by decide +kernel
theorem dX4_init_23 : decode cX4_init 23 = .ok (.newarray .int, 2) := by decide +kernel
theorem dX4_init_25 : decode cX4_init 25 = .ok (.putfield 18, 3) := by decide +kernel
theorem dX4_init_28 : decode cX4_init 28 = .ok (.aload_n 0, 1) := by decide +kernel
theorem dX4_init_29 : decode cX4_init 29 = .ok (.bipush 6, 2) := by decide +kernel
theorem dX4_init_31 : decode cX4_init 31 = .ok (.newarray .int, 2) := by decide +kernel
theorem dX4_init_33 : decode cX4_init 33 = .ok (.putfield 21, 3) := by decide +kernel
theorem dX4_init_36 : decode cX4_init 36 = .ok (.aload_n 0, 1) := by decide +kernel
theorem dX4_init_37 : decode cX4_init 37 = .ok (.bipush 6, 2) := by decide +kernel
theorem dX4_init_39 : decode cX4_init 39 = .ok (.newarray .int, 2) := by decide +kernel
theorem dX4_init_41 : decode cX4_init 41 = .ok (.putfield 24, 3) := by decide +kernel
theorem dX4_init_44 : decode cX4_init 44 = .ok (.aload_n 0, 1) := by decide +kernel
theorem dX4_init_45 : decode cX4_init 45 = .ok (.bipush 6, 2) := by decide +kernel
theorem dX4_init_47 : decode cX4_init 47 = .ok (.bipush 8, 2) := by decide +kernel
theorem dX4_init_49 : decode cX4_init 49 = .ok (.multianewarray 27 2, 4) := by decide +kernel
theorem dX4_init_53 : decode cX4_init 53 = .ok (.putfield 29, 3) := by decide +kernel
theorem dX4_init_56 : decode cX4_init 56 = .ok (.aload_n 0, 1) := by decide +kernel
theorem dX4_init_57 : decode cX4_init 57 = .ok (.bipush 6, 2) := by decide +kernel
theorem dX4_init_59 : decode cX4_init 59 = .ok (.newarray .int, 2) := by decide +kernel
theorem dX4_init_61 : decode cX4_init 61 = .ok (.putfield 32, 3) := by decide +kernel
theorem dX4_init_64 : decode cX4_init 64 = .ok (.aload_n 0, 1) := by decide +kernel
theorem dX4_init_65 : decode cX4_init 65 = .ok (.bipush 6, 2) := by decide +kernel
theorem dX4_init_67 : decode cX4_init 67 = .ok (.newarray .int, 2) := by decide +kernel
theorem dX4_init_69 : decode cX4_init 69 = .ok (.putfield 35, 3) := by decide +kernel
theorem dX4_init_72 : decode cX4_init 72 = .ok (.aload_n 0, 1) := by decide +kernel
theorem dX4_init_73 : decode cX4_init 73 = .ok (.bipush 6, 2) := by decide +kernel
theorem dX4_init_75 : decode cX4_init 75 = .ok (.bipush 6, 2) := by decide +kernel
theorem dX4_init_77 : decode cX4_init 77 = .ok (.multianewarray 27 2, 4) := by decide +kernel
theorem dX4_init_81 : decode cX4_init 81 = .ok (.putfield 38, 3) := by decide +kernel
theorem dX4_init_84 : decode cX4_init 84 = .ok (.return_, 1) := by decide +kernel
set_option maxRecDepth 20000 in
theorem ggX4_tellShape_X4_shapeVariance : GoodIn wsX4_tellShape wsX4_shapeVariance := goodIn_r _ [9] (by decide +kernel) (by decide +kernel)
set_option maxRecDepth 20000 in
theorem gX4_tellShape_X4_shapeVariance : GoodIn wsX4_tellShape (va_wsS RX4 41 yX4_shapeVariance wsX4_shapeVariance) := goodIn_app (goodIn_of _ (by decide +kernel)) ggX4_tellShape_X4_shapeVariance
theorem dX4_tellShape_0 : decode cX4_tellShape 0 = .ok (.aload_n 0, 1) := by decide +kernel
theorem dX4_tellShape_1 : decode cX4_tellShape 1 = .ok (.getfield 9, 3) := by decide +kernel
theorem dX4_tellShape_4 : decode cX4_tellShape 4 = .ok (.iload_n 1, 1) := by decide +kernel
theorem dX4_tellShape_5 : decode cX4_tellShape 5 = .ok (.iload_n 2, 1) := by decide +kernel
theorem dX4_tellShape_6 : decode cX4_tellShape 6 = .ok (.iastore, 1) := by decide +kernel
theorem dX4_tellShape_7 : decode cX4_tellShape 7 = .ok (.aload_n 0, 1) := by decide +kernel
theorem dX4_tellShape_8 : decode cX4_tellShape 8 = .ok (.getfield 18, 3) := by decide +kernel
theorem dX4_tellShape_11 : decode cX4_tellShape 11 = .ok (.iload_n 1, 1) := by decide +kernel
theorem dX4_tellShape_12 : decode cX4_tellShape 12 = .ok (.iload_n 3, 1) := by decide +kernel
theorem dX4_tellShape_13 : decode cX4_tellShape 13 = .ok (.iastore, 1) := by decide +kernel
theorem dX4_tellShape_14 : decode cX4_tellShape 14 = .ok (.aload_n 0, 1) := by decide +kernel
theorem dX4_tellShape_15 : decode cX4_tellShape 15 = .ok (.getfield 21, 3) := by decide +kernel
theorem dX4_tellShape_18 : decode cX4_tellShape 18 = .ok (.iload_n 1, 1) := by decide +kernel
theorem dX4_tellShape_19 : decode cX4_tellShape 19 = .ok (.iload 4, 2) := by decide +kernel
theorem dX4_tellShape_21 : decode cX4_tellShape 21 = .ok (.iastore, 1) := by decide +kernel
theorem dX4_tellShape_22 : decode cX4_tellShape 22 = .ok (.aload_n 0, 1) := by decide +kernel
theorem dX4_tellShape_23 : decode cX4_tellShape 23 = .ok (.getfield 24, 3) := by decide +kernel
theorem dX4_tellShape_26 : decode cX4_tellShape 26 = .ok (.iload_n 1, 1) := by decide +kernel
theorem dX4_tellShape_27 : decode cX4_tellShape 27 = .ok (.iconst 0, 1) := by decide +kernel
theorem dX4_tellShape_28 : decode cX4_tellShape 28 = .ok (.iastore, 1) := by decide +kernel
theorem dX4_tellShape_29 : decode cX4_tellShape 29 = .ok (.aload_n 0, 1) := by decide +kernel
theorem dX4_tellShape_30 : decode cX4_tellShape 30 = .ok (.getfield 15, 3) := by decide +kernel
theorem dX4_tellShape_33 : decode cX4_tellShape 33 = .ok (.iload_n 1, 1) := by decide +kernel
theorem dX4_tellShape_34 : decode cX4_tellShape 34 = .ok (.iload_n 3, 1) := by decide +kernel
theorem dX4_tellShape_35 : decode cX4_tellShape 35 = .ok (.iload 4, 2) := by decide +kernel
theorem dX4_tellShape_37 : decode cX4_tellShape 37 = .ok (.iload 4, 2) := by decide +kernel
theorem dX4_tellShape_39 : decode cX4_tellShape 39 = .ok (.imul, 1) := by decide +kernel
theorem dX4_tellShape_40 : decode cX4_tellShape 40 = .ok (.invokestatic 41, 3) := by decide +kernel
theorem dX4_tellShape_43 : decode cX4_tellShape 43 = .ok (.iastore, 1) := by decide +kernel
theorem dX4_tellShape_44 : decode cX4_tellShape 44 = .ok (.aload_n 0, 1) := by decide +kernel
theorem dX4_tellShape_45 : decode cX4_tellShape 45 = .ok (.getfield 15, 3) := by decide +kernel
theorem dX4_tellShape_48 : decode cX4_tellShape 48 = .ok (.iload_n 1, 1) := by decide +kernel
theorem dX4_tellShape_49 : decode cX4_tellShape 49 = .ok (.iaload, 1) := by decide +kernel
theorem dX4_tellShape_50 : decode cX4_tellShape 50 = .ok (.ireturn, 1) := by decide +kernel
theorem dX4_shapeVariance_0 : decode cX4_shapeVariance 0 = .ok (.iload_n 0, 1) := by decide +kernel
theorem dX4_shapeVariance_1 : decode cX4_shapeVariance 1 = .ok (.tableswitch 40 1 3 #[27, 31, 36], 27) := by decide +kernel
theorem dX4_shapeVariance_28 : decode cX4_shapeVariance 28 = .ok (.iload_n 1, 1) := by decide +kernel
theorem dX4_shapeVariance_29 : decode cX4_shapeVariance 29 = .ok (.iconst 3, 1) := by decide +kernel
theorem dX4_shapeVariance_30 : decode cX4_shapeVariance 30 = .ok (.idiv, 1) := by decide +kernel
theorem dX4_shapeVariance_31 : decode cX4_shapeVariance 31 = .ok (.ireturn, 1) := by decide +kernel
theorem dX4_shapeVariance_32 : decode cX4_shapeVariance 32 = .ok (.iload_n 1, 1) := by decide +kernel
theorem dX4_shapeVariance_33 : decode cX4_shapeVariance 33 = .ok (.bipush 6, 2) := by decide +kernel
theorem dX4_shapeVariance_35 : decode cX4_shapeVariance 35 = .ok (.idiv, 1) := by decide +kernel
theorem dX4_shapeVariance_36 : decode cX4_shapeVariance 36 = .ok (.ireturn, 1) := by decide +kernel
theorem dX4_shapeVariance_37 : decode cX4_shapeVariance 37 = .ok (.iload_n 1, 1) := by decide +kernel
theorem dX4_shapeVariance_38 : decode cX4_shapeVariance 38 = .ok (.iconst 2, 1) := by decide +kernel
theorem dX4_shapeVariance_39 : decode cX4_shapeVariance 39 = .ok (.idiv, 1) := by decide +kernel
theorem dX4_shapeVariance_40 : decode cX4_shapeVariance 40 = .ok (.ireturn, 1) := by decide +kernel
theorem dX4_shapeVariance_41 : decode cX4_shapeVariance 41 = .ok (.iconst 0, 1) := by decide +kernel
theorem dX4_shapeVariance_42 : decode cX4_shapeVariance 42 = .ok (.ireturn, 1) := by decide +kernel
set_option maxRecDepth 20000 in
theorem ggX4_addReading_X4_reckonReadings : GoodIn wsX4_addReading wsX4_reckonReadings := goodIn_r _ [9, 1, 2, 10, 4, 11, 12, 13, 14, 15, 16, 17, 18, 19, 20, 21, 22, 23] (by decide +kernel) (by decide +kernel)
set_option maxRecDepth 20000 in
theorem gX4_addReading_X4_reckonReadings : GoodIn wsX4_addReading (wsV RX4 45 RX4 yX4_reckonReadings wsX4_reckonReadings) := goodIn_app (goodIn_of _ (by decide +kernel)) ggX4_addReading_X4_reckonReadings
theorem dX4_addReading_0 : decode cX4_addReading 0 = .ok (.aload_n 0, 1) := by decide +kernel
theorem dX4_addReading_1 : decode cX4_addReading 1 = .ok (.getfield 24, 3) := by decide +kernel
theorem dX4_addReading_4 : decode cX4_addReading 4 = .ok (.iload_n 1, 1) := by decide +kernel
theorem dX4_addReading_5 : decode cX4_addReading 5 = .ok (.iaload, 1) := by decide +kernel
theorem dX4_addReading_6 : decode cX4_addReading 6 = .ok (.istore_n 3, 1) := by decide +kernel
theorem dX4_addReading_7 : decode cX4_addReading 7 = .ok (.iload_n 3, 1) := by decide +kernel
theorem dX4_addReading_8 : decode cX4_addReading 8 = .ok (.bipush 8, 2) := by decide +kernel
theorem dX4_addReading_10 : decode cX4_addReading 10 = .ok (.if_icmp .ge 21, 3) := by decide +kernel
theorem dX4_addReading_13 : decode cX4_addReading 13 = .ok (.aload_n 0, 1) := by decide +kernel
theorem dX4_addReading_14 : decode cX4_addReading 14 = .ok (.getfield 29, 3) := by decide +kernel
theorem dX4_addReading_17 : decode cX4_addReading 17 = .ok (.iload_n 1, 1) := by decide +kernel
theorem dX4_addReading_18 : decode cX4_addReading 18 = .ok (.aaload, 1) := by decide +kernel
theorem dX4_addReading_19 : decode cX4_addReading 19 = .ok (.iload_n 3, 1) := by decide +kernel
theorem dX4_addReading_20 : decode cX4_addReading 20 = .ok (.iload_n 2, 1) := by decide +kernel
theorem dX4_addReading_21 : decode cX4_addReading 21 = .ok (.iastore, 1) := by decide +kernel
theorem dX4_addReading_22 : decode cX4_addReading 22 = .ok (.aload_n 0, 1) := by decide +kernel
theorem dX4_addReading_23 : decode cX4_addReading 23 = .ok (.getfield 24, 3) := by decide +kernel
theorem dX4_addReading_26 : decode cX4_addReading 26 = .ok (.iload_n 1, 1) := by decide +kernel
theorem dX4_addReading_27 : decode cX4_addReading 27 = .ok (.iload_n 3, 1) := by decide +kernel
theorem dX4_addReading_28 : decode cX4_addReading 28 = .ok (.iconst 1, 1) := by decide +kernel
theorem dX4_addReading_29 : decode cX4_addReading 29 = .ok (.iadd, 1) := by decide +kernel
theorem dX4_addReading_30 : decode cX4_addReading 30 = .ok (.iastore, 1) := by decide +kernel
theorem dX4_addReading_31 : decode cX4_addReading 31 = .ok (.aload_n 0, 1) := by decide +kernel
theorem dX4_addReading_32 : decode cX4_addReading 32 = .ok (.getfield 18, 3) := by decide +kernel
theorem dX4_addReading_35 : decode cX4_addReading 35 = .ok (.iload_n 1, 1) := by decide +kernel
theorem dX4_addReading_36 : decode cX4_addReading 36 = .ok (.iconst 4, 1) := by decide +kernel
theorem dX4_addReading_37 : decode cX4_addReading 37 = .ok (.iastore, 1) := by decide +kernel
theorem dX4_addReading_38 : decode cX4_addReading 38 = .ok (.aload_n 0, 1) := by decide +kernel
theorem dX4_addReading_39 : decode cX4_addReading 39 = .ok (.iload_n 1, 1) := by decide +kernel
theorem dX4_addReading_40 : decode cX4_addReading 40 = .ok (.invokevirtual 45, 3) := by decide +kernel
theorem dX4_addReading_43 : decode cX4_addReading 43 = .ok (.aload_n 0, 1) := by decide +kernel
theorem dX4_addReading_44 : decode cX4_addReading 44 = .ok (.getfield 15, 3) := by decide +kernel
theorem dX4_addReading_47 : decode cX4_addReading 47 = .ok (.iload_n 1, 1) := by decide +kernel
theorem dX4_addReading_48 : decode cX4_addReading 48 = .ok (.iaload, 1) := by decide +kernel
theorem dX4_addReading_49 : decode cX4_addReading 49 = .ok (.ireturn, 1) := by decide +kernel
set_option maxRecDepth 20000 in
theorem ggX4_reckonReadings_J9_floorDiv_7cf53 : GoodIn wsX4_reckonReadings wsJ9_floorDiv_7cf53 := goodIn_r _ [8] (by decide +kernel) (by decide +kernel)
set_option maxRecDepth 20000 in
theorem gX4_reckonReadings_J9_floorDiv_7cf53 : GoodIn wsX4_reckonReadings (va_wsS RX4 49 yJ9_floorDiv_7cf53 wsJ9_floorDiv_7cf53) := goodIn_app (goodIn_of _ (by decide +kernel)) ggX4_reckonReadings_J9_floorDiv_7cf53
theorem dX4_reckonReadings_0 : decode cX4_reckonReadings 0 = .ok (.aload_n 0, 1) := by decide +kernel
theorem dX4_reckonReadings_1 : decode cX4_reckonReadings 1 = .ok (.getfield 24, 3) := by decide +kernel
theorem dX4_reckonReadings_4 : decode cX4_reckonReadings 4 = .ok (.iload_n 1, 1) := by decide +kernel
theorem dX4_reckonReadings_5 : decode cX4_reckonReadings 5 = .ok (.iaload, 1) := by decide +kernel
theorem dX4_reckonReadings_6 : decode cX4_reckonReadings 6 = .ok (.istore_n 2, 1) := by decide +kernel
theorem dX4_reckonReadings_7 : decode cX4_reckonReadings 7 = .ok (.iconst 0, 1) := by decide +kernel
theorem dX4_reckonReadings_8 : decode cX4_reckonReadings 8 = .ok (.istore_n 3, 1) := by decide +kernel
theorem dX4_reckonReadings_9 : decode cX4_reckonReadings 9 = .ok (.iconst 0, 1) := by decide +kernel
theorem dX4_reckonReadings_10 : decode cX4_reckonReadings 10 = .ok (.istore 4, 2) := by decide +kernel
theorem dX4_reckonReadings_12 : decode cX4_reckonReadings 12 = .ok (.iconst 0, 1) := by decide +kernel
theorem dX4_reckonReadings_13 : decode cX4_reckonReadings 13 = .ok (.istore 5, 2) := by decide +kernel
theorem dX4_reckonReadings_15 : decode cX4_reckonReadings 15 = .ok (.iload 5, 2) := by decide +kernel
theorem dX4_reckonReadings_17 : decode cX4_reckonReadings 17 = .ok (.iload_n 2, 1) := by decide +kernel
theorem dX4_reckonReadings_18 : decode cX4_reckonReadings 18 = .ok (.if_icmp .ge 35, 3) := by decide +kernel
theorem dX4_reckonReadings_21 : decode cX4_reckonReadings 21 = .ok (.aload_n 0, 1) := by decide +kernel
theorem dX4_reckonReadings_22 : decode cX4_reckonReadings 22 = .ok (.getfield 29, 3) := by decide +kernel
theorem dX4_reckonReadings_25 : decode cX4_reckonReadings 25 = .ok (.iload_n 1, 1) := by decide +kernel
theorem dX4_reckonReadings_26 : decode cX4_reckonReadings 26 = .ok (.aaload, 1) := by decide +kernel
theorem dX4_reckonReadings_27 : decode cX4_reckonReadings 27 = .ok (.iload 5, 2) := by decide +kernel
theorem dX4_reckonReadings_29 : decode cX4_reckonReadings 29 = .ok (.iaload, 1) := by decide +kernel
theorem dX4_reckonReadings_30 : decode cX4_reckonReadings 30 = .ok (.istore 6, 2) := by decide +kernel
theorem dX4_reckonReadings_32 : decode cX4_reckonReadings 32 = .ok (.iload_n 3, 1) := by decide +kernel
theorem dX4_reckonReadings_33 : decode cX4_reckonReadings 33 = .ok (.iload 6, 2) := by decide +kernel
theorem dX4_reckonReadings_35 : decode cX4_reckonReadings 35 = .ok (.iadd, 1) := by decide +kernel
theorem dX4_reckonReadings_36 : decode cX4_reckonReadings 36 = .ok (.istore_n 3, 1) := by decide +kernel
theorem dX4_reckonReadings_37 : decode cX4_reckonReadings 37 = .ok (.iload 4, 2) := by decide +kernel
theorem dX4_reckonReadings_39 : decode cX4_reckonReadings 39 = .ok (.iload 6, 2) := by decide +kernel
theorem dX4_reckonReadings_41 : decode cX4_reckonReadings 41 = .ok (.iload 6, 2) := by decide +kernel
theorem dX4_reckonReadings_43 : decode cX4_reckonReadings 43 = .ok (.imul, 1) := by decide +kernel
theorem dX4_reckonReadings_44 : decode cX4_reckonReadings 44 = .ok (.iadd, 1) := by decide +kernel
theorem dX4_reckonReadings_45 : decode cX4_reckonReadings 45 = .ok (.istore 4, 2) := by decide +kernel
theorem dX4_reckonReadings_47 : decode cX4_reckonReadings 47 = .ok (.iinc 5 1, 3) := by decide +kernel
theorem dX4_reckonReadings_50 : decode cX4_reckonReadings 50 = .ok (.goto (-35), 3) := by decide +kernel
theorem dX4_reckonReadings_53 : decode cX4_reckonReadings 53 = .ok (.aload_n 0, 1) := by decide +kernel
theorem dX4_reckonReadings_54 : decode cX4_reckonReadings 54 = .ok (.getfield 9, 3) := by decide +kernel
theorem dX4_reckonReadings_57 : decode cX4_reckonReadings 57 = .ok (.iload_n 1, 1) := by decide +kernel
theorem dX4_reckonReadings_58 : decode cX4_reckonReadings 58 = .ok (.iload_n 2, 1) := by decide +kernel
theorem dX4_reckonReadings_59 : decode cX4_reckonReadings 59 = .ok (.ifCond .le 11, 3) := by decide +kernel
theorem dX4_reckonReadings_62 : decode cX4_reckonReadings 62 = .ok (.iload_n 3, 1) := by decide +kernel
theorem dX4_reckonReadings_63 : decode cX4_reckonReadings 63 = .ok (.iload_n 2, 1) := by decide +kernel
theorem dX4_reckonReadings_64 : decode cX4_reckonReadings 64 = .ok (.invokestatic 49, 3) := by decide +kernel
theorem dX4_reckonReadings_67 : decode cX4_reckonReadings 67 = .ok (.goto 4, 3) := by decide +kernel
theorem dX4_reckonReadings_70 : decode cX4_reckonReadings 70 = .ok (.iconst 0, 1) := by decide +kernel
theorem dX4_reckonReadings_71 : decode cX4_reckonReadings 71 = .ok (.iastore, 1) := by decide +kernel
theorem dX4_reckonReadings_72 : decode cX4_reckonReadings 72 = .ok (.aload_n 0, 1) := by decide +kernel
theorem dX4_reckonReadings_73 : decode cX4_reckonReadings 73 = .ok (.getfield 15, 3) := by decide +kernel
theorem dX4_reckonReadings_76 : decode cX4_reckonReadings 76 = .ok (.iload_n 1, 1) := by decide +kernel
theorem dX4_reckonReadings_77 : decode cX4_reckonReadings 77 = .ok (.iload_n 2, 1) := by decide +kernel
theorem dX4_reckonReadings_78 : decode cX4_reckonReadings 78 = .ok (.iconst 1, 1) := by decide +kernel
theorem dX4_reckonReadings_79 : decode cX4_reckonReadings 79 = .ok (.if_icmp .le 22, 3) := by decide +kernel
theorem dX4_reckonReadings_82 : decode cX4_reckonReadings 82 = .ok (.iload_n 2, 1) := by decide +kernel
theorem dX4_reckonReadings_83 : decode cX4_reckonReadings 83 = .ok (.iload 4, 2) := by decide +kernel
theorem dX4_reckonReadings_85 : decode cX4_reckonReadings 85 = .ok (.imul, 1) := by decide +kernel
theorem dX4_reckonReadings_86 : decode cX4_reckonReadings 86 = .ok (.iload_n 3, 1) := by decide +kernel
theorem dX4_reckonReadings_87 : decode cX4_reckonReadings 87 = .ok (.iload_n 3, 1) := by decide +kernel
theorem dX4_reckonReadings_88 : decode cX4_reckonReadings 88 = .ok (.imul, 1) := by decide +kernel
theorem dX4_reckonReadings_89 : decode cX4_reckonReadings 89 = .ok (.isub, 1) := by decide +kernel
theorem dX4_reckonReadings_90 : decode cX4_reckonReadings 90 = .ok (.iload_n 2, 1) := by decide +kernel
theorem dX4_reckonReadings_91 : decode cX4_reckonReadings 91 = .ok (.iload_n 2, 1) := by decide +kernel
theorem dX4_reckonReadings_92 : decode cX4_reckonReadings 92 = .ok (.imul, 1) := by decide +kernel
theorem dX4_reckonReadings_93 : decode cX4_reckonReadings 93 = .ok (.iload_n 2, 1) := by decide +kernel
theorem dX4_reckonReadings_94 : decode cX4_reckonReadings 94 = .ok (.iconst 1, 1) := by decide +kernel
theorem dX4_reckonReadings_95 : decode cX4_reckonReadings 95 = .ok (.isub, 1) := by decide +kernel
theorem dX4_reckonReadings_96 : decode cX4_reckonReadings 96 = .ok (.imul, 1) := by decide +kernel
theorem dX4_reckonReadings_97 : decode cX4_reckonReadings 97 = .ok (.idiv, 1) := by decide +kernel
theorem dX4_reckonReadings_98 : decode cX4_reckonReadings 98 = .ok (.goto 4, 3) := by decide +kernel
theorem dX4_reckonReadings_101 : decode cX4_reckonReadings 101 = .ok (.iconst 0, 1) := by decide +kernel
theorem dX4_reckonReadings_102 : decode cX4_reckonReadings 102 = .ok (.iastore, 1) := by decide +kernel
theorem dX4_reckonReadings_103 : decode cX4_reckonReadings 103 = .ok (.return_, 1) := by decide +kernel
theorem dX4_degreesOf_0 : decode cX4_degreesOf 0 = .ok (.aload_n 0, 1) := by decide +kernel
theorem dX4_degreesOf_1 : decode cX4_degreesOf 1 = .ok (.getfield 24, 3) := by decide +kernel
theorem dX4_degreesOf_4 : decode cX4_degreesOf 4 = .ok (.iload_n 1, 1) := by decide +kernel
theorem dX4_degreesOf_5 : decode cX4_degreesOf 5 = .ok (.iaload, 1) := by decide +kernel
theorem dX4_degreesOf_6 : decode cX4_degreesOf 6 = .ok (.iconst 1, 1) := by decide +kernel
theorem dX4_degreesOf_7 : decode cX4_degreesOf 7 = .ok (.if_icmp .le 14, 3) := by decide +kernel
theorem dX4_degreesOf_10 : decode cX4_degreesOf 10 = .ok (.aload_n 0, 1) := by decide +kernel
theorem dX4_degreesOf_11 : decode cX4_degreesOf 11 = .ok (.getfield 24, 3) := by decide +kernel
theorem dX4_degreesOf_14 : decode cX4_degreesOf 14 = .ok (.iload_n 1, 1) := by decide +kernel
theorem dX4_degreesOf_15 : decode cX4_degreesOf 15 = .ok (.iaload, 1) := by decide +kernel
theorem dX4_degreesOf_16 : decode cX4_degreesOf 16 = .ok (.iconst 1, 1) := by decide +kernel
theorem dX4_degreesOf_17 : decode cX4_degreesOf 17 = .ok (.isub, 1) := by decide +kernel
theorem dX4_degreesOf_18 : decode cX4_degreesOf 18 = .ok (.goto 4, 3) := by decide +kernel
theorem dX4_degreesOf_21 : decode cX4_degreesOf 21 = .ok (.iconst 0, 1) := by decide +kernel
theorem dX4_degreesOf_22 : decode cX4_degreesOf 22 = .ok (.ireturn, 1) := by decide +kernel
theorem dX4_widthOrCount_0 : decode cX4_widthOrCount 0 = .ok (.aload_n 0, 1) := by decide +kernel
theorem dX4_widthOrCount_1 : decode cX4_widthOrCount 1 = .ok (.getfield 18, 3) := by decide +kernel
theorem dX4_widthOrCount_4 : decode cX4_widthOrCount 4 = .ok (.iload_n 1, 1) := by decide +kernel
theorem dX4_widthOrCount_5 : decode cX4_widthOrCount 5 = .ok (.iaload, 1) := by decide +kernel
theorem dX4_widthOrCount_6 : decode cX4_widthOrCount 6 = .ok (.iconst 4, 1) := by decide +kernel
theorem dX4_widthOrCount_7 : decode cX4_widthOrCount 7 = .ok (.if_icmp .ne 12, 3) := by decide +kernel
theorem dX4_widthOrCount_10 : decode cX4_widthOrCount 10 = .ok (.aload_n 0, 1) := by decide +kernel
theorem dX4_widthOrCount_11 : decode cX4_widthOrCount 11 = .ok (.getfield 24, 3) := by decide +kernel
theorem dX4_widthOrCount_14 : decode cX4_widthOrCount 14 = .ok (.iload_n 1, 1) := by decide +kernel
theorem dX4_widthOrCount_15 : decode cX4_widthOrCount 15 = .ok (.iaload, 1) := by decide +kernel
theorem dX4_widthOrCount_16 : decode cX4_widthOrCount 16 = .ok (.goto 9, 3) := by decide +kernel
theorem dX4_widthOrCount_19 : decode cX4_widthOrCount 19 = .ok (.aload_n 0, 1) := by decide +kernel
theorem dX4_widthOrCount_20 : decode cX4_widthOrCount 20 = .ok (.getfield 21, 3) := by decide +kernel
theorem dX4_widthOrCount_23 : decode cX4_widthOrCount 23 = .ok (.iload_n 1, 1) := by decide +kernel
theorem dX4_widthOrCount_24 : decode cX4_widthOrCount 24 = .ok (.iaload, 1) := by decide +kernel
theorem dX4_widthOrCount_25 : decode cX4_widthOrCount 25 = .ok (.ireturn, 1) := by decide +kernel
theorem dX4_tellCovariance_0 : decode cX4_tellCovariance 0 = .ok (.aload_n 0, 1) := by decide +kernel
theorem dX4_tellCovariance_1 : decode cX4_tellCovariance 1 = .ok (.getfield 38, 3) := by decide +kernel
theorem dX4_tellCovariance_4 : decode cX4_tellCovariance 4 = .ok (.iload_n 1, 1) := by decide +kernel
theorem dX4_tellCovariance_5 : decode cX4_tellCovariance 5 = .ok (.aaload, 1) := by decide +kernel
theorem dX4_tellCovariance_6 : decode cX4_tellCovariance 6 = .ok (.iload_n 2, 1) := by decide +kernel
theorem dX4_tellCovariance_7 : decode cX4_tellCovariance 7 = .ok (.iaload, 1) := by decide +kernel
theorem dX4_tellCovariance_8 : decode cX4_tellCovariance 8 = .ok (.istore 4, 2) := by decide +kernel
theorem dX4_tellCovariance_10 : decode cX4_tellCovariance 10 = .ok (.aload_n 0, 1) := by decide +kernel
theorem dX4_tellCovariance_11 : decode cX4_tellCovariance 11 = .ok (.getfield 38, 3) := by decide +kernel
theorem dX4_tellCovariance_14 : decode cX4_tellCovariance 14 = .ok (.iload_n 1, 1) := by decide +kernel
theorem dX4_tellCovariance_15 : decode cX4_tellCovariance 15 = .ok (.aaload, 1) := by decide +kernel
theorem dX4_tellCovariance_16 : decode cX4_tellCovariance 16 = .ok (.iload_n 2, 1) := by decide +kernel
theorem dX4_tellCovariance_17 : decode cX4_tellCovariance 17 = .ok (.iload_n 3, 1) := by decide +kernel
theorem dX4_tellCovariance_18 : decode cX4_tellCovariance 18 = .ok (.iastore, 1) := by decide +kernel
theorem dX4_tellCovariance_19 : decode cX4_tellCovariance 19 = .ok (.aload_n 0, 1) := by decide +kernel
theorem dX4_tellCovariance_20 : decode cX4_tellCovariance 20 = .ok (.getfield 38, 3) := by decide +kernel
theorem dX4_tellCovariance_23 : decode cX4_tellCovariance 23 = .ok (.iload_n 2, 1) := by decide +kernel
theorem dX4_tellCovariance_24 : decode cX4_tellCovariance 24 = .ok (.aaload, 1) := by decide +kernel
theorem dX4_tellCovariance_25 : decode cX4_tellCovariance 25 = .ok (.iload_n 1, 1) := by decide +kernel
theorem dX4_tellCovariance_26 : decode cX4_tellCovariance 26 = .ok (.iload_n 3, 1) := by decide +kernel
theorem dX4_tellCovariance_27 : decode cX4_tellCovariance 27 = .ok (.iastore, 1) := by decide +kernel
theorem dX4_tellCovariance_28 : decode cX4_tellCovariance 28 = .ok (.iload 4, 2) := by decide +kernel
theorem dX4_tellCovariance_30 : decode cX4_tellCovariance 30 = .ok (.ireturn, 1) := by decide +kernel
set_option maxRecDepth 20000 in
theorem ggX4_drawInto_X4_drawOf : GoodIn wsX4_drawInto wsX4_drawOf := goodIn_r _ [5, 6, 7, 8, 9, 10, 11, 12, 13, 14, 15, 16, 17, 18, 19, 20, 21, 22, 23, 24, 25, 26, 27] (by decide +kernel) (by decide +kernel)
set_option maxRecDepth 20000 in
theorem gX4_drawInto_X4_drawOf : GoodIn wsX4_drawInto (wsV RX4 54 RX4 yX4_drawOf wsX4_drawOf) := goodIn_app (goodIn_of _ (by decide +kernel)) ggX4_drawInto_X4_drawOf
theorem dX4_drawInto_0 : decode cX4_drawInto 0 = .ok (.iconst 0, 1) := by decide +kernel
theorem dX4_drawInto_1 : decode cX4_drawInto 1 = .ok (.istore_n 3, 1) := by decide +kernel
theorem dX4_drawInto_2 : decode cX4_drawInto 2 = .ok (.iload_n 3, 1) := by decide +kernel
theorem dX4_drawInto_3 : decode cX4_drawInto 3 = .ok (.bipush 6, 2) := by decide +kernel
theorem dX4_drawInto_5 : decode cX4_drawInto 5 = .ok (.if_icmp .ge 18, 3) := by decide +kernel
theorem dX4_drawInto_8 : decode cX4_drawInto 8 = .ok (.aload_n 1, 1) := by decide +kernel
theorem dX4_drawInto_9 : decode cX4_drawInto 9 = .ok (.iload_n 3, 1) := by decide +kernel
theorem dX4_drawInto_10 : decode cX4_drawInto 10 = .ok (.aload_n 0, 1) := by decide +kernel
theorem dX4_drawInto_11 : decode cX4_drawInto 11 = .ok (.iload_n 3, 1) := by decide +kernel
theorem dX4_drawInto_12 : decode cX4_drawInto 12 = .ok (.aload_n 2, 1) := by decide +kernel
theorem dX4_drawInto_13 : decode cX4_drawInto 13 = .ok (.invokevirtual 54, 3) := by decide +kernel
theorem dX4_drawInto_16 : decode cX4_drawInto 16 = .ok (.iastore, 1) := by decide +kernel
theorem dX4_drawInto_17 : decode cX4_drawInto 17 = .ok (.iinc 3 1, 3) := by decide +kernel
theorem dX4_drawInto_20 : decode cX4_drawInto 20 = .ok (.goto (-18), 3) := by decide +kernel
theorem dX4_drawInto_23 : decode cX4_drawInto 23 = .ok (.return_, 1) := by decide +kernel
set_option maxRecDepth 20000 in
theorem ggX4_drawOf_X1_modulo : GoodIn wsX4_drawOf wsX1_modulo := goodIn_r _ [10, 11, 12, 22] (by decide +kernel) (by decide +kernel)
set_option maxRecDepth 20000 in
theorem gX4_drawOf_X1_modulo : GoodIn wsX4_drawOf (wsV RX4 58 RX1 yX1_modulo wsX1_modulo) := goodIn_app (goodIn_of _ (by decide +kernel)) ggX4_drawOf_X1_modulo
theorem dX4_drawOf_0 : decode cX4_drawOf 0 = .ok (.aload_n 0, 1) := by decide +kernel
theorem dX4_drawOf_1 : decode cX4_drawOf 1 = .ok (.getfield 21, 3) := by decide +kernel
theorem dX4_drawOf_4 : decode cX4_drawOf 4 = .ok (.iload_n 1, 1) := by decide +kernel
theorem dX4_drawOf_5 : decode cX4_drawOf 5 = .ok (.iaload, 1) := by decide +kernel
theorem dX4_drawOf_6 : decode cX4_drawOf 6 = .ok (.istore_n 3, 1) := by decide +kernel
theorem dX4_drawOf_7 : decode cX4_drawOf 7 = .ok (.aload_n 0, 1) := by decide +kernel
theorem dX4_drawOf_8 : decode cX4_drawOf 8 = .ok (.getfield 9, 3) := by decide +kernel
theorem dX4_drawOf_11 : decode cX4_drawOf 11 = .ok (.iload_n 1, 1) := by decide +kernel
theorem dX4_drawOf_12 : decode cX4_drawOf 12 = .ok (.iaload, 1) := by decide +kernel
theorem dX4_drawOf_13 : decode cX4_drawOf 13 = .ok (.iload_n 3, 1) := by decide +kernel
theorem dX4_drawOf_14 : decode cX4_drawOf 14 = .ok (.isub, 1) := by decide +kernel
theorem dX4_drawOf_15 : decode cX4_drawOf 15 = .ok (.istore 4, 2) := by decide +kernel
theorem dX4_drawOf_17 : decode cX4_drawOf 17 = .ok (.aload_n 0, 1) := by decide +kernel
theorem dX4_drawOf_18 : decode cX4_drawOf 18 = .ok (.getfield 18, 3) := by decide +kernel
theorem dX4_drawOf_21 : decode cX4_drawOf 21 = .ok (.iload_n 1, 1) := by decide +kernel
theorem dX4_drawOf_22 : decode cX4_drawOf 22 = .ok (.iaload, 1) := by decide +kernel
theorem dX4_drawOf_23 : decode cX4_drawOf 23 = .ok (.tableswitch 92 1 4 #[29, 42, 61, 74], 29) := by decide +kernel
theorem dX4_drawOf_52 : decode cX4_drawOf 52 = .ok (.iload 4, 2) := by decide +kernel
theorem dX4_drawOf_54 : decode cX4_drawOf 54 = .ok (.aload_n 2, 1) := by decide +kernel
theorem dX4_drawOf_55 : decode cX4_drawOf 55 = .ok (.iconst 2, 1) := by decide +kernel
theorem dX4_drawOf_56 : decode cX4_drawOf 56 = .ok (.iload_n 3, 1) := by decide +kernel
theorem dX4_drawOf_57 : decode cX4_drawOf 57 = .ok (.imul, 1) := by decide +kernel
theorem dX4_drawOf_58 : decode cX4_drawOf 58 = .ok (.iconst 1, 1) := by decide +kernel
theorem dX4_drawOf_59 : decode cX4_drawOf 59 = .ok (.iadd, 1) := by decide +kernel
theorem dX4_drawOf_60 : decode cX4_drawOf 60 = .ok (.invokevirtual 58, 3) := by decide +kernel
theorem dX4_drawOf_63 : decode cX4_drawOf 63 = .ok (.iadd, 1) := by decide +kernel
theorem dX4_drawOf_64 : decode cX4_drawOf 64 = .ok (.ireturn, 1) := by decide +kernel
theorem dX4_drawOf_65 : decode cX4_drawOf 65 = .ok (.iload 4, 2) := by decide +kernel
theorem dX4_drawOf_67 : decode cX4_drawOf 67 = .ok (.aload_n 2, 1) := by decide +kernel
theorem dX4_drawOf_68 : decode cX4_drawOf 68 = .ok (.iload_n 3, 1) := by decide +kernel
theorem dX4_drawOf_69 : decode cX4_drawOf 69 = .ok (.iconst 1, 1) := by decide +kernel
theorem dX4_drawOf_70 : decode cX4_drawOf 70 = .ok (.iadd, 1) := by decide +kernel
theorem dX4_drawOf_71 : decode cX4_drawOf 71 = .ok (.invokevirtual 58, 3) := by decide +kernel
theorem dX4_drawOf_74 : decode cX4_drawOf 74 = .ok (.iadd, 1) := by decide +kernel
theorem dX4_drawOf_75 : decode cX4_drawOf 75 = .ok (.aload_n 2, 1) := by decide +kernel
theorem dX4_drawOf_76 : decode cX4_drawOf 76 = .ok (.iload_n 3, 1) := by decide +kernel
theorem dX4_drawOf_77 : decode cX4_drawOf 77 = .ok (.iconst 1, 1) := by decide +kernel
theorem dX4_drawOf_78 : decode cX4_drawOf 78 = .ok (.iadd, 1) := by decide +kernel
theorem dX4_drawOf_79 : decode cX4_drawOf 79 = .ok (.invokevirtual 58, 3) := by decide +kernel
theorem dX4_drawOf_82 : decode cX4_drawOf 82 = .ok (.iadd, 1) := by decide +kernel
theorem dX4_drawOf_83 : decode cX4_drawOf 83 = .ok (.ireturn, 1) := by decide +kernel
theorem dX4_drawOf_84 : decode cX4_drawOf 84 = .ok (.iload 4, 2) := by decide +kernel
theorem dX4_drawOf_86 : decode cX4_drawOf 86 = .ok (.iconst 2, 1) := by decide +kernel
theorem dX4_drawOf_87 : decode cX4_drawOf 87 = .ok (.iload_n 3, 1) := by decide +kernel
theorem dX4_drawOf_88 : decode cX4_drawOf 88 = .ok (.imul, 1) := by decide +kernel
theorem dX4_drawOf_89 : decode cX4_drawOf 89 = .ok (.aload_n 2, 1) := by decide +kernel
theorem dX4_drawOf_90 : decode cX4_drawOf 90 = .ok (.iconst 2, 1) := by decide +kernel
theorem dX4_drawOf_91 : decode cX4_drawOf 91 = .ok (.invokevirtual 58, 3) := by decide +kernel
theorem dX4_drawOf_94 : decode cX4_drawOf 94 = .ok (.imul, 1) := by decide +kernel
theorem dX4_drawOf_95 : decode cX4_drawOf 95 = .ok (.iadd, 1) := by decide +kernel
theorem dX4_drawOf_96 : decode cX4_drawOf 96 = .ok (.ireturn, 1) := by decide +kernel
theorem dX4_drawOf_97 : decode cX4_drawOf 97 = .ok (.aload_n 0, 1) := by decide +kernel
theorem dX4_drawOf_98 : decode cX4_drawOf 98 = .ok (.getfield 29, 3) := by decide +kernel
theorem dX4_drawOf_101 : decode cX4_drawOf 101 = .ok (.iload_n 1, 1) := by decide +kernel
theorem dX4_drawOf_102 : decode cX4_drawOf 102 = .ok (.aaload, 1) := by decide +kernel
theorem dX4_drawOf_103 : decode cX4_drawOf 103 = .ok (.aload_n 2, 1) := by decide +kernel
theorem dX4_drawOf_104 : decode cX4_drawOf 104 = .ok (.aload_n 0, 1) := by decide +kernel
theorem dX4_drawOf_105 : decode cX4_drawOf 105 = .ok (.getfield 24, 3) := by decide +kernel
theorem dX4_drawOf_108 : decode cX4_drawOf 108 = .ok (.iload_n 1, 1) := by decide +kernel
theorem dX4_drawOf_109 : decode cX4_drawOf 109 = .ok (.iaload, 1) := by decide +kernel
theorem dX4_drawOf_110 : decode cX4_drawOf 110 = .ok (.invokevirtual 58, 3) := by decide +kernel
theorem dX4_drawOf_113 : decode cX4_drawOf 113 = .ok (.iaload, 1) := by decide +kernel
theorem dX4_drawOf_114 : decode cX4_drawOf 114 = .ok (.ireturn, 1) := by decide +kernel
theorem dX4_drawOf_115 : decode cX4_drawOf 115 = .ok (.aload_n 0, 1) := by decide +kernel
theorem dX4_drawOf_116 : decode cX4_drawOf 116 = .ok (.getfield 9, 3) := by decide +kernel
theorem dX4_drawOf_119 : decode cX4_drawOf 119 = .ok (.iload_n 1, 1) := by decide +kernel
theorem dX4_drawOf_120 : decode cX4_drawOf 120 = .ok (.iaload, 1) := by decide +kernel
theorem dX4_drawOf_121 : decode cX4_drawOf 121 = .ok (.ireturn, 1) := by decide +kernel
theorem dX5_init_0 : decode cX5_init 0 = .ok (.aload_n 0, 1) := by decide +kernel
theorem dX5_init_1 : decode cX5_init 1 = .ok (.invokespecial 3, 3) := by decide +kernel
theorem dX5_init_4 : decode cX5_init 4 = .ok (.aload_n 0, 1) := by decide +kernel
theorem dX5_init_5 : decode cX5_init 5 = .ok (.bipush 60, 2) := by decide +kernel
theorem dX5_init_7 : decode cX5_init 7 = .ok (.newarray .char, 2) := by decide +kernel
theorem dX5_init_9 : decode cX5_init 9 = .ok (.putfield 9, 3) := by decide +kernel
theorem dX5_init_12 : decode cX5_init 12 = .ok (.aload_n 0, 1) := by decide +kernel
theorem dX5_init_13 : decode cX5_init 13 = .ok (.iconst 0, 1) := by decide +kernel
theorem dX5_init_14 : decode cX5_init 14 = .ok (.putfield 15, 3) := by decide +kernel
theorem dX5_init_17 : decode cX5_init 17 = .ok (.aload_n 0, 1) := by decide +kernel
theorem dX5_init_18 : decode cX5_init 18 = .ok (.iconst 0, 1) := by decide +kernel
theorem dX5_init_19 : decode cX5_init 19 = .ok (.putfield 19, 3) := by decide +kernel
theorem dX5_init_22 : decode cX5_init 22 = .ok (.return_, 1) := by decide +kernel
set_option maxRecDepth 20000 in
theorem ggX5_countSigns_X5_signIn : GoodIn wsX5_countSigns wsX5_signIn := goodIn_r _ [4] (by decide +kernel) (by decide +kernel)
set_option maxRecDepth 20000 in
theorem gX5_countSigns_X5_signIn : GoodIn wsX5_countSigns (va_wsS RX5 22 yX5_signIn wsX5_signIn) := goodIn_app (goodIn_of _ (by decide +kernel)) ggX5_countSigns_X5_signIn
theorem dX5_countSigns_0 : decode cX5_countSigns 0 = .ok (.iconst 0, 1) := by decide +kernel
theorem dX5_countSigns_1 : decode cX5_countSigns 1 = .ok (.istore_n 2, 1) := by decide +kernel
theorem dX5_countSigns_2 : decode cX5_countSigns 2 = .ok (.iload_n 2, 1) := by decide +kernel
theorem dX5_countSigns_3 : decode cX5_countSigns 3 = .ok (.bipush 8, 2) := by decide +kernel
theorem dX5_countSigns_5 : decode cX5_countSigns 5 = .ok (.if_icmp .ge 37, 3) := by decide +kernel
theorem dX5_countSigns_8 : decode cX5_countSigns 8 = .ok (.lload_n 0, 1) := by decide +kernel
theorem dX5_countSigns_9 : decode cX5_countSigns 9 = .ok (.iload_n 2, 1) := by decide +kernel
theorem dX5_countSigns_10 : decode cX5_countSigns 10 = .ok (.invokestatic 22, 3) := by decide +kernel
theorem dX5_countSigns_13 : decode cX5_countSigns 13 = .ok (.ifCond .eq 29, 3) := by decide +kernel
theorem dX5_countSigns_16 : decode cX5_countSigns 16 = .ok (.lload_n 0, 1) := by decide +kernel
theorem dX5_countSigns_17 : decode cX5_countSigns 17 = .ok (.iload_n 2, 1) := by decide +kernel
theorem dX5_countSigns_18 : decode cX5_countSigns 18 = .ok (.invokestatic 22, 3) := by decide +kernel
theorem dX5_countSigns_21 : decode cX5_countSigns 21 = .ok (.istore_n 3, 1) := by decide +kernel
theorem dX5_countSigns_22 : decode cX5_countSigns 22 = .ok (.iload_n 3, 1) := by decide +kernel
theorem dX5_countSigns_23 : decode cX5_countSigns 23 = .ok (.bipush 32, 2) := by decide +kernel
theorem dX5_countSigns_25 : decode cX5_countSigns 25 = .ok (.if_icmp .lt 9, 3) := by decide +kernel
theorem dX5_countSigns_28 : decode cX5_countSigns 28 = .ok (.iload_n 3, 1) := by decide +kernel
theorem dX5_countSigns_29 : decode cX5_countSigns 29 = .ok (.bipush 126, 2) := by decide +kernel
theorem dX5_countSigns_31 : decode cX5_countSigns 31 = .ok (.if_icmp .le 5, 3) := by decide +kernel
theorem dX5_countSigns_34 : decode cX5_countSigns 34 = .ok (.iconst (-1), 1) := by decide +kernel
theorem dX5_countSigns_35 : decode cX5_countSigns 35 = .ok (.ireturn, 1) := by decide +kernel
theorem dX5_countSigns_36 : decode cX5_countSigns 36 = .ok (.iinc 2 1, 3) := by decide +kernel
theorem dX5_countSigns_39 : decode cX5_countSigns 39 = .ok (.goto (-37), 3) := by decide +kernel
theorem dX5_countSigns_42 : decode cX5_countSigns 42 = .ok (.iload_n 2, 1) := by decide +kernel
theorem dX5_countSigns_43 : decode cX5_countSigns 43 = .ok (.bipush 8, 2) := by decide +kernel
theorem dX5_countSigns_45 : decode cX5_countSigns 45 = .ok (.if_icmp .eq 14, 3) := by decide +kernel
theorem dX5_countSigns_48 : decode cX5_countSigns 48 = .ok (.lload_n 0, 1) := by decide +kernel
theorem dX5_countSigns_49 : decode cX5_countSigns 49 = .ok (.bipush 8, 2) := by decide +kernel
theorem dX5_countSigns_51 : decode cX5_countSigns 51 = .ok (.iload_n 2, 1) := by decide +kernel
theorem dX5_countSigns_52 : decode cX5_countSigns 52 = .ok (.imul, 1) := by decide +kernel
theorem dX5_countSigns_53 : decode cX5_countSigns 53 = .ok (.lushr, 1) := by decide +kernel
theorem dX5_countSigns_54 : decode cX5_countSigns 54 = .ok (.lconst 0, 1) := by decide +kernel
theorem dX5_countSigns_55 : decode cX5_countSigns 55 = .ok (.lcmp, 1) := by decide +kernel
theorem dX5_countSigns_56 : decode cX5_countSigns 56 = .ok (.ifCond .ne 7, 3) := by decide +kernel
theorem dX5_countSigns_59 : decode cX5_countSigns 59 = .ok (.iconst 1, 1) := by decide +kernel
theorem dX5_countSigns_60 : decode cX5_countSigns 60 = .ok (.goto 4, 3) := by decide +kernel
theorem dX5_countSigns_63 : decode cX5_countSigns 63 = .ok (.iconst 0, 1) := by decide +kernel
theorem dX5_countSigns_64 : decode cX5_countSigns 64 = .ok (.istore_n 3, 1) := by decide +kernel
theorem dX5_countSigns_65 : decode cX5_countSigns 65 = .ok (.iload_n 3, 1) := by decide +kernel
theorem dX5_countSigns_66 : decode cX5_countSigns 66 = .ok (.ifCond .eq 7, 3) := by decide +kernel
theorem dX5_countSigns_69 : decode cX5_countSigns 69 = .ok (.iload_n 2, 1) := by decide +kernel
theorem dX5_countSigns_70 : decode cX5_countSigns 70 = .ok (.goto 4, 3) := by decide +kernel
theorem dX5_countSigns_73 : decode cX5_countSigns 73 = .ok (.iconst (-1), 1) := by decide +kernel
theorem dX5_countSigns_74 : decode cX5_countSigns 74 = .ok (.ireturn, 1) := by decide +kernel
theorem dX5_signIn_0 : decode cX5_signIn 0 = .ok (.lload_n 0, 1) := by decide +kernel
theorem dX5_signIn_1 : decode cX5_signIn 1 = .ok (.bipush 8, 2) := by decide +kernel
theorem dX5_signIn_3 : decode cX5_signIn 3 = .ok (.iload_n 2, 1) := by decide +kernel
theorem dX5_signIn_4 : decode cX5_signIn 4 = .ok (.imul, 1) := by decide +kernel
theorem dX5_signIn_5 : decode cX5_signIn 5 = .ok (.lushr, 1) := by decide +kernel
theorem dX5_signIn_6 : decode cX5_signIn 6 = .ok (.l2i, 1) := by decide +kernel
theorem dX5_signIn_7 : decode cX5_signIn 7 = .ok (.sipush 255, 3) := by decide +kernel
theorem dX5_signIn_10 : decode cX5_signIn 10 = .ok (.iand, 1) := by decide +kernel
theorem dX5_signIn_11 : decode cX5_signIn 11 = .ok (.ireturn, 1) := by decide +kernel
set_option maxRecDepth 20000 in
theorem ggX5_append_X5_signIn : GoodIn wsX5_append wsX5_signIn := goodIn_r _ [6] (by decide +kernel) (by decide +kernel)
set_option maxRecDepth 20000 in
theorem gX5_append_X5_signIn : GoodIn wsX5_append (va_wsS RX5 22 yX5_signIn wsX5_signIn) := goodIn_app (goodIn_of _ (by decide +kernel)) ggX5_append_X5_signIn
theorem dX5_append_0 : decode cX5_append 0 = .ok (.iconst 0, 1) := by decide +kernel
theorem dX5_append_1 : decode cX5_append 1 = .ok (.istore 4, 2) := by decide +kernel
theorem dX5_append_3 : decode cX5_append 3 = .ok (.iload 4, 2) := by decide +kernel
theorem dX5_append_5 : decode cX5_append 5 = .ok (.iload_n 3, 1) := by decide +kernel
theorem dX5_append_6 : decode cX5_append 6 = .ok (.if_icmp .ge 44, 3) := by decide +kernel
theorem dX5_append_9 : decode cX5_append 9 = .ok (.aload_n 0, 1) := by decide +kernel
theorem dX5_append_10 : decode cX5_append 10 = .ok (.getfield 15, 3) := by decide +kernel
theorem dX5_append_13 : decode cX5_append 13 = .ok (.bipush 60, 2) := by decide +kernel
theorem dX5_append_15 : decode cX5_append 15 = .ok (.if_icmp .ge 35, 3) := by decide +kernel
theorem dX5_append_18 : decode cX5_append 18 = .ok (.aload_n 0, 1) := by decide +kernel
theorem dX5_append_19 : decode cX5_append 19 = .ok (.getfield 9, 3) := by decide +kernel
theorem dX5_append_22 : decode cX5_append 22 = .ok (.aload_n 0, 1) := by decide +kernel
theorem dX5_append_23 : decode cX5_append 23 = .ok (.getfield 15, 3) := by decide +kernel
theorem dX5_append_26 : decode cX5_append 26 = .ok (.lload_n 1, 1) := by decide +kernel
theorem dX5_append_27 : decode cX5_append 27 = .ok (.iload 4, 2) := by decide +kernel
theorem dX5_append_29 : decode cX5_append 29 = .ok (.invokestatic 22, 3) := by decide +kernel
theorem dX5_append_32 : decode cX5_append 32 = .ok (.i2c, 1) := by decide +kernel
theorem dX5_append_33 : decode cX5_append 33 = .ok (.castore, 1) := by decide +kernel
theorem dX5_append_34 : decode cX5_append 34 = .ok (.aload_n 0, 1) := by decide +kernel
theorem dX5_append_35 : decode cX5_append 35 = .ok (.dup, 1) := by decide +kernel
theorem dX5_append_36 : decode cX5_append 36 = .ok (.getfield 15, 3) := by decide +kernel
theorem dX5_append_39 : decode cX5_append 39 = .ok (.iconst 1, 1) := by decide +kernel
theorem dX5_append_40 : decode cX5_append 40 = .ok (.iadd, 1) := by decide +kernel
theorem dX5_append_41 : decode cX5_append 41 = .ok (.putfield 15, 3) := by decide +kernel
theorem dX5_append_44 : decode cX5_append 44 = .ok (.iinc 4 1, 3) := by decide +kernel
theorem dX5_append_47 : decode cX5_append 47 = .ok (.goto (-44), 3) := by decide +kernel
theorem dX5_append_50 : decode cX5_append 50 = .ok (.return_, 1) := by decide +kernel
set_option maxRecDepth 20000 in
theorem ggX5_readInto_X3_clear : GoodIn wsX5_readInto wsX3_clear := goodIn_r _ [8, 9, 10, 59, 60, 61, 62, 63, 64, 65, 66, 67] (by decide +kernel) (by decide +kernel)
set_option maxRecDepth 20000 in
theorem gX5_readInto_X3_clear : GoodIn wsX5_readInto (wsV RX5 26 RX3 yX3_clear wsX3_clear) := goodIn_app (goodIn_of _ (by decide +kernel)) ggX5_readInto_X3_clear
set_option maxRecDepth 20000 in
theorem ggX5_readInto_X5_readSum : GoodIn wsX5_readInto wsX5_readSum := goodIn_r _ [15, 1, 2, 16, 17, 18, 14, 19, 20, 21, 22, 23, 24, 25, 26, 7, 27, 9, 28, 29, 30, 31, 32, 33, 34, 35, 36, 37, 38, 39, 40, 41, 42, 43, 44, 45, 46, 47, 48, 49, 50, 11, 12, 13, 51, 52, 53, 54, 55, 56, 57, 58, 59, 60, 61, 62, 63, 64, 65, 66, 67] (by decide +kernel) (by decide +kernel)
set_option maxRecDepth 20000 in
theorem gX5_readInto_X5_readSum : GoodIn wsX5_readInto (wsV RX5 31 RX5 yX5_readSum wsX5_readSum) := goodIn_app (goodIn_of _ (by decide +kernel)) ggX5_readInto_X5_readSum
theorem dX5_readInto_0 : decode cX5_readInto 0 = .ok (.aload_n 1, 1) := by decide +kernel
theorem dX5_readInto_1 : decode cX5_readInto 1 = .ok (.invokevirtual 26, 3) := by decide +kernel
theorem dX5_readInto_4 : decode cX5_readInto 4 = .ok (.aload_n 0, 1) := by decide +kernel
theorem dX5_readInto_5 : decode cX5_readInto 5 = .ok (.iconst 0, 1) := by decide +kernel
theorem dX5_readInto_6 : decode cX5_readInto 6 = .ok (.putfield 19, 3) := by decide +kernel
theorem dX5_readInto_9 : decode cX5_readInto 9 = .ok (.aload_n 0, 1) := by decide +kernel
theorem dX5_readInto_10 : decode cX5_readInto 10 = .ok (.aload_n 1, 1) := by decide +kernel
theorem dX5_readInto_11 : decode cX5_readInto 11 = .ok (.iconst 0, 1) := by decide +kernel
theorem dX5_readInto_12 : decode cX5_readInto 12 = .ok (.invokevirtual 31, 3) := by decide +kernel
theorem dX5_readInto_15 : decode cX5_readInto 15 = .ok (.istore_n 2, 1) := by decide +kernel
theorem dX5_readInto_16 : decode cX5_readInto 16 = .ok (.iload_n 2, 1) := by decide +kernel
theorem dX5_readInto_17 : decode cX5_readInto 17 = .ok (.iconst (-1), 1) := by decide +kernel
theorem dX5_readInto_18 : decode cX5_readInto 18 = .ok (.if_icmp .eq 18, 3) := by decide +kernel
theorem dX5_readInto_21 : decode cX5_readInto 21 = .ok (.aload_n 0, 1) := by decide +kernel
theorem dX5_readInto_22 : decode cX5_readInto 22 = .ok (.getfield 19, 3) := by decide +kernel
theorem dX5_readInto_25 : decode cX5_readInto 25 = .ok (.aload_n 0, 1) := by decide +kernel
theorem dX5_readInto_26 : decode cX5_readInto 26 = .ok (.getfield 15, 3) := by decide +kernel
theorem dX5_readInto_29 : decode cX5_readInto 29 = .ok (.if_icmp .ne 7, 3) := by decide +kernel
theorem dX5_readInto_32 : decode cX5_readInto 32 = .ok (.iconst 1, 1) := by decide +kernel
theorem dX5_readInto_33 : decode cX5_readInto 33 = .ok (.goto 4, 3) := by decide +kernel
theorem dX5_readInto_36 : decode cX5_readInto 36 = .ok (.iconst 0, 1) := by decide +kernel
theorem dX5_readInto_37 : decode cX5_readInto 37 = .ok (.istore_n 3, 1) := by decide +kernel
theorem dX5_readInto_38 : decode cX5_readInto 38 = .ok (.aload_n 1, 1) := by decide +kernel
theorem dX5_readInto_39 : decode cX5_readInto 39 = .ok (.iload_n 3, 1) := by decide +kernel
theorem dX5_readInto_40 : decode cX5_readInto 40 = .ok (.ifCond .eq 7, 3) := by decide +kernel
theorem dX5_readInto_43 : decode cX5_readInto 43 = .ok (.iload_n 2, 1) := by decide +kernel
theorem dX5_readInto_44 : decode cX5_readInto 44 = .ok (.goto 4, 3) := by decide +kernel
theorem dX5_readInto_47 : decode cX5_readInto 47 = .ok (.iconst 0, 1) := by decide +kernel
theorem dX5_readInto_48 : decode cX5_readInto 48 = .ok (.putfield 35, 3) := by decide +kernel
theorem dX5_readInto_51 : decode cX5_readInto 51 = .ok (.aload_n 0, 1) := by decide +kernel
theorem dX5_readInto_52 : decode cX5_readInto 52 = .ok (.iconst 0, 1) := by decide +kernel
theorem dX5_readInto_53 : decode cX5_readInto 53 = .ok (.putfield 15, 3) := by decide +kernel
theorem dX5_readInto_56 : decode cX5_readInto 56 = .ok (.iload_n 3, 1) := by decide +kernel
theorem dX5_readInto_57 : decode cX5_readInto 57 = .ok (.ifCond .eq 7, 3) := by decide +kernel
theorem dX5_readInto_60 : decode cX5_readInto 60 = .ok (.iconst (-1), 1) := by decide +kernel
theorem dX5_readInto_61 : decode cX5_readInto 61 = .ok (.goto 7, 3) := by decide +kernel
theorem dX5_readInto_64 : decode cX5_readInto 64 = .ok (.aload_n 0, 1) := by decide +kernel
theorem dX5_readInto_65 : decode cX5_readInto 65 = .ok (.getfield 19, 3) := by decide +kernel
theorem dX5_readInto_68 : decode cX5_readInto 68 = .ok (.ireturn, 1) := by decide +kernel
theorem dX5_next_0 : decode cX5_next 0 = .ok (.aload_n 0, 1) := by decide +kernel
theorem dX5_next_1 : decode cX5_next 1 = .ok (.getfield 19, 3) := by decide +kernel
theorem dX5_next_4 : decode cX5_next 4 = .ok (.aload_n 0, 1) := by decide +kernel
theorem dX5_next_5 : decode cX5_next 5 = .ok (.getfield 15, 3) := by decide +kernel
theorem dX5_next_8 : decode cX5_next 8 = .ok (.if_icmp .ge 15, 3) := by decide +kernel
theorem dX5_next_11 : decode cX5_next 11 = .ok (.aload_n 0, 1) := by decide +kernel
theorem dX5_next_12 : decode cX5_next 12 = .ok (.getfield 9, 3) := by decide +kernel
theorem dX5_next_15 : decode cX5_next 15 = .ok (.aload_n 0, 1) := by decide +kernel
theorem dX5_next_16 : decode cX5_next 16 = .ok (.getfield 19, 3) := by decide +kernel
theorem dX5_next_19 : decode cX5_next 19 = .ok (.caload, 1) := by decide +kernel
theorem dX5_next_20 : decode cX5_next 20 = .ok (.goto 4, 3) := by decide +kernel
theorem dX5_next_23 : decode cX5_next 23 = .ok (.iconst 0, 1) := by decide +kernel
theorem dX5_next_24 : decode cX5_next 24 = .ok (.ireturn, 1) := by decide +kernel
set_option maxRecDepth 20000 in
theorem ggX5_readSum_X5_readTerm : GoodIn wsX5_readSum wsX5_readTerm := goodIn_r _ [48, 1, 2, 37, 38, 39, 6, 7, 8, 9, 10, 11, 12, 13, 14, 15, 16, 17, 18, 19, 20, 21, 22, 23, 24, 25, 26, 27, 28, 29, 30, 31, 32, 33, 34, 35, 36, 40, 41, 42, 43, 44, 45, 46, 47, 0, 3, 4, 5, 49, 50, 51, 52, 53, 54, 55, 56, 57, 58, 59, 60] (by decide +kernel) (by decide +kernel)
set_option maxRecDepth 20000 in
theorem gX5_readSum_X5_readTerm : GoodIn wsX5_readSum (wsV RX5 38 RX5 yX5_readTerm wsX5_readTerm) := goodIn_app (goodIn_of _ (by decide +kernel)) ggX5_readSum_X5_readTerm
set_option maxRecDepth 20000 in
theorem ggX5_readSum_X5_next : GoodIn wsX5_readSum wsX5_next := goodIn_r _ [10, 1, 2, 11, 49, 50, 51] (by decide +kernel) (by decide +kernel)
set_option maxRecDepth 20000 in
theorem gX5_readSum_X5_next : GoodIn wsX5_readSum (wsV RX5 41 RX5 yX5_next wsX5_next) := goodIn_app (goodIn_of _ (by decide +kernel)) ggX5_readSum_X5_next
set_option maxRecDepth 20000 in
theorem ggX5_readSum_X3_add : GoodIn wsX5_readSum wsX3_add := goodIn_r _ [16, 17, 18, 19, 20, 21, 22, 23, 24, 15, 25, 52, 53, 54, 55, 56, 57, 58, 59, 60] (by decide +kernel) (by decide +kernel)
set_option maxRecDepth 20000 in
theorem gX5_readSum_X3_add : GoodIn wsX5_readSum (wsV RX5 45 RX3 yX3_add wsX3_add) := goodIn_app (goodIn_of _ (by decide +kernel)) ggX5_readSum_X3_add
theorem dX5_readSum_0 : decode cX5_readSum 0 = .ok (.aload_n 0, 1) := by decide +kernel
theorem dX5_readSum_1 : decode cX5_readSum 1 = .ok (.aload_n 1, 1) := by decide +kernel
theorem dX5_readSum_2 : decode cX5_readSum 2 = .ok (.iload_n 2, 1) := by decide +kernel
theorem dX5_readSum_3 : decode cX5_readSum 3 = .ok (.invokevirtual 38, 3) := by decide +kernel
theorem dX5_readSum_6 : decode cX5_readSum 6 = .ok (.istore_n 3, 1) := by decide +kernel
theorem dX5_readSum_7 : decode cX5_readSum 7 = .ok (.iload_n 3, 1) := by decide +kernel
theorem dX5_readSum_8 : decode cX5_readSum 8 = .ok (.iconst (-1), 1) := by decide +kernel
theorem dX5_readSum_9 : decode cX5_readSum 9 = .ok (.if_icmp .eq 97, 3) := by decide +kernel
theorem dX5_readSum_12 : decode cX5_readSum 12 = .ok (.aload_n 0, 1) := by decide +kernel
theorem dX5_readSum_13 : decode cX5_readSum 13 = .ok (.getfield 19, 3) := by decide +kernel
theorem dX5_readSum_16 : decode cX5_readSum 16 = .ok (.aload_n 0, 1) := by decide +kernel
theorem dX5_readSum_17 : decode cX5_readSum 17 = .ok (.getfield 15, 3) := by decide +kernel
theorem dX5_readSum_20 : decode cX5_readSum 20 = .ok (.if_icmp .ge 86, 3) := by decide +kernel
theorem dX5_readSum_23 : decode cX5_readSum 23 = .ok (.aload_n 0, 1) := by decide +kernel
theorem dX5_readSum_24 : decode cX5_readSum 24 = .ok (.invokevirtual 41, 3) := by decide +kernel
theorem dX5_readSum_27 : decode cX5_readSum 27 = .ok (.bipush 43, 2) := by decide +kernel
theorem dX5_readSum_29 : decode cX5_readSum 29 = .ok (.if_icmp .eq 12, 3) := by decide +kernel
theorem dX5_readSum_32 : decode cX5_readSum 32 = .ok (.aload_n 0, 1) := by decide +kernel
theorem dX5_readSum_33 : decode cX5_readSum 33 = .ok (.invokevirtual 41, 3) := by decide +kernel
theorem dX5_readSum_36 : decode cX5_readSum 36 = .ok (.bipush 45, 2) := by decide +kernel
theorem dX5_readSum_38 : decode cX5_readSum 38 = .ok (.if_icmp .ne 68, 3) := by decide +kernel
theorem dX5_readSum_41 : decode cX5_readSum 41 = .ok (.aload_n 0, 1) := by decide +kernel
theorem dX5_readSum_42 : decode cX5_readSum 42 = .ok (.invokevirtual 41, 3) := by decide +kernel
theorem dX5_readSum_45 : decode cX5_readSum 45 = .ok (.bipush 43, 2) := by decide +kernel
theorem dX5_readSum_47 : decode cX5_readSum 47 = .ok (.if_icmp .ne 7, 3) := by decide +kernel
theorem dX5_readSum_50 : decode cX5_readSum 50 = .ok (.iconst 3, 1) := by decide +kernel
theorem dX5_readSum_51 : decode cX5_readSum 51 = .ok (.goto 4, 3) := by decide +kernel
theorem dX5_readSum_54 : decode cX5_readSum 54 = .ok (.iconst 4, 1) := by decide +kernel
theorem dX5_readSum_55 : decode cX5_readSum 55 = .ok (.istore 4, 2) := by decide +kernel
theorem dX5_readSum_57 : decode cX5_readSum 57 = .ok (.aload_n 0, 1) := by decide +kernel
theorem dX5_readSum_58 : decode cX5_readSum 58 = .ok (.getfield 19, 3) := by decide +kernel
theorem dX5_readSum_61 : decode cX5_readSum 61 = .ok (.istore 5, 2) := by decide +kernel
theorem dX5_readSum_63 : decode cX5_readSum 63 = .ok (.aload_n 0, 1) := by decide +kernel
theorem dX5_readSum_64 : decode cX5_readSum 64 = .ok (.dup, 1) := by decide +kernel
theorem dX5_readSum_65 : decode cX5_readSum 65 = .ok (.getfield 19, 3) := by decide +kernel
theorem dX5_readSum_68 : decode cX5_readSum 68 = .ok (.iconst 1, 1) := by decide +kernel
theorem dX5_readSum_69 : decode cX5_readSum 69 = .ok (.iadd, 1) := by decide +kernel
theorem dX5_readSum_70 : decode cX5_readSum 70 = .ok (.putfield 19, 3) := by decide +kernel
theorem dX5_readSum_73 : decode cX5_readSum 73 = .ok (.aload_n 0, 1) := by decide +kernel
theorem dX5_readSum_74 : decode cX5_readSum 74 = .ok (.aload_n 1, 1) := by decide +kernel
theorem dX5_readSum_75 : decode cX5_readSum 75 = .ok (.iload_n 2, 1) := by decide +kernel
theorem dX5_readSum_76 : decode cX5_readSum 76 = .ok (.invokevirtual 38, 3) := by decide +kernel
theorem dX5_readSum_79 : decode cX5_readSum 79 = .ok (.istore 6, 2) := by decide +kernel
theorem dX5_readSum_81 : decode cX5_readSum 81 = .ok (.iload 6, 2) := by decide +kernel
theorem dX5_readSum_83 : decode cX5_readSum 83 = .ok (.iconst (-1), 1) := by decide +kernel
theorem dX5_readSum_84 : decode cX5_readSum 84 = .ok (.if_icmp .ne 7, 3) := by decide +kernel
theorem dX5_readSum_87 : decode cX5_readSum 87 = .ok (.iconst (-1), 1) := by decide +kernel
theorem dX5_readSum_88 : decode cX5_readSum 88 = .ok (.goto 14, 3) := by decide +kernel
theorem dX5_readSum_91 : decode cX5_readSum 91 = .ok (.aload_n 1, 1) := by decide +kernel
theorem dX5_readSum_92 : decode cX5_readSum 92 = .ok (.iload 4, 2) := by decide +kernel
theorem dX5_readSum_94 : decode cX5_readSum 94 = .ok (.iload_n 3, 1) := by decide +kernel
theorem dX5_readSum_95 : decode cX5_readSum 95 = .ok (.iload 6, 2) := by decide +kernel
theorem dX5_readSum_97 : decode cX5_readSum 97 = .ok (.iload 5, 2) := by decide +kernel
theorem dX5_readSum_99 : decode cX5_readSum 99 = .ok (.invokevirtual 45, 3) := by decide +kernel
theorem dX5_readSum_102 : decode cX5_readSum 102 = .ok (.istore_n 3, 1) := by decide +kernel
theorem dX5_readSum_103 : decode cX5_readSum 103 = .ok (.goto (-96), 3) := by decide +kernel
theorem dX5_readSum_106 : decode cX5_readSum 106 = .ok (.iload_n 3, 1) := by decide +kernel
theorem dX5_readSum_107 : decode cX5_readSum 107 = .ok (.ireturn, 1) := by decide +kernel
set_option maxRecDepth 20000 in
theorem ggX5_readTerm_X5_readPart : GoodIn wsX5_readTerm wsX5_readPart := goodIn_r _ [41, 1, 42, 43, 44, 6, 7, 8, 9, 10, 2, 11, 12, 13, 14, 15, 16, 17, 18, 19, 20, 21, 22, 23, 24, 25, 26, 27, 28, 29, 30, 31, 32, 33, 34, 35, 36, 3, 4, 5, 37, 38, 39, 40, 45, 46, 47, 48, 0, 49, 50, 51, 52, 53, 54, 55, 56, 57, 58, 59, 60] (by decide +kernel) (by decide +kernel)
set_option maxRecDepth 20000 in
theorem gX5_readTerm_X5_readPart : GoodIn wsX5_readTerm (wsV RX5 49 RX5 yX5_readPart wsX5_readPart) := goodIn_app (goodIn_of _ (by decide +kernel)) ggX5_readTerm_X5_readPart
set_option maxRecDepth 20000 in
theorem ggX5_readTerm_X5_next : GoodIn wsX5_readTerm wsX5_next := goodIn_r _ [10, 1, 2, 11, 49, 50, 51] (by decide +kernel) (by decide +kernel)
set_option maxRecDepth 20000 in
theorem gX5_readTerm_X5_next : GoodIn wsX5_readTerm (wsV RX5 41 RX5 yX5_next wsX5_next) := goodIn_app (goodIn_of _ (by decide +kernel)) ggX5_readTerm_X5_next
set_option maxRecDepth 20000 in
theorem ggX5_readTerm_X3_add : GoodIn wsX5_readTerm wsX3_add := goodIn_r _ [16, 17, 18, 19, 20, 21, 22, 23, 24, 15, 25, 52, 53, 54, 55, 56, 57, 58, 59, 60] (by decide +kernel) (by decide +kernel)
set_option maxRecDepth 20000 in
theorem gX5_readTerm_X3_add : GoodIn wsX5_readTerm (wsV RX5 45 RX3 yX3_add wsX3_add) := goodIn_app (goodIn_of _ (by decide +kernel)) ggX5_readTerm_X3_add
theorem dX5_readTerm_0 : decode cX5_readTerm 0 = .ok (.aload_n 0, 1) := by decide +kernel
theorem dX5_readTerm_1 : decode cX5_readTerm 1 = .ok (.aload_n 1, 1) := by decide +kernel
theorem dX5_readTerm_2 : decode cX5_readTerm 2 = .ok (.iload_n 2, 1) := by decide +kernel
theorem dX5_readTerm_3 : decode cX5_readTerm 3 = .ok (.invokevirtual 49, 3) := by decide +kernel
theorem dX5_readTerm_6 : decode cX5_readTerm 6 = .ok (.istore_n 3, 1) := by decide +kernel
theorem dX5_readTerm_7 : decode cX5_readTerm 7 = .ok (.iload_n 3, 1) := by decide +kernel
theorem dX5_readTerm_8 : decode cX5_readTerm 8 = .ok (.iconst (-1), 1) := by decide +kernel
theorem dX5_readTerm_9 : decode cX5_readTerm 9 = .ok (.if_icmp .eq 71, 3) := by decide +kernel
theorem dX5_readTerm_12 : decode cX5_readTerm 12 = .ok (.aload_n 0, 1) := by decide +kernel
theorem dX5_readTerm_13 : decode cX5_readTerm 13 = .ok (.getfield 19, 3) := by decide +kernel
theorem dX5_readTerm_16 : decode cX5_readTerm 16 = .ok (.aload_n 0, 1) := by decide +kernel
theorem dX5_readTerm_17 : decode cX5_readTerm 17 = .ok (.getfield 15, 3) := by decide +kernel
theorem dX5_readTerm_20 : decode cX5_readTerm 20 = .ok (.if_icmp .ge 60, 3) := by decide +kernel
theorem dX5_readTerm_23 : decode cX5_readTerm 23 = .ok (.aload_n 0, 1) := by decide +kernel
theorem dX5_readTerm_24 : decode cX5_readTerm 24 = .ok (.invokevirtual 41, 3) := by decide +kernel
theorem dX5_readTerm_27 : decode cX5_readTerm 27 = .ok (.bipush 42, 2) := by decide +kernel
theorem dX5_readTerm_29 : decode cX5_readTerm 29 = .ok (.if_icmp .ne 51, 3) := by decide +kernel
theorem dX5_readTerm_32 : decode cX5_readTerm 32 = .ok (.aload_n 0, 1) := by decide +kernel
theorem dX5_readTerm_33 : decode cX5_readTerm 33 = .ok (.getfield 19, 3) := by decide +kernel
theorem dX5_readTerm_36 : decode cX5_readTerm 36 = .ok (.istore 4, 2) := by decide +kernel
theorem dX5_readTerm_38 : decode cX5_readTerm 38 = .ok (.aload_n 0, 1) := by decide +kernel
theorem dX5_readTerm_39 : decode cX5_readTerm 39 = .ok (.dup, 1) := by decide +kernel
theorem dX5_readTerm_40 : decode cX5_readTerm 40 = .ok (.getfield 19, 3) := by decide +kernel
theorem dX5_readTerm_43 : decode cX5_readTerm 43 = .ok (.iconst 1, 1) := by decide +kernel
theorem dX5_readTerm_44 : decode cX5_readTerm 44 = .ok (.iadd, 1) := by decide +kernel
theorem dX5_readTerm_45 : decode cX5_readTerm 45 = .ok (.putfield 19, 3) := by decide +kernel
theorem dX5_readTerm_48 : decode cX5_readTerm 48 = .ok (.aload_n 0, 1) := by decide +kernel
theorem dX5_readTerm_49 : decode cX5_readTerm 49 = .ok (.aload_n 1, 1) := by decide +kernel
theorem dX5_readTerm_50 : decode cX5_readTerm 50 = .ok (.iload_n 2, 1) := by decide +kernel
theorem dX5_readTerm_51 : decode cX5_readTerm 51 = .ok (.invokevirtual 49, 3) := by decide +kernel
theorem dX5_readTerm_54 : decode cX5_readTerm 54 = .ok (.istore 5, 2) := by decide +kernel
theorem dX5_readTerm_56 : decode cX5_readTerm 56 = .ok (.iload 5, 2) := by decide +kernel
theorem dX5_readTerm_58 : decode cX5_readTerm 58 = .ok (.iconst (-1), 1) := by decide +kernel
theorem dX5_readTerm_59 : decode cX5_readTerm 59 = .ok (.if_icmp .ne 7, 3) := by decide +kernel
theorem dX5_readTerm_62 : decode cX5_readTerm 62 = .ok (.iconst (-1), 1) := by decide +kernel
theorem dX5_readTerm_63 : decode cX5_readTerm 63 = .ok (.goto 13, 3) := by decide +kernel
theorem dX5_readTerm_66 : decode cX5_readTerm 66 = .ok (.aload_n 1, 1) := by decide +kernel
theorem dX5_readTerm_67 : decode cX5_readTerm 67 = .ok (.iconst 5, 1) := by decide +kernel
theorem dX5_readTerm_68 : decode cX5_readTerm 68 = .ok (.iload_n 3, 1) := by decide +kernel
theorem dX5_readTerm_69 : decode cX5_readTerm 69 = .ok (.iload 5, 2) := by decide +kernel
theorem dX5_readTerm_71 : decode cX5_readTerm 71 = .ok (.iload 4, 2) := by decide +kernel
theorem dX5_readTerm_73 : decode cX5_readTerm 73 = .ok (.invokevirtual 45, 3) := by decide +kernel
theorem dX5_readTerm_76 : decode cX5_readTerm 76 = .ok (.istore_n 3, 1) := by decide +kernel
theorem dX5_readTerm_77 : decode cX5_readTerm 77 = .ok (.goto (-70), 3) := by decide +kernel
theorem dX5_readTerm_80 : decode cX5_readTerm 80 = .ok (.iload_n 3, 1) := by decide +kernel
theorem dX5_readTerm_81 : decode cX5_readTerm 81 = .ok (.ireturn, 1) := by decide +kernel
set_option maxRecDepth 20000 in
theorem ggX5_readPart_X5_readBase : GoodIn wsX5_readPart wsX5_readBase := goodIn_r _ [26, 1, 6, 7, 8, 5, 9, 10, 11, 27, 28, 29, 30, 31, 32, 33, 12, 13, 14, 15, 16, 17, 18, 19, 20, 21, 22, 23, 24, 25, 34, 35, 36, 37, 38, 39, 40, 41, 42, 43, 0, 2, 3, 4, 44, 45, 46, 47, 48, 49, 50, 51, 52, 53, 54, 55, 56, 57, 58, 59, 60] (by decide +kernel) (by decide +kernel)
set_option maxRecDepth 20000 in
theorem gX5_readPart_X5_readBase : GoodIn wsX5_readPart (wsV RX5 52 RX5 yX5_readBase wsX5_readBase) := goodIn_app (goodIn_of _ (by decide +kernel)) ggX5_readPart_X5_readBase
set_option maxRecDepth 20000 in
theorem ggX5_readPart_X5_next : GoodIn wsX5_readPart wsX5_next := goodIn_r _ [9, 1, 10, 11, 49, 50, 51] (by decide +kernel) (by decide +kernel)
set_option maxRecDepth 20000 in
theorem gX5_readPart_X5_next : GoodIn wsX5_readPart (wsV RX5 41 RX5 yX5_next wsX5_next) := goodIn_app (goodIn_of _ (by decide +kernel)) ggX5_readPart_X5_next
set_option maxRecDepth 20000 in
theorem ggX5_readPart_X3_add : GoodIn wsX5_readPart wsX3_add := goodIn_r _ [16, 17, 18, 19, 20, 21, 22, 23, 24, 15, 25, 52, 53, 54, 55, 56, 57, 58, 59, 60] (by decide +kernel) (by decide +kernel)
set_option maxRecDepth 20000 in
theorem gX5_readPart_X3_add : GoodIn wsX5_readPart (wsV RX5 45 RX3 yX3_add wsX3_add) := goodIn_app (goodIn_of _ (by decide +kernel)) ggX5_readPart_X3_add
theorem dX5_readPart_0 : decode cX5_readPart 0 = .ok (.aload_n 0, 1) := by decide +kernel
theorem dX5_readPart_1 : decode cX5_readPart 1 = .ok (.aload_n 1, 1) := by decide +kernel
theorem dX5_readPart_2 : decode cX5_readPart 2 = .ok (.iload_n 2, 1) := by decide +kernel
theorem dX5_readPart_3 : decode cX5_readPart 3 = .ok (.invokevirtual 52, 3) := by decide +kernel
theorem dX5_readPart_6 : decode cX5_readPart 6 = .ok (.istore_n 3, 1) := by decide +kernel
theorem dX5_readPart_7 : decode cX5_readPart 7 = .ok (.iload_n 3, 1) := by decide +kernel
theorem dX5_readPart_8 : decode cX5_readPart 8 = .ok (.iconst (-1), 1) := by decide +kernel
theorem dX5_readPart_9 : decode cX5_readPart 9 = .ok (.if_icmp .eq 12, 3) := by decide +kernel
theorem dX5_readPart_12 : decode cX5_readPart 12 = .ok (.aload_n 0, 1) := by decide +kernel
theorem dX5_readPart_13 : decode cX5_readPart 13 = .ok (.invokevirtual 41, 3) := by decide +kernel
theorem dX5_readPart_16 : decode cX5_readPart 16 = .ok (.bipush 94, 2) := by decide +kernel
theorem dX5_readPart_18 : decode cX5_readPart 18 = .ok (.if_icmp .eq 5, 3) := by decide +kernel
theorem dX5_readPart_21 : decode cX5_readPart 21 = .ok (.iload_n 3, 1) := by decide +kernel
theorem dX5_readPart_22 : decode cX5_readPart 22 = .ok (.ireturn, 1) := by decide +kernel
theorem dX5_readPart_23 : decode cX5_readPart 23 = .ok (.aload_n 0, 1) := by decide +kernel
theorem dX5_readPart_24 : decode cX5_readPart 24 = .ok (.getfield 19, 3) := by decide +kernel
theorem dX5_readPart_27 : decode cX5_readPart 27 = .ok (.istore 4, 2) := by decide +kernel
theorem dX5_readPart_29 : decode cX5_readPart 29 = .ok (.aload_n 0, 1) := by decide +kernel
theorem dX5_readPart_30 : decode cX5_readPart 30 = .ok (.dup, 1) := by decide +kernel
theorem dX5_readPart_31 : decode cX5_readPart 31 = .ok (.getfield 19, 3) := by decide +kernel
theorem dX5_readPart_34 : decode cX5_readPart 34 = .ok (.iconst 1, 1) := by decide +kernel
theorem dX5_readPart_35 : decode cX5_readPart 35 = .ok (.iadd, 1) := by decide +kernel
theorem dX5_readPart_36 : decode cX5_readPart 36 = .ok (.putfield 19, 3) := by decide +kernel
theorem dX5_readPart_39 : decode cX5_readPart 39 = .ok (.aload_n 0, 1) := by decide +kernel
theorem dX5_readPart_40 : decode cX5_readPart 40 = .ok (.invokevirtual 41, 3) := by decide +kernel
theorem dX5_readPart_43 : decode cX5_readPart 43 = .ok (.istore 5, 2) := by decide +kernel
theorem dX5_readPart_45 : decode cX5_readPart 45 = .ok (.iload 5, 2) := by decide +kernel
theorem dX5_readPart_47 : decode cX5_readPart 47 = .ok (.bipush 48, 2) := by decide +kernel
theorem dX5_readPart_49 : decode cX5_readPart 49 = .ok (.if_icmp .lt 10, 3) := by decide +kernel
theorem dX5_readPart_52 : decode cX5_readPart 52 = .ok (.iload 5, 2) := by decide +kernel
theorem dX5_readPart_54 : decode cX5_readPart 54 = .ok (.bipush 52, 2) := by decide +kernel
theorem dX5_readPart_56 : decode cX5_readPart 56 = .ok (.if_icmp .le 5, 3) := by decide +kernel
theorem dX5_readPart_59 : decode cX5_readPart 59 = .ok (.iconst (-1), 1) := by decide +kernel
theorem dX5_readPart_60 : decode cX5_readPart 60 = .ok (.ireturn, 1) := by decide +kernel
theorem dX5_readPart_61 : decode cX5_readPart 61 = .ok (.aload_n 0, 1) := by decide +kernel
theorem dX5_readPart_62 : decode cX5_readPart 62 = .ok (.dup, 1) := by decide +kernel
theorem dX5_readPart_63 : decode cX5_readPart 63 = .ok (.getfield 19, 3) := by decide +kernel
theorem dX5_readPart_66 : decode cX5_readPart 66 = .ok (.iconst 1, 1) := by decide +kernel
theorem dX5_readPart_67 : decode cX5_readPart 67 = .ok (.iadd, 1) := by decide +kernel
theorem dX5_readPart_68 : decode cX5_readPart 68 = .ok (.putfield 19, 3) := by decide +kernel
theorem dX5_readPart_71 : decode cX5_readPart 71 = .ok (.aload_n 1, 1) := by decide +kernel
theorem dX5_readPart_72 : decode cX5_readPart 72 = .ok (.bipush 6, 2) := by decide +kernel
theorem dX5_readPart_74 : decode cX5_readPart 74 = .ok (.iload_n 3, 1) := by decide +kernel
theorem dX5_readPart_75 : decode cX5_readPart 75 = .ok (.iload 5, 2) := by decide +kernel
theorem dX5_readPart_77 : decode cX5_readPart 77 = .ok (.bipush 48, 2) := by decide +kernel
theorem dX5_readPart_79 : decode cX5_readPart 79 = .ok (.isub, 1) := by decide +kernel
theorem dX5_readPart_80 : decode cX5_readPart 80 = .ok (.iload 4, 2) := by decide +kernel
theorem dX5_readPart_82 : decode cX5_readPart 82 = .ok (.invokevirtual 45, 3) := by decide +kernel
theorem dX5_readPart_85 : decode cX5_readPart 85 = .ok (.ireturn, 1) := by decide +kernel
set_option maxRecDepth 20000 in
theorem ggX5_readBase_X5_next : GoodIn wsX5_readBase wsX5_next := goodIn_r _ [6, 1, 7, 8, 49, 50, 51] (by decide +kernel) (by decide +kernel)
set_option maxRecDepth 20000 in
theorem gX5_readBase_X5_next : GoodIn wsX5_readBase (wsV RX5 41 RX5 yX5_next wsX5_next) := goodIn_app (goodIn_of _ (by decide +kernel)) ggX5_readBase_X5_next
set_option maxRecDepth 20000 in
theorem ggX5_readBase_X5_isDigit : GoodIn wsX5_readBase wsX5_isDigit := goodIn_r _ [11] (by decide +kernel) (by decide +kernel)
set_option maxRecDepth 20000 in
theorem gX5_readBase_X5_isDigit : GoodIn wsX5_readBase (va_wsS RX5 55 yX5_isDigit wsX5_isDigit) := goodIn_app (goodIn_of _ (by decide +kernel)) ggX5_readBase_X5_isDigit
set_option maxRecDepth 20000 in
theorem ggX5_readBase_X5_readNumber : GoodIn wsX5_readBase wsX5_readNumber := goodIn_r _ [15, 1, 2, 3, 4, 5, 6, 7, 8, 9, 10, 11, 49, 50, 51] (by decide +kernel) (by decide +kernel)
set_option maxRecDepth 20000 in
theorem gX5_readBase_X5_readNumber : GoodIn wsX5_readBase (wsV RX5 59 RX5 yX5_readNumber wsX5_readNumber) := goodIn_app (goodIn_of _ (by decide +kernel)) ggX5_readBase_X5_readNumber
set_option maxRecDepth 20000 in
theorem ggX5_readBase_X3_add : GoodIn wsX5_readBase wsX3_add := goodIn_r _ [20, 21, 22, 23, 24, 25, 26, 27, 28, 19, 29, 52, 53, 54, 55, 56, 57, 58, 59, 60] (by decide +kernel) (by decide +kernel)
set_option maxRecDepth 20000 in
theorem gX5_readBase_X3_add : GoodIn wsX5_readBase (wsV RX5 45 RX3 yX3_add wsX3_add) := goodIn_app (goodIn_of _ (by decide +kernel)) ggX5_readBase_X3_add
set_option maxRecDepth 20000 in
theorem ggX5_readBase_X5_readClosed : GoodIn wsX5_readBase wsX5_readClosed := goodIn_r _ [36, 1, 37, 38, 39, 5, 2, 3, 4, 6, 7, 8, 0, 9, 10, 11, 12, 13, 14, 15, 16, 17, 18, 19, 20, 21, 22, 23, 24, 25, 26, 27, 28, 29, 30, 31, 32, 33, 34, 35, 40, 41, 42, 43, 44, 45, 46, 47, 48, 49, 50, 51, 52, 53, 54, 55, 56, 57, 58, 59, 60] (by decide +kernel) (by decide +kernel)
set_option maxRecDepth 20000 in
theorem gX5_readBase_X5_readClosed : GoodIn wsX5_readBase (wsV RX5 63 RX5 yX5_readClosed wsX5_readClosed) := goodIn_app (goodIn_of _ (by decide +kernel)) ggX5_readBase_X5_readClosed
set_option maxRecDepth 20000 in
theorem ggX5_readBase_X5_readPart : GoodIn wsX5_readBase wsX5_readPart := goodIn_r _ [40, 1, 41, 42, 43, 5, 2, 3, 4, 6, 7, 8, 16, 17, 18, 19, 20, 21, 22, 23, 24, 25, 26, 27, 28, 29, 0, 9, 10, 11, 12, 13, 14, 15, 30, 31, 32, 33, 34, 35, 36, 37, 38, 39, 44, 45, 46, 47, 48, 49, 50, 51, 52, 53, 54, 55, 56, 57, 58, 59, 60] (by decide +kernel) (by decide +kernel)
set_option maxRecDepth 20000 in
theorem gX5_readBase_X5_readPart : GoodIn wsX5_readBase (wsV RX5 49 RX5 yX5_readPart wsX5_readPart) := goodIn_app (goodIn_of _ (by decide +kernel)) ggX5_readBase_X5_readPart
theorem dX5_readBase_0 : decode cX5_readBase 0 = .ok (.aload_n 0, 1) := by decide +kernel
theorem dX5_readBase_1 : decode cX5_readBase 1 = .ok (.invokevirtual 41, 3) := by decide +kernel
theorem dX5_readBase_4 : decode cX5_readBase 4 = .ok (.istore_n 3, 1) := by decide +kernel
theorem dX5_readBase_5 : decode cX5_readBase 5 = .ok (.aload_n 0, 1) := by decide +kernel
theorem dX5_readBase_6 : decode cX5_readBase 6 = .ok (.getfield 19, 3) := by decide +kernel
theorem dX5_readBase_9 : decode cX5_readBase 9 = .ok (.istore 4, 2) := by decide +kernel
theorem dX5_readBase_11 : decode cX5_readBase 11 = .ok (.iload_n 3, 1) := by decide +kernel
theorem dX5_readBase_12 : decode cX5_readBase 12 = .ok (.invokestatic 55, 3) := by decide +kernel
theorem dX5_readBase_15 : decode cX5_readBase 15 = .ok (.ifCond .eq 16, 3) := by decide +kernel
theorem dX5_readBase_18 : decode cX5_readBase 18 = .ok (.aload_n 1, 1) := by decide +kernel
theorem dX5_readBase_19 : decode cX5_readBase 19 = .ok (.iconst 0, 1) := by decide +kernel
theorem dX5_readBase_20 : decode cX5_readBase 20 = .ok (.aload_n 0, 1) := by decide +kernel
theorem dX5_readBase_21 : decode cX5_readBase 21 = .ok (.invokevirtual 59, 3) := by decide +kernel
theorem dX5_readBase_24 : decode cX5_readBase 24 = .ok (.iconst 0, 1) := by decide +kernel
theorem dX5_readBase_25 : decode cX5_readBase 25 = .ok (.iload 4, 2) := by decide +kernel
theorem dX5_readBase_27 : decode cX5_readBase 27 = .ok (.invokevirtual 45, 3) := by decide +kernel
theorem dX5_readBase_30 : decode cX5_readBase 30 = .ok (.ireturn, 1) := by decide +kernel
theorem dX5_readBase_31 : decode cX5_readBase 31 = .ok (.iload_n 3, 1) := by decide +kernel
theorem dX5_readBase_32 : decode cX5_readBase 32 = .ok (.bipush 97, 2) := by decide +kernel
theorem dX5_readBase_34 : decode cX5_readBase 34 = .ok (.if_icmp .lt 32, 3) := by decide +kernel
theorem dX5_readBase_37 : decode cX5_readBase 37 = .ok (.iload_n 3, 1) := by decide +kernel
theorem dX5_readBase_38 : decode cX5_readBase 38 = .ok (.bipush 103, 2) := by decide +kernel
theorem dX5_readBase_40 : decode cX5_readBase 40 = .ok (.if_icmp .ge 26, 3) := by decide +kernel
theorem dX5_readBase_43 : decode cX5_readBase 43 = .ok (.aload_n 0, 1) := by decide +kernel
theorem dX5_readBase_44 : decode cX5_readBase 44 = .ok (.dup, 1) := by decide +kernel
theorem dX5_readBase_45 : decode cX5_readBase 45 = .ok (.getfield 19, 3) := by decide +kernel
theorem dX5_readBase_48 : decode cX5_readBase 48 = .ok (.iconst 1, 1) := by decide +kernel
theorem dX5_readBase_49 : decode cX5_readBase 49 = .ok (.iadd, 1) := by decide +kernel
theorem dX5_readBase_50 : decode cX5_readBase 50 = .ok (.putfield 19, 3) := by decide +kernel
theorem dX5_readBase_53 : decode cX5_readBase 53 = .ok (.aload_n 1, 1) := by decide +kernel
theorem dX5_readBase_54 : decode cX5_readBase 54 = .ok (.iconst 1, 1) := by decide +kernel
theorem dX5_readBase_55 : decode cX5_readBase 55 = .ok (.iload_n 3, 1) := by decide +kernel
theorem dX5_readBase_56 : decode cX5_readBase 56 = .ok (.bipush 97, 2) := by decide +kernel
theorem dX5_readBase_58 : decode cX5_readBase 58 = .ok (.isub, 1) := by decide +kernel
theorem dX5_readBase_59 : decode cX5_readBase 59 = .ok (.iconst 0, 1) := by decide +kernel
theorem dX5_readBase_60 : decode cX5_readBase 60 = .ok (.iload 4, 2) := by decide +kernel
theorem dX5_readBase_62 : decode cX5_readBase 62 = .ok (.invokevirtual 45, 3) := by decide +kernel
theorem dX5_readBase_65 : decode cX5_readBase 65 = .ok (.ireturn, 1) := by decide +kernel
theorem dX5_readBase_66 : decode cX5_readBase 66 = .ok (.iload_n 2, 1) := by decide +kernel
theorem dX5_readBase_67 : decode cX5_readBase 67 = .ok (.bipush 7, 2) := by decide +kernel
theorem dX5_readBase_69 : decode cX5_readBase 69 = .ok (.if_icmp .ge 15, 3) := by decide +kernel
theorem dX5_readBase_72 : decode cX5_readBase 72 = .ok (.iload_n 3, 1) := by decide +kernel
theorem dX5_readBase_73 : decode cX5_readBase 73 = .ok (.bipush 45, 2) := by decide +kernel
theorem dX5_readBase_75 : decode cX5_readBase 75 = .ok (.if_icmp .eq 11, 3) := by decide +kernel
theorem dX5_readBase_78 : decode cX5_readBase 78 = .ok (.iload_n 3, 1) := by decide +kernel
theorem dX5_readBase_79 : decode cX5_readBase 79 = .ok (.bipush 40, 2) := by decide +kernel
theorem dX5_readBase_81 : decode cX5_readBase 81 = .ok (.if_icmp .eq 5, 3) := by decide +kernel
theorem dX5_readBase_84 : decode cX5_readBase 84 = .ok (.iconst (-1), 1) := by decide +kernel
theorem dX5_readBase_85 : decode cX5_readBase 85 = .ok (.ireturn, 1) := by decide +kernel
theorem dX5_readBase_86 : decode cX5_readBase 86 = .ok (.aload_n 0, 1) := by decide +kernel
theorem dX5_readBase_87 : decode cX5_readBase 87 = .ok (.dup, 1) := by decide +kernel
theorem dX5_readBase_88 : decode cX5_readBase 88 = .ok (.getfield 19, 3) := by decide +kernel
theorem dX5_readBase_91 : decode cX5_readBase 91 = .ok (.iconst 1, 1) := by decide +kernel
theorem dX5_readBase_92 : decode cX5_readBase 92 = .ok (.iadd, 1) := by decide +kernel
theorem dX5_readBase_93 : decode cX5_readBase 93 = .ok (.putfield 19, 3) := by decide +kernel
theorem dX5_readBase_96 : decode cX5_readBase 96 = .ok (.iload_n 3, 1) := by decide +kernel
theorem dX5_readBase_97 : decode cX5_readBase 97 = .ok (.bipush 40, 2) := by decide +kernel
theorem dX5_readBase_99 : decode cX5_readBase 99 = .ok (.if_icmp .ne 12, 3) := by decide +kernel
theorem dX5_readBase_102 : decode cX5_readBase 102 = .ok (.aload_n 0, 1) := by decide +kernel
theorem dX5_readBase_103 : decode cX5_readBase 103 = .ok (.aload_n 1, 1) := by decide +kernel
theorem dX5_readBase_104 : decode cX5_readBase 104 = .ok (.iload_n 2, 1) := by decide +kernel
theorem dX5_readBase_105 : decode cX5_readBase 105 = .ok (.iconst 1, 1) := by decide +kernel
theorem dX5_readBase_106 : decode cX5_readBase 106 = .ok (.iadd, 1) := by decide +kernel
theorem dX5_readBase_107 : decode cX5_readBase 107 = .ok (.invokevirtual 63, 3) := by decide +kernel
theorem dX5_readBase_110 : decode cX5_readBase 110 = .ok (.ireturn, 1) := by decide +kernel
theorem dX5_readBase_111 : decode cX5_readBase 111 = .ok (.aload_n 0, 1) := by decide +kernel
theorem dX5_readBase_112 : decode cX5_readBase 112 = .ok (.aload_n 1, 1) := by decide +kernel
theorem dX5_readBase_113 : decode cX5_readBase 113 = .ok (.iload_n 2, 1) := by decide +kernel
theorem dX5_readBase_114 : decode cX5_readBase 114 = .ok (.iconst 1, 1) := by decide +kernel
theorem dX5_readBase_115 : decode cX5_readBase 115 = .ok (.iadd, 1) := by decide +kernel
theorem dX5_readBase_116 : decode cX5_readBase 116 = .ok (.invokevirtual 49, 3) := by decide +kernel
theorem dX5_readBase_119 : decode cX5_readBase 119 = .ok (.istore 5, 2) := by decide +kernel
theorem dX5_readBase_121 : decode cX5_readBase 121 = .ok (.iload 5, 2) := by decide +kernel
theorem dX5_readBase_123 : decode cX5_readBase 123 = .ok (.iconst (-1), 1) := by decide +kernel
theorem dX5_readBase_124 : decode cX5_readBase 124 = .ok (.if_icmp .ne 7, 3) := by decide +kernel
theorem dX5_readBase_127 : decode cX5_readBase 127 = .ok (.iconst (-1), 1) := by decide +kernel
theorem dX5_readBase_128 : decode cX5_readBase 128 = .ok (.goto 13, 3) := by decide +kernel
theorem dX5_readBase_131 : decode cX5_readBase 131 = .ok (.aload_n 1, 1) := by decide +kernel
theorem dX5_readBase_132 : decode cX5_readBase 132 = .ok (.iconst 2, 1) := by decide +kernel
theorem dX5_readBase_133 : decode cX5_readBase 133 = .ok (.iload 5, 2) := by decide +kernel
theorem dX5_readBase_135 : decode cX5_readBase 135 = .ok (.iconst 0, 1) := by decide +kernel
theorem dX5_readBase_136 : decode cX5_readBase 136 = .ok (.iload 4, 2) := by decide +kernel
theorem dX5_readBase_138 : decode cX5_readBase 138 = .ok (.invokevirtual 45, 3) := by decide +kernel
theorem dX5_readBase_141 : decode cX5_readBase 141 = .ok (.ireturn, 1) := by decide +kernel
set_option maxRecDepth 20000 in
theorem ggX5_readClosed_X5_readSum : GoodIn wsX5_readClosed wsX5_readSum := goodIn_r _ [44, 1, 10, 45, 46, 47, 5, 6, 7, 8, 9, 11, 20, 21, 22, 23, 24, 25, 26, 27, 28, 29, 30, 31, 32, 33, 12, 13, 14, 15, 16, 17, 18, 19, 34, 35, 36, 37, 38, 39, 0, 2, 3, 4, 40, 41, 42, 43, 48, 49, 50, 51, 52, 53, 54, 55, 56, 57, 58, 59, 60] (by decide +kernel) (by decide +kernel)
set_option maxRecDepth 20000 in
theorem gX5_readClosed_X5_readSum : GoodIn wsX5_readClosed (wsV RX5 31 RX5 yX5_readSum wsX5_readSum) := goodIn_app (goodIn_of _ (by decide +kernel)) ggX5_readClosed_X5_readSum
set_option maxRecDepth 20000 in
theorem ggX5_readClosed_X5_next : GoodIn wsX5_readClosed wsX5_next := goodIn_r _ [9, 1, 10, 11, 49, 50, 51] (by decide +kernel) (by decide +kernel)
set_option maxRecDepth 20000 in
theorem gX5_readClosed_X5_next : GoodIn wsX5_readClosed (wsV RX5 41 RX5 yX5_next wsX5_next) := goodIn_app (goodIn_of _ (by decide +kernel)) ggX5_readClosed_X5_next
theorem dX5_readClosed_0 : decode cX5_readClosed 0 = .ok (.aload_n 0, 1) := by decide +kernel
theorem dX5_readClosed_1 : decode cX5_readClosed 1 = .ok (.aload_n 1, 1) := by decide +kernel
theorem dX5_readClosed_2 : decode cX5_readClosed 2 = .ok (.iload_n 2, 1) := by decide +kernel
theorem dX5_readClosed_3 : decode cX5_readClosed 3 = .ok (.invokevirtual 31, 3) := by decide +kernel
theorem dX5_readClosed_6 : decode cX5_readClosed 6 = .ok (.istore_n 3, 1) := by decide +kernel
theorem dX5_readClosed_7 : decode cX5_readClosed 7 = .ok (.iload_n 3, 1) := by decide +kernel
theorem dX5_readClosed_8 : decode cX5_readClosed 8 = .ok (.iconst (-1), 1) := by decide +kernel
theorem dX5_readClosed_9 : decode cX5_readClosed 9 = .ok (.if_icmp .eq 12, 3) := by decide +kernel
theorem dX5_readClosed_12 : decode cX5_readClosed 12 = .ok (.aload_n 0, 1) := by decide +kernel
theorem dX5_readClosed_13 : decode cX5_readClosed 13 = .ok (.invokevirtual 41, 3) := by decide +kernel
theorem dX5_readClosed_16 : decode cX5_readClosed 16 = .ok (.bipush 41, 2) := by decide +kernel
theorem dX5_readClosed_18 : decode cX5_readClosed 18 = .ok (.if_icmp .eq 5, 3) := by decide +kernel
theorem dX5_readClosed_21 : decode cX5_readClosed 21 = .ok (.iconst (-1), 1) := by decide +kernel
theorem dX5_readClosed_22 : decode cX5_readClosed 22 = .ok (.ireturn, 1) := by decide +kernel
theorem dX5_readClosed_23 : decode cX5_readClosed 23 = .ok (.aload_n 0, 1) := by decide +kernel
theorem dX5_readClosed_24 : decode cX5_readClosed 24 = .ok (.dup, 1) := by decide +kernel
theorem dX5_readClosed_25 : decode cX5_readClosed 25 = .ok (.getfield 19, 3) := by decide +kernel
theorem dX5_readClosed_28 : decode cX5_readClosed 28 = .ok (.iconst 1, 1) := by decide +kernel
theorem dX5_readClosed_29 : decode cX5_readClosed 29 = .ok (.iadd, 1) := by decide +kernel
theorem dX5_readClosed_30 : decode cX5_readClosed 30 = .ok (.putfield 19, 3) := by decide +kernel
theorem dX5_readClosed_33 : decode cX5_readClosed 33 = .ok (.iload_n 3, 1) := by decide +kernel
theorem dX5_readClosed_34 : decode cX5_readClosed 34 = .ok (.ireturn, 1) := by decide +kernel
set_option maxRecDepth 20000 in
theorem ggX5_readNumber_X5_next : GoodIn wsX5_readNumber wsX5_next := goodIn_r _ [6, 1, 7, 8, 12, 13, 14] (by decide +kernel) (by decide +kernel)
set_option maxRecDepth 20000 in
theorem gX5_readNumber_X5_next : GoodIn wsX5_readNumber (wsV RX5 41 RX5 yX5_next wsX5_next) := goodIn_app (goodIn_of _ (by decide +kernel)) ggX5_readNumber_X5_next
set_option maxRecDepth 20000 in
theorem ggX5_readNumber_X5_isDigit : GoodIn wsX5_readNumber wsX5_isDigit := goodIn_r _ [11] (by decide +kernel) (by decide +kernel)
set_option maxRecDepth 20000 in
theorem gX5_readNumber_X5_isDigit : GoodIn wsX5_readNumber (va_wsS RX5 55 yX5_isDigit wsX5_isDigit) := goodIn_app (goodIn_of _ (by decide +kernel)) ggX5_readNumber_X5_isDigit
theorem dX5_readNumber_0 : decode cX5_readNumber 0 = .ok (.iconst 0, 1) := by decide +kernel
theorem dX5_readNumber_1 : decode cX5_readNumber 1 = .ok (.istore_n 1, 1) := by decide +kernel
theorem dX5_readNumber_2 : decode cX5_readNumber 2 = .ok (.iconst 0, 1) := by decide +kernel
theorem dX5_readNumber_3 : decode cX5_readNumber 3 = .ok (.istore_n 2, 1) := by decide +kernel
theorem dX5_readNumber_4 : decode cX5_readNumber 4 = .ok (.iload_n 2, 1) := by decide +kernel
theorem dX5_readNumber_5 : decode cX5_readNumber 5 = .ok (.iconst 4, 1) := by decide +kernel
theorem dX5_readNumber_6 : decode cX5_readNumber 6 = .ok (.if_icmp .ge 42, 3) := by decide +kernel
theorem dX5_readNumber_9 : decode cX5_readNumber 9 = .ok (.aload_n 0, 1) := by decide +kernel
theorem dX5_readNumber_10 : decode cX5_readNumber 10 = .ok (.invokevirtual 41, 3) := by decide +kernel
theorem dX5_readNumber_13 : decode cX5_readNumber 13 = .ok (.invokestatic 55, 3) := by decide +kernel
theorem dX5_readNumber_16 : decode cX5_readNumber 16 = .ok (.ifCond .eq 32, 3) := by decide +kernel
theorem dX5_readNumber_19 : decode cX5_readNumber 19 = .ok (.bipush 10, 2) := by decide +kernel
theorem dX5_readNumber_21 : decode cX5_readNumber 21 = .ok (.iload_n 1, 1) := by decide +kernel
theorem dX5_readNumber_22 : decode cX5_readNumber 22 = .ok (.imul, 1) := by decide +kernel
theorem dX5_readNumber_23 : decode cX5_readNumber 23 = .ok (.aload_n 0, 1) := by decide +kernel
theorem dX5_readNumber_24 : decode cX5_readNumber 24 = .ok (.invokevirtual 41, 3) := by decide +kernel
theorem dX5_readNumber_27 : decode cX5_readNumber 27 = .ok (.bipush 48, 2) := by decide +kernel
theorem dX5_readNumber_29 : decode cX5_readNumber 29 = .ok (.isub, 1) := by decide +kernel
theorem dX5_readNumber_30 : decode cX5_readNumber 30 = .ok (.iadd, 1) := by decide +kernel
theorem dX5_readNumber_31 : decode cX5_readNumber 31 = .ok (.istore_n 1, 1) := by decide +kernel
theorem dX5_readNumber_32 : decode cX5_readNumber 32 = .ok (.aload_n 0, 1) := by decide +kernel
theorem dX5_readNumber_33 : decode cX5_readNumber 33 = .ok (.dup, 1) := by decide +kernel
theorem dX5_readNumber_34 : decode cX5_readNumber 34 = .ok (.getfield 19, 3) := by decide +kernel
theorem dX5_readNumber_37 : decode cX5_readNumber 37 = .ok (.iconst 1, 1) := by decide +kernel
theorem dX5_readNumber_38 : decode cX5_readNumber 38 = .ok (.iadd, 1) := by decide +kernel
theorem dX5_readNumber_39 : decode cX5_readNumber 39 = .ok (.putfield 19, 3) := by decide +kernel
theorem dX5_readNumber_42 : decode cX5_readNumber 42 = .ok (.iinc 2 1, 3) := by decide +kernel
theorem dX5_readNumber_45 : decode cX5_readNumber 45 = .ok (.goto (-41), 3) := by decide +kernel
theorem dX5_readNumber_48 : decode cX5_readNumber 48 = .ok (.iload_n 1, 1) := by decide +kernel
theorem dX5_readNumber_49 : decode cX5_readNumber 49 = .ok (.ireturn, 1) := by decide +kernel
theorem dX5_isDigit_0 : decode cX5_isDigit 0 = .ok (.iload_n 0, 1) := by decide +kernel
theorem dX5_isDigit_1 : decode cX5_isDigit 1 = .ok (.bipush 48, 2) := by decide +kernel
theorem dX5_isDigit_3 : decode cX5_isDigit 3 = .ok (.if_icmp .lt 13, 3) := by decide +kernel
theorem dX5_isDigit_6 : decode cX5_isDigit 6 = .ok (.iload_n 0, 1) := by decide +kernel
theorem dX5_isDigit_7 : decode cX5_isDigit 7 = .ok (.bipush 57, 2) := by decide +kernel
theorem dX5_isDigit_9 : decode cX5_isDigit 9 = .ok (.if_icmp .gt 7, 3) := by decide +kernel
theorem dX5_isDigit_12 : decode cX5_isDigit 12 = .ok (.iconst 1, 1) := by decide +kernel
theorem dX5_isDigit_13 : decode cX5_isDigit 13 = .ok (.goto 4, 3) := by decide +kernel
theorem dX5_isDigit_16 : decode cX5_isDigit 16 = .ok (.iconst 0, 1) := by decide +kernel
theorem dX5_isDigit_17 : decode cX5_isDigit 17 = .ok (.ireturn, 1) := by decide +kernel
set_option maxRecDepth 20000 in
theorem ggX6_init_X4_init : GoodIn wsX6_init wsX4_init := goodIn_r _ [33, 34, 2, 3, 30, 35, 36, 37, 38, 39, 40, 41, 42, 43, 44, 83, 84, 85, 86, 87, 88, 89, 90, 91] (by decide +kernel) (by decide +kernel)
set_option maxRecDepth 20000 in
theorem gX6_init_X4_init_n9 : GoodIn wsX6_init (wsX4_init) := ggX6_init_X4_init
set_option maxRecDepth 20000 in
theorem ggX6_init_X5_init : GoodIn wsX6_init wsX5_init := goodIn_r _ [46, 47, 2, 3, 48, 49, 50, 51, 101, 102, 103] (by decide +kernel) (by decide +kernel)
set_option maxRecDepth 20000 in
theorem gX6_init_X5_init_n18 : GoodIn wsX6_init (wsX5_init) := ggX6_init_X5_init
set_option maxRecDepth 20000 in
theorem ggX6_init_X3_init : GoodIn wsX6_init wsX3_init := goodIn_r _ [53, 54, 2, 3, 30, 55, 56, 57, 58, 59, 60, 61, 62, 63, 64, 104, 105, 106, 107, 108, 109, 110, 111, 112] (by decide +kernel) (by decide +kernel)
set_option maxRecDepth 20000 in
theorem gX6_init_X3_init_n33 : GoodIn wsX6_init (wsX3_init) := ggX6_init_X3_init
set_option maxRecDepth 20000 in
theorem ggX6_init_X0_init : GoodIn wsX6_init wsX0_init := goodIn_r _ [66, 67, 2, 3, 59, 68, 69, 70, 71, 113, 114, 115, 116] (by decide +kernel) (by decide +kernel)
set_option maxRecDepth 20000 in
theorem gX6_init_X0_init_n40 : GoodIn wsX6_init (wsX0_init) := ggX6_init_X0_init
set_option maxRecDepth 20000 in
theorem ggX6_init_X2_init : GoodIn wsX6_init wsX2_init := goodIn_r _ [74, 75, 2, 3, 30, 76, 77, 78, 117, 118, 119] (by decide +kernel) (by decide +kernel)
set_option maxRecDepth 20000 in
theorem gX6_init_X2_init : GoodIn wsX6_init (wsX2_init) := ggX6_init_X2_init
set_option maxRecDepth 20000 in
theorem ggX6_init_X1_init : GoodIn wsX6_init wsX1_init := goodIn_r _ [80, 81, 2, 3, 82, 120] (by decide +kernel) (by decide +kernel)
set_option maxRecDepth 20000 in
theorem gX6_init_X1_init_n54 : GoodIn wsX6_init (wsX1_init) := ggX6_init_X1_init
theorem dX6_init_0 : decode cX6_init 0 = .ok (.aload_n 0, 1) := by decide +kernel
theorem dX6_init_1 : decode cX6_init 1 = .ok (.invokespecial 1, 3) := by decide +kernel
theorem dX6_init_4 : decode cX6_init 4 = .ok (.aload_n 0, 1) := by decide +kernel
theorem dX6_init_5 : decode cX6_init 5 = .ok (.new 7, 3) := by decide +kernel
theorem dX6_init_8 : decode cX6_init 8 = .ok (.dup, 1) := by decide +kernel
theorem dX6_init_9 : decode cX6_init 9 = .ok (.invokespecial 9, 3) := by decide +kernel
theorem dX6_init_12 : decode cX6_init 12 = .ok (.putfield 10, 3) := by decide +kernel
theorem dX6_init_15 : decode cX6_init 15 = .ok (.aload_n 0, 1) := by decide +kernel
theorem dX6_init_16 : decode cX6_init 16 = .ok (.new 16, 3) := by decide +kernel
theorem dX6_init_19 : decode cX6_init 19 = .ok (.dup, 1) := by decide +kernel
theorem dX6_init_20 : decode cX6_init 20 = .ok (.invokespecial 18, 3) := by decide +kernel
theorem dX6_init_23 : decode cX6_init 23 = .ok (.putfield 19, 3) := by decide +kernel
theorem dX6_init_26 : decode cX6_init 26 = .ok (.aload_n 0, 1) := by decide +kernel
theorem dX6_init_27 : decode cX6_init 27 = .ok (.bipush 8, 2) := by decide +kernel
theorem dX6_init_29 : decode cX6_init 29 = .ok (.anewarray 23, 3) := by decide +kernel
theorem dX6_init_32 : decode cX6_init 32 = .ok (.putfield 25, 3) := by decide +kernel
theorem dX6_init_35 : decode cX6_init 35 = .ok (.aload_n 0, 1) := by decide +kernel
theorem dX6_init_36 : decode cX6_init 36 = .ok (.iconst 0, 1) := by decide +kernel
theorem dX6_init_37 : decode cX6_init 37 = .ok (.putfield 29, 3) := by decide +kernel
theorem dX6_init_40 : decode cX6_init 40 = .ok (.aload_n 0, 1) := by decide +kernel
theorem dX6_init_41 : decode cX6_init 41 = .ok (.new 23, 3) := by decide +kernel
theorem dX6_init_44 : decode cX6_init 44 = .ok (.dup, 1) := by decide +kernel
theorem dX6_init_45 : decode cX6_init 45 = .ok (.invokespecial 33, 3) := by decide +kernel
theorem dX6_init_48 : decode cX6_init 48 = .ok (.putfield 34, 3) := by decide +kernel
theorem dX6_init_51 : decode cX6_init 51 = .ok (.aload_n 0, 1) := by decide +kernel
theorem dX6_init_52 : decode cX6_init 52 = .ok (.new 38, 3) := by decide +kernel
theorem dX6_init_55 : decode cX6_init 55 = .ok (.dup, 1) := by decide +kernel
theorem dX6_init_56 : decode cX6_init 56 = .ok (.invokespecial 40, 3) := by decide +kernel
theorem dX6_init_59 : decode cX6_init 59 = .ok (.putfield 41, 3) := by decide +kernel
theorem dX6_init_62 : decode cX6_init 62 = .ok (.aload_n 0, 1) := by decide +kernel
theorem dX6_init_63 : decode cX6_init 63 = .ok (.new 45, 3) := by decide +kernel
theorem dX6_init_66 : decode cX6_init 66 = .ok (.dup, 1) := by decide +kernel
theorem dX6_init_67 : decode cX6_init 67 = .ok (.invokespecial 47, 3) := by decide +kernel
theorem dX6_init_70 : decode cX6_init 70 = .ok (.putfield 48, 3) := by decide +kernel
theorem dX6_init_73 : decode cX6_init 73 = .ok (.aload_n 0, 1) := by decide +kernel
theorem dX6_init_74 : decode cX6_init 74 = .ok (.new 52, 3) := by decide +kernel
theorem dX6_init_77 : decode cX6_init 77 = .ok (.dup, 1) := by decide +kernel
theorem dX6_init_78 : decode cX6_init 78 = .ok (.invokespecial 54, 3) := by decide +kernel
theorem dX6_init_81 : decode cX6_init 81 = .ok (.putfield 55, 3) := by decide +kernel
theorem dX6_init_84 : decode cX6_init 84 = .ok (.aload_n 0, 1) := by decide +kernel
theorem dX6_init_85 : decode cX6_init 85 = .ok (.bipush 6, 2) := by decide +kernel
theorem dX6_init_87 : decode cX6_init 87 = .ok (.newarray .int, 2) := by decide +kernel
theorem dX6_init_89 : decode cX6_init 89 = .ok (.putfield 59, 3) := by decide +kernel
theorem dX6_init_92 : decode cX6_init 92 = .ok (.return_, 1) := by decide +kernel
set_option maxRecDepth 20000 in
theorem ggX6_shape_X6_checkInput : GoodIn wsX6_shape wsX6_checkInput := goodIn_ca (goodIn_r _ [5, 6, 7] (by decide +kernel) (by decide +kernel)) (goodIn_sub (fun _ h => List.mem_cons_of_mem _ (List.mem_append_left _ (List.mem_append_right _ h))) (by decide +kernel))
set_option maxRecDepth 20000 in
theorem gX6_shape_X6_checkInput : GoodIn wsX6_shape (va_wsS RX6 63 yX6_checkInput wsX6_checkInput) := goodIn_app (goodIn_of _ (by decide +kernel)) ggX6_shape_X6_checkInput
set_option maxRecDepth 20000 in
theorem ggX6_shape_X6_checkRange : GoodIn wsX6_shape wsX6_checkRange := goodIn_ca (goodIn_r _ [10, 11, 12] (by decide +kernel) (by decide +kernel)) (goodIn_sub (fun _ h => List.mem_cons_of_mem _ (List.mem_append_right _ h)) (by decide +kernel))
set_option maxRecDepth 20000 in
theorem gX6_shape_X6_checkRange : GoodIn wsX6_shape (va_wsS RX6 67 yX6_checkRange wsX6_checkRange) := goodIn_app (goodIn_of _ (by decide +kernel)) ggX6_shape_X6_checkRange
set_option maxRecDepth 20000 in
theorem ggX6_shape_X4_tellShape : GoodIn wsX6_shape wsX4_tellShape := goodIn_r _ [17, 18, 19, 20, 21, 22, 23, 24, 16, 25, 35, 36, 37, 38, 39, 40, 41, 42, 43] (by decide +kernel) (by decide +kernel)
set_option maxRecDepth 20000 in
theorem gX6_shape_X4_tellShape : GoodIn wsX6_shape (wsV RX6 71 RX4 yX4_tellShape wsX4_tellShape) := goodIn_app (goodIn_of _ (by decide +kernel)) ggX6_shape_X4_tellShape
theorem dX6_shape_0 : decode cX6_shape 0 = .ok (.iload_n 1, 1) := by decide +kernel
theorem dX6_shape_1 : decode cX6_shape 1 = .ok (.invokestatic 63, 3) := by decide +kernel
theorem dX6_shape_4 : decode cX6_shape 4 = .ok (.iload_n 2, 1) := by decide +kernel
theorem dX6_shape_5 : decode cX6_shape 5 = .ok (.sipush (-999), 3) := by decide +kernel
theorem dX6_shape_8 : decode cX6_shape 8 = .ok (.sipush 999, 3) := by decide +kernel
theorem dX6_shape_11 : decode cX6_shape 11 = .ok (.invokestatic 67, 3) := by decide +kernel
theorem dX6_shape_14 : decode cX6_shape 14 = .ok (.iload_n 3, 1) := by decide +kernel
theorem dX6_shape_15 : decode cX6_shape 15 = .ok (.iconst 0, 1) := by decide +kernel
theorem dX6_shape_16 : decode cX6_shape 16 = .ok (.iconst 3, 1) := by decide +kernel
theorem dX6_shape_17 : decode cX6_shape 17 = .ok (.invokestatic 67, 3) := by decide +kernel
theorem dX6_shape_20 : decode cX6_shape 20 = .ok (.iload 4, 2) := by decide +kernel
theorem dX6_shape_22 : decode cX6_shape 22 = .ok (.iconst 0, 1) := by decide +kernel
theorem dX6_shape_23 : decode cX6_shape 23 = .ok (.iload_n 3, 1) := by decide +kernel
theorem dX6_shape_24 : decode cX6_shape 24 = .ok (.ifCond .ne 7, 3) := by decide +kernel
theorem dX6_shape_27 : decode cX6_shape 27 = .ok (.iconst 0, 1) := by decide +kernel
theorem dX6_shape_28 : decode cX6_shape 28 = .ok (.goto 5, 3) := by decide +kernel
theorem dX6_shape_31 : decode cX6_shape 31 = .ok (.bipush 99, 2) := by decide +kernel
theorem dX6_shape_33 : decode cX6_shape 33 = .ok (.invokestatic 67, 3) := by decide +kernel
theorem dX6_shape_36 : decode cX6_shape 36 = .ok (.aload_n 0, 1) := by decide +kernel
theorem dX6_shape_37 : decode cX6_shape 37 = .ok (.getfield 10, 3) := by decide +kernel
theorem dX6_shape_40 : decode cX6_shape 40 = .ok (.iload_n 1, 1) := by decide +kernel
theorem dX6_shape_41 : decode cX6_shape 41 = .ok (.iload_n 2, 1) := by decide +kernel
theorem dX6_shape_42 : decode cX6_shape 42 = .ok (.iload_n 3, 1) := by decide +kernel
theorem dX6_shape_43 : decode cX6_shape 43 = .ok (.iload 4, 2) := by decide +kernel
theorem dX6_shape_45 : decode cX6_shape 45 = .ok (.invokevirtual 71, 3) := by decide +kernel
theorem dX6_shape_48 : decode cX6_shape 48 = .ok (.ireturn, 1) := by decide +kernel
set_option maxRecDepth 20000 in
theorem ggX6_read_X6_checkInput : GoodIn wsX6_read wsX6_checkInput := goodIn_ca (goodIn_r _ [8, 9, 10] (by decide +kernel) (by decide +kernel)) (goodIn_sub (fun _ h => List.mem_cons_of_mem _ (List.mem_append_left _ (List.mem_append_right _ h))) (by decide +kernel))
set_option maxRecDepth 20000 in
theorem gX6_read_X6_checkInput : GoodIn wsX6_read (va_wsS RX6 63 yX6_checkInput wsX6_checkInput) := goodIn_app (goodIn_of _ (by decide +kernel)) ggX6_read_X6_checkInput
set_option maxRecDepth 20000 in
theorem ggX6_read_X6_checkRange : GoodIn wsX6_read wsX6_checkRange := goodIn_ca (goodIn_r _ [13, 14, 15] (by decide +kernel) (by decide +kernel)) (goodIn_sub (fun _ h => List.mem_cons_of_mem _ (List.mem_append_right _ h)) (by decide +kernel))
set_option maxRecDepth 20000 in
theorem gX6_read_X6_checkRange : GoodIn wsX6_read (va_wsS RX6 67 yX6_checkRange wsX6_checkRange) := goodIn_app (goodIn_of _ (by decide +kernel)) ggX6_read_X6_checkRange
set_option maxRecDepth 20000 in
theorem ggX6_read_X4_addReading : GoodIn wsX6_read wsX4_addReading := goodIn_r _ [20, 21, 22, 23, 24, 25, 26, 27, 19, 28, 29, 30, 31, 32, 33, 43, 44, 45, 46, 47, 48, 49, 50, 51] (by decide +kernel) (by decide +kernel)
set_option maxRecDepth 20000 in
theorem gX6_read_X4_addReading : GoodIn wsX6_read (wsV RX6 85 RX4 yX4_addReading wsX4_addReading) := goodIn_app (goodIn_of _ (by decide +kernel)) ggX6_read_X4_addReading
theorem dX6_read_0 : decode cX6_read 0 = .ok (.iload_n 1, 1) := by decide +kernel
theorem dX6_read_1 : decode cX6_read 1 = .ok (.invokestatic 63, 3) := by decide +kernel
theorem dX6_read_4 : decode cX6_read 4 = .ok (.iload_n 2, 1) := by decide +kernel
theorem dX6_read_5 : decode cX6_read 5 = .ok (.sipush (-999), 3) := by decide +kernel
theorem dX6_read_8 : decode cX6_read 8 = .ok (.sipush 999, 3) := by decide +kernel
theorem dX6_read_11 : decode cX6_read 11 = .ok (.invokestatic 67, 3) := by decide +kernel
theorem dX6_read_14 : decode cX6_read 14 = .ok (.aload_n 0, 1) := by decide +kernel
theorem dX6_read_15 : decode cX6_read 15 = .ok (.getfield 10, 3) := by decide +kernel
theorem dX6_read_18 : decode cX6_read 18 = .ok (.getfield 75, 3) := by decide +kernel
theorem dX6_read_21 : decode cX6_read 21 = .ok (.iload_n 1, 1) := by decide +kernel
theorem dX6_read_22 : decode cX6_read 22 = .ok (.iaload, 1) := by decide +kernel
theorem dX6_read_23 : decode cX6_read 23 = .ok (.bipush 8, 2) := by decide +kernel
theorem dX6_read_25 : decode cX6_read 25 = .ok (.if_icmp .lt 13, 3) := by decide +kernel
theorem dX6_read_28 : decode cX6_read 28 = .ok (.new 78, 3) := by decide +kernel
theorem dX6_read_31 : decode cX6_read 31 = .ok (.dup, 1) := by decide +kernel
theorem dX6_read_32 : decode cX6_read 32 = .ok (.ldc 80, 2) := by decide +kernel
theorem dX6_read_34 : decode cX6_read 34 = .ok (.invokespecial 82, 3) := by decide +kernel
theorem dX6_read_37 : decode cX6_read 37 = .ok (.athrow, 1) := by decide +kernel
theorem dX6_read_38 : decode cX6_read 38 = .ok (.aload_n 0, 1) := by decide +kernel
theorem dX6_read_39 : decode cX6_read 39 = .ok (.getfield 10, 3) := by decide +kernel
theorem dX6_read_42 : decode cX6_read 42 = .ok (.iload_n 1, 1) := by decide +kernel
theorem dX6_read_43 : decode cX6_read 43 = .ok (.iload_n 2, 1) := by decide +kernel
theorem dX6_read_44 : decode cX6_read 44 = .ok (.invokevirtual 85, 3) := by decide +kernel
theorem dX6_read_47 : decode cX6_read 47 = .ok (.ireturn, 1) := by decide +kernel
set_option maxRecDepth 20000 in
theorem ggX6_unit_X6_checkInput : GoodIn wsX6_unit wsX6_checkInput := goodIn_ca (goodIn_r _ [7, 8, 9] (by decide +kernel) (by decide +kernel)) (goodIn_sub (fun _ h => List.mem_cons_of_mem _ (List.mem_append_left _ (List.mem_append_right _ h))) (by decide +kernel))
set_option maxRecDepth 20000 in
theorem gX6_unit_X6_checkInput : GoodIn wsX6_unit (va_wsS RX6 63 yX6_checkInput wsX6_checkInput) := goodIn_app (goodIn_of _ (by decide +kernel)) ggX6_unit_X6_checkInput
set_option maxRecDepth 20000 in
theorem ggX6_unit_X6_checkRange : GoodIn wsX6_unit wsX6_checkRange := goodIn_ca (goodIn_r _ [12, 13, 14] (by decide +kernel) (by decide +kernel)) (goodIn_sub (fun _ h => List.mem_cons_of_mem _ (List.mem_append_right _ h)) (by decide +kernel))
set_option maxRecDepth 20000 in
theorem gX6_unit_X6_checkRange : GoodIn wsX6_unit (va_wsS RX6 67 yX6_checkRange wsX6_checkRange) := goodIn_app (goodIn_of _ (by decide +kernel)) ggX6_unit_X6_checkRange
set_option maxRecDepth 20000 in
theorem ggX6_unit_X6_countDisagreeing : GoodIn wsX6_unit wsX6_countDisagreeing := goodIn_r _ [18, 19, 1, 2, 3, 20, 21, 22, 23, 24, 25, 26, 27, 28, 29, 30, 31, 32, 33, 34, 35, 36, 37, 38, 39, 40, 41, 42, 43, 44, 45, 46, 47, 48, 49, 50, 51, 52, 53, 54, 55, 56, 57, 58, 59, 60, 61, 62, 63, 64, 65, 66, 67, 68, 69, 70, 71, 72, 73, 74, 75, 76, 77] (by decide +kernel) (by decide +kernel)
set_option maxRecDepth 20000 in
theorem gX6_unit_X6_countDisagreeing : GoodIn wsX6_unit (wsV RX6 95 RX6 yX6_countDisagreeing wsX6_countDisagreeing) := goodIn_app (goodIn_of _ (by decide +kernel)) ggX6_unit_X6_countDisagreeing
theorem dX6_unit_0 : decode cX6_unit 0 = .ok (.iload_n 1, 1) := by decide +kernel
theorem dX6_unit_1 : decode cX6_unit 1 = .ok (.invokestatic 63, 3) := by decide +kernel
theorem dX6_unit_4 : decode cX6_unit 4 = .ok (.iload_n 2, 1) := by decide +kernel
theorem dX6_unit_5 : decode cX6_unit 5 = .ok (.bipush (-3), 2) := by decide +kernel
theorem dX6_unit_7 : decode cX6_unit 7 = .ok (.iconst 3, 1) := by decide +kernel
theorem dX6_unit_8 : decode cX6_unit 8 = .ok (.invokestatic 67, 3) := by decide +kernel
theorem dX6_unit_11 : decode cX6_unit 11 = .ok (.iload_n 3, 1) := by decide +kernel
theorem dX6_unit_12 : decode cX6_unit 12 = .ok (.bipush (-3), 2) := by decide +kernel
theorem dX6_unit_14 : decode cX6_unit 14 = .ok (.iconst 3, 1) := by decide +kernel
theorem dX6_unit_15 : decode cX6_unit 15 = .ok (.invokestatic 67, 3) := by decide +kernel
theorem dX6_unit_18 : decode cX6_unit 18 = .ok (.aload_n 0, 1) := by decide +kernel
theorem dX6_unit_19 : decode cX6_unit 19 = .ok (.getfield 10, 3) := by decide +kernel
theorem dX6_unit_22 : decode cX6_unit 22 = .ok (.getfield 89, 3) := by decide +kernel
theorem dX6_unit_25 : decode cX6_unit 25 = .ok (.iload_n 1, 1) := by decide +kernel
theorem dX6_unit_26 : decode cX6_unit 26 = .ok (.iload_n 2, 1) := by decide +kernel
theorem dX6_unit_27 : decode cX6_unit 27 = .ok (.iastore, 1) := by decide +kernel
theorem dX6_unit_28 : decode cX6_unit 28 = .ok (.aload_n 0, 1) := by decide +kernel
theorem dX6_unit_29 : decode cX6_unit 29 = .ok (.getfield 10, 3) := by decide +kernel
theorem dX6_unit_32 : decode cX6_unit 32 = .ok (.getfield 92, 3) := by decide +kernel
theorem dX6_unit_35 : decode cX6_unit 35 = .ok (.iload_n 1, 1) := by decide +kernel
theorem dX6_unit_36 : decode cX6_unit 36 = .ok (.iload_n 3, 1) := by decide +kernel
theorem dX6_unit_37 : decode cX6_unit 37 = .ok (.iastore, 1) := by decide +kernel
theorem dX6_unit_38 : decode cX6_unit 38 = .ok (.aload_n 0, 1) := by decide +kernel
theorem dX6_unit_39 : decode cX6_unit 39 = .ok (.invokevirtual 95, 3) := by decide +kernel
theorem dX6_unit_42 : decode cX6_unit 42 = .ok (.ireturn, 1) := by decide +kernel
set_option maxRecDepth 20000 in
theorem ggX6_together_X6_checkInput : GoodIn wsX6_together wsX6_checkInput := goodIn_ca (goodIn_r _ [7, 8, 9] (by decide +kernel) (by decide +kernel)) (goodIn_sub (fun _ h => List.mem_cons_of_mem _ (List.mem_append_right _ h)) (by decide +kernel))
set_option maxRecDepth 20000 in
theorem gX6_together_X6_checkInput : GoodIn wsX6_together (va_wsS RX6 63 yX6_checkInput wsX6_checkInput) := goodIn_app (goodIn_of _ (by decide +kernel)) ggX6_together_X6_checkInput
set_option maxRecDepth 20000 in
theorem ggX6_together_X6_checkRange : GoodIn wsX6_together wsX6_checkRange := goodIn_ca (goodIn_r _ [12, 1, 2] (by decide +kernel) (by decide +kernel)) (goodIn_sub (fun _ h => List.mem_cons_of_mem _ (List.mem_append_left _ (List.mem_append_right _ h))) (by decide +kernel))
set_option maxRecDepth 20000 in
theorem gX6_together_X6_checkRange : GoodIn wsX6_together (va_wsS RX6 67 yX6_checkRange wsX6_checkRange) := goodIn_app (goodIn_of _ (by decide +kernel)) ggX6_together_X6_checkRange
set_option maxRecDepth 20000 in
theorem ggX6_together_X4_tellCovariance : GoodIn wsX6_together wsX4_tellCovariance := goodIn_r _ [17, 18, 28, 29, 30, 31, 32, 33, 34, 35, 36] (by decide +kernel) (by decide +kernel)
set_option maxRecDepth 20000 in
theorem gX6_together_X4_tellCovariance : GoodIn wsX6_together (wsV RX6 104 RX4 yX4_tellCovariance wsX4_tellCovariance) := goodIn_app (goodIn_of _ (by decide +kernel)) ggX6_together_X4_tellCovariance
theorem dX6_together_0 : decode cX6_together 0 = .ok (.iload_n 1, 1) := by decide +kernel
theorem dX6_together_1 : decode cX6_together 1 = .ok (.invokestatic 63, 3) := by decide +kernel
theorem dX6_together_4 : decode cX6_together 4 = .ok (.iload_n 2, 1) := by decide +kernel
theorem dX6_together_5 : decode cX6_together 5 = .ok (.invokestatic 63, 3) := by decide +kernel
theorem dX6_together_8 : decode cX6_together 8 = .ok (.iload_n 3, 1) := by decide +kernel
theorem dX6_together_9 : decode cX6_together 9 = .ok (.sipush (-9999), 3) := by decide +kernel
theorem dX6_together_12 : decode cX6_together 12 = .ok (.sipush 9999, 3) := by decide +kernel
theorem dX6_together_15 : decode cX6_together 15 = .ok (.invokestatic 67, 3) := by decide +kernel
theorem dX6_together_18 : decode cX6_together 18 = .ok (.iload_n 1, 1) := by decide +kernel
theorem dX6_together_19 : decode cX6_together 19 = .ok (.iload_n 2, 1) := by decide +kernel
theorem dX6_together_20 : decode cX6_together 20 = .ok (.if_icmp .ne 13, 3) := by decide +kernel
theorem dX6_together_23 : decode cX6_together 23 = .ok (.new 99, 3) := by decide +kernel
theorem dX6_together_26 : decode cX6_together 26 = .ok (.dup, 1) := by decide +kernel
theorem dX6_together_27 : decode cX6_together 27 = .ok (.ldc 101, 2) := by decide +kernel
theorem dX6_together_29 : decode cX6_together 29 = .ok (.invokespecial 103, 3) := by decide +kernel
theorem dX6_together_32 : decode cX6_together 32 = .ok (.athrow, 1) := by decide +kernel
theorem dX6_together_33 : decode cX6_together 33 = .ok (.aload_n 0, 1) := by decide +kernel
theorem dX6_together_34 : decode cX6_together 34 = .ok (.getfield 10, 3) := by decide +kernel
theorem dX6_together_37 : decode cX6_together 37 = .ok (.iload_n 1, 1) := by decide +kernel
theorem dX6_together_38 : decode cX6_together 38 = .ok (.iload_n 2, 1) := by decide +kernel
theorem dX6_together_39 : decode cX6_together 39 = .ok (.iload_n 3, 1) := by decide +kernel
theorem dX6_together_40 : decode cX6_together 40 = .ok (.invokevirtual 104, 3) := by decide +kernel
theorem dX6_together_43 : decode cX6_together 43 = .ok (.ireturn, 1) := by decide +kernel
set_option maxRecDepth 20000 in
theorem ggX6_input_X6_checkInput : GoodIn wsX6_input wsX6_checkInput := goodIn_ca (goodIn_r _ [8, 9, 10] (by decide +kernel) (by decide +kernel)) (goodIn_sub (fun _ h => List.mem_cons_of_mem _ (List.mem_append_left _ (List.mem_append_right _ h))) (by decide +kernel))
set_option maxRecDepth 20000 in
theorem gX6_input_X6_checkInput : GoodIn wsX6_input (va_wsS RX6 63 yX6_checkInput wsX6_checkInput) := goodIn_app (goodIn_of _ (by decide +kernel)) ggX6_input_X6_checkInput
set_option maxRecDepth 20000 in
theorem ggX6_input_X6_checkRange : GoodIn wsX6_input wsX6_checkRange := goodIn_ca (goodIn_r _ [13, 14, 15] (by decide +kernel) (by decide +kernel)) (goodIn_sub (fun _ h => List.mem_cons_of_mem _ (List.mem_append_right _ h)) (by decide +kernel))
set_option maxRecDepth 20000 in
theorem gX6_input_X6_checkRange : GoodIn wsX6_input (va_wsS RX6 67 yX6_checkRange wsX6_checkRange) := goodIn_app (goodIn_of _ (by decide +kernel)) ggX6_input_X6_checkRange
set_option maxRecDepth 20000 in
theorem ggX6_input_X4_degreesOf : GoodIn wsX6_input wsX4_degreesOf := goodIn_r _ [20, 21, 37, 38, 39, 40, 41, 42, 43, 44, 45] (by decide +kernel) (by decide +kernel)
set_option maxRecDepth 20000 in
theorem gX6_input_X4_degreesOf : GoodIn wsX6_input (wsV RX6 117 RX4 yX4_degreesOf wsX4_degreesOf) := goodIn_app (goodIn_of _ (by decide +kernel)) ggX6_input_X4_degreesOf
set_option maxRecDepth 20000 in
theorem ggX6_input_X4_widthOrCount : GoodIn wsX6_input wsX4_widthOrCount := goodIn_r _ [25, 26, 21, 27, 37, 38, 39, 40, 41, 42, 43, 44, 45] (by decide +kernel) (by decide +kernel)
set_option maxRecDepth 20000 in
theorem gX6_input_X4_widthOrCount : GoodIn wsX6_input (wsV RX6 121 RX4 yX4_widthOrCount wsX4_widthOrCount) := goodIn_app (goodIn_of _ (by decide +kernel)) ggX6_input_X4_widthOrCount
theorem dX6_input_0 : decode cX6_input 0 = .ok (.iload_n 1, 1) := by decide +kernel
theorem dX6_input_1 : decode cX6_input 1 = .ok (.invokestatic 63, 3) := by decide +kernel
theorem dX6_input_4 : decode cX6_input 4 = .ok (.iload_n 2, 1) := by decide +kernel
theorem dX6_input_5 : decode cX6_input 5 = .ok (.iconst 0, 1) := by decide +kernel
theorem dX6_input_6 : decode cX6_input 6 = .ok (.iconst 4, 1) := by decide +kernel
theorem dX6_input_7 : decode cX6_input 7 = .ok (.invokestatic 67, 3) := by decide +kernel
theorem dX6_input_10 : decode cX6_input 10 = .ok (.iload_n 2, 1) := by decide +kernel
theorem dX6_input_11 : decode cX6_input 11 = .ok (.tableswitch 68 0 3 #[29, 39, 49, 59], 29) := by decide +kernel
theorem dX6_input_40 : decode cX6_input 40 = .ok (.aload_n 0, 1) := by decide +kernel
theorem dX6_input_41 : decode cX6_input 41 = .ok (.getfield 10, 3) := by decide +kernel
theorem dX6_input_44 : decode cX6_input 44 = .ok (.getfield 108, 3) := by decide +kernel
theorem dX6_input_47 : decode cX6_input 47 = .ok (.iload_n 1, 1) := by decide +kernel
theorem dX6_input_48 : decode cX6_input 48 = .ok (.iaload, 1) := by decide +kernel
theorem dX6_input_49 : decode cX6_input 49 = .ok (.ireturn, 1) := by decide +kernel
theorem dX6_input_50 : decode cX6_input 50 = .ok (.aload_n 0, 1) := by decide +kernel
theorem dX6_input_51 : decode cX6_input 51 = .ok (.getfield 10, 3) := by decide +kernel
theorem dX6_input_54 : decode cX6_input 54 = .ok (.getfield 111, 3) := by decide +kernel
theorem dX6_input_57 : decode cX6_input 57 = .ok (.iload_n 1, 1) := by decide +kernel
theorem dX6_input_58 : decode cX6_input 58 = .ok (.iaload, 1) := by decide +kernel
theorem dX6_input_59 : decode cX6_input 59 = .ok (.ireturn, 1) := by decide +kernel
theorem dX6_input_60 : decode cX6_input 60 = .ok (.aload_n 0, 1) := by decide +kernel
theorem dX6_input_61 : decode cX6_input 61 = .ok (.getfield 10, 3) := by decide +kernel
theorem dX6_input_64 : decode cX6_input 64 = .ok (.getfield 114, 3) := by decide +kernel
theorem dX6_input_67 : decode cX6_input 67 = .ok (.iload_n 1, 1) := by decide +kernel
theorem dX6_input_68 : decode cX6_input 68 = .ok (.iaload, 1) := by decide +kernel
theorem dX6_input_69 : decode cX6_input 69 = .ok (.ireturn, 1) := by decide +kernel
theorem dX6_input_70 : decode cX6_input 70 = .ok (.aload_n 0, 1) := by decide +kernel
theorem dX6_input_71 : decode cX6_input 71 = .ok (.getfield 10, 3) := by decide +kernel
theorem dX6_input_74 : decode cX6_input 74 = .ok (.iload_n 1, 1) := by decide +kernel
theorem dX6_input_75 : decode cX6_input 75 = .ok (.invokevirtual 117, 3) := by decide +kernel
theorem dX6_input_78 : decode cX6_input 78 = .ok (.ireturn, 1) := by decide +kernel
theorem dX6_input_79 : decode cX6_input 79 = .ok (.aload_n 0, 1) := by decide +kernel
theorem dX6_input_80 : decode cX6_input 80 = .ok (.getfield 10, 3) := by decide +kernel
theorem dX6_input_83 : decode cX6_input 83 = .ok (.iload_n 1, 1) := by decide +kernel
theorem dX6_input_84 : decode cX6_input 84 = .ok (.invokevirtual 121, 3) := by decide +kernel
theorem dX6_input_87 : decode cX6_input 87 = .ok (.ireturn, 1) := by decide +kernel
set_option maxRecDepth 20000 in
theorem ggX6_type_X5_countSigns : GoodIn wsX6_type wsX5_countSigns := goodIn_r _ [10, 11, 12, 9, 13] (by decide +kernel) (by decide +kernel)
set_option maxRecDepth 20000 in
theorem gX6_type_X5_countSigns : GoodIn wsX6_type (va_wsS RX6 124 yX5_countSigns wsX5_countSigns) := goodIn_app (goodIn_of _ (by decide +kernel)) ggX6_type_X5_countSigns
set_option maxRecDepth 20000 in
theorem ggX6_type_X5_append : GoodIn wsX6_type wsX5_append := goodIn_r _ [17, 18, 19, 11, 12, 9, 13, 29, 30, 31] (by decide +kernel) (by decide +kernel)
set_option maxRecDepth 20000 in
theorem gX6_type_X5_append : GoodIn wsX6_type (wsV RX6 135 RX5 yX5_append wsX5_append) := goodIn_app (goodIn_of _ (by decide +kernel)) ggX6_type_X5_append
theorem dX6_type_0 : decode cX6_type 0 = .ok (.lload_n 1, 1) := by decide +kernel
theorem dX6_type_1 : decode cX6_type 1 = .ok (.invokestatic 124, 3) := by decide +kernel
theorem dX6_type_4 : decode cX6_type 4 = .ok (.istore_n 3, 1) := by decide +kernel
theorem dX6_type_5 : decode cX6_type 5 = .ok (.iload_n 3, 1) := by decide +kernel
theorem dX6_type_6 : decode cX6_type 6 = .ok (.iconst (-1), 1) := by decide +kernel
theorem dX6_type_7 : decode cX6_type 7 = .ok (.if_icmp .ne 13, 3) := by decide +kernel
theorem dX6_type_10 : decode cX6_type 10 = .ok (.new 99, 3) := by decide +kernel
theorem dX6_type_13 : decode cX6_type 13 = .ok (.dup, 1) := by decide +kernel
theorem dX6_type_14 : decode cX6_type 14 = .ok (.ldc 128, 2) := by decide +kernel
theorem dX6_type_16 : decode cX6_type 16 = .ok (.invokespecial 103, 3) := by decide +kernel
theorem dX6_type_19 : decode cX6_type 19 = .ok (.athrow, 1) := by decide +kernel
theorem dX6_type_20 : decode cX6_type 20 = .ok (.aload_n 0, 1) := by decide +kernel
theorem dX6_type_21 : decode cX6_type 21 = .ok (.getfield 19, 3) := by decide +kernel
theorem dX6_type_24 : decode cX6_type 24 = .ok (.getfield 130, 3) := by decide +kernel
theorem dX6_type_27 : decode cX6_type 27 = .ok (.iload_n 3, 1) := by decide +kernel
theorem dX6_type_28 : decode cX6_type 28 = .ok (.iadd, 1) := by decide +kernel
theorem dX6_type_29 : decode cX6_type 29 = .ok (.bipush 60, 2) := by decide +kernel
theorem dX6_type_31 : decode cX6_type 31 = .ok (.if_icmp .le 13, 3) := by decide +kernel
theorem dX6_type_34 : decode cX6_type 34 = .ok (.new 78, 3) := by decide +kernel
theorem dX6_type_37 : decode cX6_type 37 = .ok (.dup, 1) := by decide +kernel
theorem dX6_type_38 : decode cX6_type 38 = .ok (.ldc 133, 2) := by decide +kernel
theorem dX6_type_40 : decode cX6_type 40 = .ok (.invokespecial 82, 3) := by decide +kernel
theorem dX6_type_43 : decode cX6_type 43 = .ok (.athrow, 1) := by decide +kernel
theorem dX6_type_44 : decode cX6_type 44 = .ok (.aload_n 0, 1) := by decide +kernel
theorem dX6_type_45 : decode cX6_type 45 = .ok (.getfield 19, 3) := by decide +kernel
theorem dX6_type_48 : decode cX6_type 48 = .ok (.lload_n 1, 1) := by decide +kernel
theorem dX6_type_49 : decode cX6_type 49 = .ok (.iload_n 3, 1) := by decide +kernel
theorem dX6_type_50 : decode cX6_type 50 = .ok (.invokevirtual 135, 3) := by decide +kernel
theorem dX6_type_53 : decode cX6_type 53 = .ok (.aload_n 0, 1) := by decide +kernel
theorem dX6_type_54 : decode cX6_type 54 = .ok (.getfield 19, 3) := by decide +kernel
theorem dX6_type_57 : decode cX6_type 57 = .ok (.getfield 130, 3) := by decide +kernel
theorem dX6_type_60 : decode cX6_type 60 = .ok (.ireturn, 1) := by decide +kernel
set_option maxRecDepth 20000 in
theorem ggX6_model_X5_readInto : GoodIn wsX6_model wsX5_readInto := goodIn_r _ [17, 18, 19, 20, 21, 22, 23, 11, 24, 25, 26, 27, 28, 29, 16, 30, 31, 32, 33, 34, 35, 36, 37, 38, 39, 40, 41, 42, 43, 44, 45, 46, 47, 48, 49, 50, 51, 52, 53, 54, 55, 56, 57, 58, 59, 60, 61, 62, 63, 64, 65, 66, 67, 68, 69, 70, 99, 100, 101, 90, 91, 92, 93, 94, 95, 96, 97, 98] (by decide +kernel) (by decide +kernel)
set_option maxRecDepth 20000 in
theorem gX6_model_X5_readInto : GoodIn wsX6_model (wsV RX6 146 RX5 yX5_readInto wsX5_readInto) := goodIn_app (goodIn_of _ (by decide +kernel)) ggX6_model_X5_readInto
set_option maxRecDepth 20000 in
theorem ggX6_model_X3_init : GoodIn wsX6_model wsX3_init := goodIn_r _ [72, 73, 74, 75, 76, 43, 44, 45, 46, 77, 78, 79, 80, 25, 26, 90, 91, 92, 93, 94, 95, 96, 97, 98] (by decide +kernel) (by decide +kernel)
set_option maxRecDepth 20000 in
theorem gX6_model_X3_init_n33 : GoodIn wsX6_model (wsX3_init) := ggX6_model_X3_init
theorem dX6_model_0 : decode cX6_model 0 = .ok (.iload_n 1, 1) := by decide +kernel
theorem dX6_model_1 : decode cX6_model 1 = .ok (.ifCond .lt 11, 3) := by decide +kernel
theorem dX6_model_4 : decode cX6_model 4 = .ok (.iload_n 1, 1) := by decide +kernel
theorem dX6_model_5 : decode cX6_model 5 = .ok (.aload_n 0, 1) := by decide +kernel
theorem dX6_model_6 : decode cX6_model 6 = .ok (.getfield 29, 3) := by decide +kernel
theorem dX6_model_9 : decode cX6_model 9 = .ok (.if_icmp .le 13, 3) := by decide +kernel
theorem dX6_model_12 : decode cX6_model 12 = .ok (.new 139, 3) := by decide +kernel
theorem dX6_model_15 : decode cX6_model 15 = .ok (.dup, 1) := by decide +kernel
theorem dX6_model_16 : decode cX6_model 16 = .ok (.ldc 141, 2) := by decide +kernel
theorem dX6_model_18 : decode cX6_model 18 = .ok (.invokespecial 143, 3) := by decide +kernel
theorem dX6_model_21 : decode cX6_model 21 = .ok (.athrow, 1) := by decide +kernel
theorem dX6_model_22 : decode cX6_model 22 = .ok (.iload_n 1, 1) := by decide +kernel
theorem dX6_model_23 : decode cX6_model 23 = .ok (.bipush 8, 2) := by decide +kernel
theorem dX6_model_25 : decode cX6_model 25 = .ok (.if_icmp .lt 13, 3) := by decide +kernel
theorem dX6_model_28 : decode cX6_model 28 = .ok (.new 78, 3) := by decide +kernel
theorem dX6_model_31 : decode cX6_model 31 = .ok (.dup, 1) := by decide +kernel
theorem dX6_model_32 : decode cX6_model 32 = .ok (.ldc 144, 2) := by decide +kernel
theorem dX6_model_34 : decode cX6_model 34 = .ok (.invokespecial 82, 3) := by decide +kernel
theorem dX6_model_37 : decode cX6_model 37 = .ok (.athrow, 1) := by decide +kernel
theorem dX6_model_38 : decode cX6_model 38 = .ok (.aload_n 0, 1) := by decide +kernel
theorem dX6_model_39 : decode cX6_model 39 = .ok (.getfield 19, 3) := by decide +kernel
theorem dX6_model_42 : decode cX6_model 42 = .ok (.aload_n 0, 1) := by decide +kernel
theorem dX6_model_43 : decode cX6_model 43 = .ok (.getfield 34, 3) := by decide +kernel
theorem dX6_model_46 : decode cX6_model 46 = .ok (.invokevirtual 146, 3) := by decide +kernel
theorem dX6_model_49 : decode cX6_model 49 = .ok (.istore_n 2, 1) := by decide +kernel
theorem dX6_model_50 : decode cX6_model 50 = .ok (.iload_n 2, 1) := by decide +kernel
theorem dX6_model_51 : decode cX6_model 51 = .ok (.iconst (-1), 1) := by decide +kernel
theorem dX6_model_52 : decode cX6_model 52 = .ok (.if_icmp .eq 7, 3) := by decide +kernel
theorem dX6_model_55 : decode cX6_model 55 = .ok (.iconst (-1), 1) := by decide +kernel
theorem dX6_model_56 : decode cX6_model 56 = .ok (.iload_n 2, 1) := by decide +kernel
theorem dX6_model_57 : decode cX6_model 57 = .ok (.isub, 1) := by decide +kernel
theorem dX6_model_58 : decode cX6_model 58 = .ok (.ireturn, 1) := by decide +kernel
theorem dX6_model_59 : decode cX6_model 59 = .ok (.aload_n 0, 1) := by decide +kernel
theorem dX6_model_60 : decode cX6_model 60 = .ok (.getfield 34, 3) := by decide +kernel
theorem dX6_model_63 : decode cX6_model 63 = .ok (.astore_n 3, 1) := by decide +kernel
theorem dX6_model_64 : decode cX6_model 64 = .ok (.aload_n 0, 1) := by decide +kernel
theorem dX6_model_65 : decode cX6_model 65 = .ok (.getfield 25, 3) := by decide +kernel
theorem dX6_model_68 : decode cX6_model 68 = .ok (.iload_n 1, 1) := by decide +kernel
theorem dX6_model_69 : decode cX6_model 69 = .ok (.aaload, 1) := by decide +kernel
theorem dX6_model_70 : decode cX6_model 70 = .ok (.astore 4, 2) := by decide +kernel
theorem dX6_model_72 : decode cX6_model 72 = .ok (.aload_n 0, 1) := by decide +kernel
theorem dX6_model_73 : decode cX6_model 73 = .ok (.aload 4, 2) := by decide +kernel
theorem dX6_model_75 : decode cX6_model 75 = .ok (.ifnonnull 13, 3) := by decide +kernel
theorem dX6_model_78 : decode cX6_model 78 = .ok (.new 23, 3) := by decide +kernel
theorem dX6_model_81 : decode cX6_model 81 = .ok (.dup, 1) := by decide +kernel
theorem dX6_model_82 : decode cX6_model 82 = .ok (.invokespecial 33, 3) := by decide +kernel
theorem dX6_model_85 : decode cX6_model 85 = .ok (.goto 5, 3) := by decide +kernel
theorem dX6_model_88 : decode cX6_model 88 = .ok (.aload 4, 2) := by decide +kernel
theorem dX6_model_90 : decode cX6_model 90 = .ok (.putfield 34, 3) := by decide +kernel
theorem dX6_model_93 : decode cX6_model 93 = .ok (.aload_n 0, 1) := by decide +kernel
theorem dX6_model_94 : decode cX6_model 94 = .ok (.getfield 25, 3) := by decide +kernel
theorem dX6_model_97 : decode cX6_model 97 = .ok (.iload_n 1, 1) := by decide +kernel
theorem dX6_model_98 : decode cX6_model 98 = .ok (.aload_n 3, 1) := by decide +kernel
theorem dX6_model_99 : decode cX6_model 99 = .ok (.aastore, 1) := by decide +kernel
theorem dX6_model_100 : decode cX6_model 100 = .ok (.iload_n 1, 1) := by decide +kernel
theorem dX6_model_101 : decode cX6_model 101 = .ok (.aload_n 0, 1) := by decide +kernel
theorem dX6_model_102 : decode cX6_model 102 = .ok (.getfield 29, 3) := by decide +kernel
theorem dX6_model_105 : decode cX6_model 105 = .ok (.if_icmp .ne 13, 3) := by decide +kernel
theorem dX6_model_108 : decode cX6_model 108 = .ok (.aload_n 0, 1) := by decide +kernel
theorem dX6_model_109 : decode cX6_model 109 = .ok (.dup, 1) := by decide +kernel
theorem dX6_model_110 : decode cX6_model 110 = .ok (.getfield 29, 3) := by decide +kernel
theorem dX6_model_113 : decode cX6_model 113 = .ok (.iconst 1, 1) := by decide +kernel
theorem dX6_model_114 : decode cX6_model 114 = .ok (.iadd, 1) := by decide +kernel
theorem dX6_model_115 : decode cX6_model 115 = .ok (.putfield 29, 3) := by decide +kernel
theorem dX6_model_118 : decode cX6_model 118 = .ok (.aload_n 3, 1) := by decide +kernel
theorem dX6_model_119 : decode cX6_model 119 = .ok (.getfield 150, 3) := by decide +kernel
theorem dX6_model_122 : decode cX6_model 122 = .ok (.ireturn, 1) := by decide +kernel
set_option maxRecDepth 20000 in
theorem ggX6_disagrees_X6_formulaOf : GoodIn wsX6_disagrees wsX6_formulaOf := goodIn_ca (goodIn_r _ [8, 9, 10, 11, 43, 44, 45, 46, 47, 48, 49, 50, 51] (by decide +kernel) (by decide +kernel)) (goodIn_sub (fun _ h => List.mem_cons_of_mem _ (List.mem_append_right _ h)) (by decide +kernel))
set_option maxRecDepth 20000 in
theorem gX6_disagrees_X6_formulaOf : GoodIn wsX6_disagrees (wsV RX6 153 RX6 yX6_formulaOf wsX6_formulaOf) := goodIn_app (goodIn_of _ (by decide +kernel)) ggX6_disagrees_X6_formulaOf
set_option maxRecDepth 20000 in
theorem ggX6_disagrees_X3_findDisagreement : GoodIn wsX6_disagrees wsX3_findDisagreement := goodIn_r _ [16, 17, 18, 19, 20, 21, 22, 23, 24, 25, 26, 15, 27, 28, 29, 30, 31, 32, 33, 34, 35, 36, 37, 38, 39, 40, 41, 42, 61, 62, 63, 64, 65, 66, 67, 68, 69] (by decide +kernel) (by decide +kernel)
set_option maxRecDepth 20000 in
theorem gX6_disagrees_X3_findDisagreement : GoodIn wsX6_disagrees (wsV RX6 157 RX3 yX3_findDisagreement wsX3_findDisagreement) := goodIn_app (goodIn_of _ (by decide +kernel)) ggX6_disagrees_X3_findDisagreement
theorem dX6_disagrees_0 : decode cX6_disagrees 0 = .ok (.aload_n 0, 1) := by decide +kernel
theorem dX6_disagrees_1 : decode cX6_disagrees 1 = .ok (.iload_n 1, 1) := by decide +kernel
theorem dX6_disagrees_2 : decode cX6_disagrees 2 = .ok (.invokevirtual 153, 3) := by decide +kernel
theorem dX6_disagrees_5 : decode cX6_disagrees 5 = .ok (.aload_n 0, 1) := by decide +kernel
theorem dX6_disagrees_6 : decode cX6_disagrees 6 = .ok (.getfield 10, 3) := by decide +kernel
theorem dX6_disagrees_9 : decode cX6_disagrees 9 = .ok (.getfield 89, 3) := by decide +kernel
theorem dX6_disagrees_12 : decode cX6_disagrees 12 = .ok (.aload_n 0, 1) := by decide +kernel
theorem dX6_disagrees_13 : decode cX6_disagrees 13 = .ok (.getfield 10, 3) := by decide +kernel
theorem dX6_disagrees_16 : decode cX6_disagrees 16 = .ok (.getfield 92, 3) := by decide +kernel
theorem dX6_disagrees_19 : decode cX6_disagrees 19 = .ok (.invokevirtual 157, 3) := by decide +kernel
theorem dX6_disagrees_22 : decode cX6_disagrees 22 = .ok (.ireturn, 1) := by decide +kernel
set_option maxRecDepth 20000 in
theorem ggX6_value_X6_formulaOf : GoodIn wsX6_value wsX6_formulaOf := goodIn_ca (goodIn_r _ [7, 8, 9, 10, 29, 30, 31, 32, 33, 34, 35, 36, 37] (by decide +kernel) (by decide +kernel)) (goodIn_sub (fun _ h => List.mem_cons_of_mem _ (List.mem_append_right _ h)) (by decide +kernel))
set_option maxRecDepth 20000 in
theorem gX6_value_X6_formulaOf : GoodIn wsX6_value (wsV RX6 153 RX6 yX6_formulaOf wsX6_formulaOf) := goodIn_app (goodIn_of _ (by decide +kernel)) ggX6_value_X6_formulaOf
set_option maxRecDepth 20000 in
theorem ggX6_value_X3_reckonBy : GoodIn wsX6_value wsX3_reckonBy := goodIn_r _ [15, 16, 17, 18, 19, 20, 21, 14, 22, 23, 24, 25, 26, 27, 28, 47, 48, 49, 50, 51, 52, 53, 54, 55] (by decide +kernel) (by decide +kernel)
set_option maxRecDepth 20000 in
theorem gX6_value_X3_reckonBy : GoodIn wsX6_value (wsV RX6 165 RX3 yX3_reckonBy wsX3_reckonBy) := goodIn_app (goodIn_of _ (by decide +kernel)) ggX6_value_X3_reckonBy
theorem dX6_value_0 : decode cX6_value 0 = .ok (.aload_n 0, 1) := by decide +kernel
theorem dX6_value_1 : decode cX6_value 1 = .ok (.iload_n 1, 1) := by decide +kernel
theorem dX6_value_2 : decode cX6_value 2 = .ok (.invokevirtual 153, 3) := by decide +kernel
theorem dX6_value_5 : decode cX6_value 5 = .ok (.aload_n 0, 1) := by decide +kernel
theorem dX6_value_6 : decode cX6_value 6 = .ok (.getfield 10, 3) := by decide +kernel
theorem dX6_value_9 : decode cX6_value 9 = .ok (.getfield 108, 3) := by decide +kernel
theorem dX6_value_12 : decode cX6_value 12 = .ok (.invokevirtual 165, 3) := by decide +kernel
theorem dX6_value_15 : decode cX6_value 15 = .ok (.lreturn, 1) := by decide +kernel
set_option maxRecDepth 20000 in
theorem ggX6_sensitivity_X6_formulaOf : GoodIn wsX6_sensitivity wsX6_formulaOf := goodIn_ca (goodIn_r _ [7, 8, 9, 10, 45, 46, 47, 48, 49, 50, 51, 52, 53] (by decide +kernel) (by decide +kernel)) (goodIn_sub (fun _ h => List.mem_cons_of_mem _ (List.mem_append_right _ h)) (by decide +kernel))
set_option maxRecDepth 20000 in
theorem gX6_sensitivity_X6_formulaOf : GoodIn wsX6_sensitivity (wsV RX6 153 RX6 yX6_formulaOf wsX6_formulaOf) := goodIn_app (goodIn_of _ (by decide +kernel)) ggX6_sensitivity_X6_formulaOf
set_option maxRecDepth 20000 in
theorem ggX6_sensitivity_X6_checkInput : GoodIn wsX6_sensitivity wsX6_checkInput := goodIn_ca (goodIn_r _ [13, 8, 9] (by decide +kernel) (by decide +kernel)) (goodIn_sub (fun _ h => List.mem_cons_of_mem _ (List.mem_append_right _ h)) (by decide +kernel))
set_option maxRecDepth 20000 in
theorem gX6_sensitivity_X6_checkInput : GoodIn wsX6_sensitivity (va_wsS RX6 63 yX6_checkInput wsX6_checkInput) := goodIn_app (goodIn_of _ (by decide +kernel)) ggX6_sensitivity_X6_checkInput
set_option maxRecDepth 20000 in
theorem ggX6_sensitivity_X3_slopeForward : GoodIn wsX6_sensitivity wsX3_slopeForward := goodIn_r _ [18, 19, 20, 21, 22, 23, 24, 17, 25, 26, 27, 28, 29, 30, 31, 32, 33, 34, 35, 36, 37, 38, 39, 40, 41, 42, 43, 44, 63, 64, 65, 66, 67, 68, 69, 70, 71] (by decide +kernel) (by decide +kernel)
set_option maxRecDepth 20000 in
theorem gX6_sensitivity_X3_slopeForward : GoodIn wsX6_sensitivity (wsV RX6 169 RX3 yX3_slopeForward wsX3_slopeForward) := goodIn_app (goodIn_of _ (by decide +kernel)) ggX6_sensitivity_X3_slopeForward
theorem dX6_sensitivity_0 : decode cX6_sensitivity 0 = .ok (.aload_n 0, 1) := by decide +kernel
theorem dX6_sensitivity_1 : decode cX6_sensitivity 1 = .ok (.iload_n 1, 1) := by decide +kernel
theorem dX6_sensitivity_2 : decode cX6_sensitivity 2 = .ok (.invokevirtual 153, 3) := by decide +kernel
theorem dX6_sensitivity_5 : decode cX6_sensitivity 5 = .ok (.astore_n 3, 1) := by decide +kernel
theorem dX6_sensitivity_6 : decode cX6_sensitivity 6 = .ok (.iload_n 2, 1) := by decide +kernel
theorem dX6_sensitivity_7 : decode cX6_sensitivity 7 = .ok (.invokestatic 63, 3) := by decide +kernel
theorem dX6_sensitivity_10 : decode cX6_sensitivity 10 = .ok (.aload_n 3, 1) := by decide +kernel
theorem dX6_sensitivity_11 : decode cX6_sensitivity 11 = .ok (.aload_n 0, 1) := by decide +kernel
theorem dX6_sensitivity_12 : decode cX6_sensitivity 12 = .ok (.getfield 10, 3) := by decide +kernel
theorem dX6_sensitivity_15 : decode cX6_sensitivity 15 = .ok (.getfield 108, 3) := by decide +kernel
theorem dX6_sensitivity_18 : decode cX6_sensitivity 18 = .ok (.iload_n 2, 1) := by decide +kernel
theorem dX6_sensitivity_19 : decode cX6_sensitivity 19 = .ok (.invokevirtual 169, 3) := by decide +kernel
theorem dX6_sensitivity_22 : decode cX6_sensitivity 22 = .ok (.lreturn, 1) := by decide +kernel
set_option maxRecDepth 20000 in
theorem ggX6_sensitivityAnew_X6_formulaOf : GoodIn wsX6_sensitivityAnew wsX6_formulaOf := goodIn_ca (goodIn_r _ [9, 10, 11, 12, 51, 52, 53, 54, 55, 56, 57, 58, 59] (by decide +kernel) (by decide +kernel)) (goodIn_sub (fun _ h => List.mem_cons_of_mem _ (List.mem_append_right _ h)) (by decide +kernel))
set_option maxRecDepth 20000 in
theorem gX6_sensitivityAnew_X6_formulaOf : GoodIn wsX6_sensitivityAnew (wsV RX6 153 RX6 yX6_formulaOf wsX6_formulaOf) := goodIn_app (goodIn_of _ (by decide +kernel)) ggX6_sensitivityAnew_X6_formulaOf
set_option maxRecDepth 20000 in
theorem ggX6_sensitivityAnew_X6_checkInput : GoodIn wsX6_sensitivityAnew wsX6_checkInput := goodIn_ca (goodIn_r _ [15, 10, 11] (by decide +kernel) (by decide +kernel)) (goodIn_sub (fun _ h => List.mem_cons_of_mem _ (List.mem_append_right _ h)) (by decide +kernel))
set_option maxRecDepth 20000 in
theorem gX6_sensitivityAnew_X6_checkInput : GoodIn wsX6_sensitivityAnew (va_wsS RX6 63 yX6_checkInput wsX6_checkInput) := goodIn_app (goodIn_of _ (by decide +kernel)) ggX6_sensitivityAnew_X6_checkInput
set_option maxRecDepth 20000 in
theorem ggX6_sensitivityAnew_X3_slopesBackward : GoodIn wsX6_sensitivityAnew wsX3_slopesBackward := goodIn_r _ [20, 21, 22, 23, 24, 25, 26, 27, 28, 19, 29, 30, 31, 32, 33, 34, 35, 36, 37, 38, 39, 40, 41, 42, 43, 44, 45, 46, 47, 48, 49, 50, 73, 74, 75, 76, 77, 78, 79, 80, 81] (by decide +kernel) (by decide +kernel)
set_option maxRecDepth 20000 in
theorem gX6_sensitivityAnew_X3_slopesBackward : GoodIn wsX6_sensitivityAnew (wsV RX6 177 RX3 yX3_slopesBackward wsX3_slopesBackward) := goodIn_app (goodIn_of _ (by decide +kernel)) ggX6_sensitivityAnew_X3_slopesBackward
theorem dX6_sensitivityAnew_0 : decode cX6_sensitivityAnew 0 = .ok (.aload_n 0, 1) := by decide +kernel
theorem dX6_sensitivityAnew_1 : decode cX6_sensitivityAnew 1 = .ok (.iload_n 1, 1) := by decide +kernel
theorem dX6_sensitivityAnew_2 : decode cX6_sensitivityAnew 2 = .ok (.invokevirtual 153, 3) := by decide +kernel
theorem dX6_sensitivityAnew_5 : decode cX6_sensitivityAnew 5 = .ok (.astore_n 3, 1) := by decide +kernel
theorem dX6_sensitivityAnew_6 : decode cX6_sensitivityAnew 6 = .ok (.iload_n 2, 1) := by decide +kernel
theorem dX6_sensitivityAnew_7 : decode cX6_sensitivityAnew 7 = .ok (.invokestatic 63, 3) := by decide +kernel
theorem dX6_sensitivityAnew_10 : decode cX6_sensitivityAnew 10 = .ok (.aload_n 3, 1) := by decide +kernel
theorem dX6_sensitivityAnew_11 : decode cX6_sensitivityAnew 11 = .ok (.aload_n 0, 1) := by decide +kernel
theorem dX6_sensitivityAnew_12 : decode cX6_sensitivityAnew 12 = .ok (.getfield 10, 3) := by decide +kernel
theorem dX6_sensitivityAnew_15 : decode cX6_sensitivityAnew 15 = .ok (.getfield 108, 3) := by decide +kernel
theorem dX6_sensitivityAnew_18 : decode cX6_sensitivityAnew 18 = .ok (.aload_n 0, 1) := by decide +kernel
theorem dX6_sensitivityAnew_19 : decode cX6_sensitivityAnew 19 = .ok (.getfield 41, 3) := by decide +kernel
theorem dX6_sensitivityAnew_22 : decode cX6_sensitivityAnew 22 = .ok (.getfield 173, 3) := by decide +kernel
theorem dX6_sensitivityAnew_25 : decode cX6_sensitivityAnew 25 = .ok (.invokevirtual 177, 3) := by decide +kernel
theorem dX6_sensitivityAnew_28 : decode cX6_sensitivityAnew 28 = .ok (.aload_n 0, 1) := by decide +kernel
theorem dX6_sensitivityAnew_29 : decode cX6_sensitivityAnew 29 = .ok (.getfield 41, 3) := by decide +kernel
theorem dX6_sensitivityAnew_32 : decode cX6_sensitivityAnew 32 = .ok (.getfield 173, 3) := by decide +kernel
theorem dX6_sensitivityAnew_35 : decode cX6_sensitivityAnew 35 = .ok (.iload_n 2, 1) := by decide +kernel
theorem dX6_sensitivityAnew_36 : decode cX6_sensitivityAnew 36 = .ok (.laload, 1) := by decide +kernel
theorem dX6_sensitivityAnew_37 : decode cX6_sensitivityAnew 37 = .ok (.lreturn, 1) := by decide +kernel
set_option maxRecDepth 20000 in
theorem ggX6_budget_X6_formulaOf : GoodIn wsX6_budget wsX6_formulaOf := goodIn_ca (goodIn_r _ [9, 10, 11, 12, 112, 113, 114, 115, 116, 117, 118, 119, 120] (by decide +kernel) (by decide +kernel)) (goodIn_sub (fun _ h => List.mem_cons_of_mem _ (List.mem_append_left _ (List.mem_append_right _ h))) (by decide +kernel))
set_option maxRecDepth 20000 in
theorem gX6_budget_X6_formulaOf : GoodIn wsX6_budget (wsV RX6 153 RX6 yX6_formulaOf wsX6_formulaOf) := goodIn_app (goodIn_of _ (by decide +kernel)) ggX6_budget_X6_formulaOf
set_option maxRecDepth 20000 in
theorem ggX6_budget_X6_checkRange : GoodIn wsX6_budget wsX6_checkRange := goodIn_ca (goodIn_r _ [15, 16, 17] (by decide +kernel) (by decide +kernel)) (goodIn_sub (fun _ h => List.mem_cons_of_mem _ (List.mem_append_right _ h)) (by decide +kernel))
set_option maxRecDepth 20000 in
theorem gX6_budget_X6_checkRange : GoodIn wsX6_budget (va_wsS RX6 67 yX6_checkRange wsX6_checkRange) := goodIn_app (goodIn_of _ (by decide +kernel)) ggX6_budget_X6_checkRange
set_option maxRecDepth 20000 in
theorem ggX6_budget_X0_reckon : GoodIn wsX6_budget wsX0_reckon := goodIn_r _ [22, 23, 24, 25, 26, 27, 28, 29, 30, 31, 32, 33, 34, 35, 36, 37, 38, 39, 40, 41, 42, 43, 44, 45, 46, 47, 48, 49, 50, 51, 52, 53, 54, 55, 56, 57, 58, 59, 60, 61, 62, 63, 64, 65, 66, 67, 21, 68, 69, 70, 71, 72, 73, 74, 75, 76, 77, 78, 79, 80, 125, 126, 127, 128, 129, 130, 131, 132, 133, 121, 122, 123, 124, 134, 135, 136, 137, 138, 139, 140, 141, 142] (by decide +kernel) (by decide +kernel)
set_option maxRecDepth 20000 in
theorem gX6_budget_X0_reckon : GoodIn wsX6_budget (wsV RX6 181 RX0 yX0_reckon wsX0_reckon) := goodIn_app (goodIn_of _ (by decide +kernel)) ggX6_budget_X0_reckon
set_option maxRecDepth 20000 in
theorem ggX6_budget_X0_doubt : GoodIn wsX6_budget wsX0_doubt := goodIn_r _ [84, 25, 85, 86, 121, 122, 123, 124] (by decide +kernel) (by decide +kernel)
set_option maxRecDepth 20000 in
theorem gX6_budget_X0_doubt : GoodIn wsX6_budget (wsV RX6 189 RX0 yX0_doubt wsX0_doubt) := goodIn_app (goodIn_of _ (by decide +kernel)) ggX6_budget_X0_doubt
set_option maxRecDepth 20000 in
theorem ggX6_budget_X0_degrees : GoodIn wsX6_budget wsX0_degrees := goodIn_r _ [90, 69, 85, 91, 121, 122, 123, 124] (by decide +kernel) (by decide +kernel)
set_option maxRecDepth 20000 in
theorem gX6_budget_X0_degrees : GoodIn wsX6_budget (wsV RX6 193 RX0 yX0_degrees wsX0_degrees) := goodIn_app (goodIn_of _ (by decide +kernel)) ggX6_budget_X0_degrees
set_option maxRecDepth 20000 in
theorem ggX6_budget_X0_factor : GoodIn wsX6_budget wsX0_factor := goodIn_r _ [95, 69, 96, 97, 88, 89, 21, 90, 85, 91, 98, 99, 100, 101, 102, 103, 104, 105, 121, 122, 123, 124, 143, 144, 145] (by decide +kernel) (by decide +kernel)
set_option maxRecDepth 20000 in
theorem gX6_budget_X0_factor : GoodIn wsX6_budget (wsV RX6 196 RX0 yX0_factor wsX0_factor) := goodIn_app (goodIn_of _ (by decide +kernel)) ggX6_budget_X0_factor
set_option maxRecDepth 20000 in
theorem ggX6_budget_X0_statedDoubt : GoodIn wsX6_budget wsX0_statedDoubt := goodIn_r _ [109, 85, 80, 110, 82, 83, 21, 84, 25, 86, 111, 93, 94, 95, 69, 96, 97, 88, 89, 90, 91, 98, 99, 100, 101, 102, 103, 104, 105, 121, 122, 123, 124, 143, 144, 145] (by decide +kernel) (by decide +kernel)
set_option maxRecDepth 20000 in
theorem gX6_budget_X0_statedDoubt : GoodIn wsX6_budget (wsV RX6 200 RX0 yX0_statedDoubt wsX0_statedDoubt) := goodIn_app (goodIn_of _ (by decide +kernel)) ggX6_budget_X0_statedDoubt
theorem dX6_budget_0 : decode cX6_budget 0 = .ok (.aload_n 0, 1) := by decide +kernel
theorem dX6_budget_1 : decode cX6_budget 1 = .ok (.iload_n 1, 1) := by decide +kernel
theorem dX6_budget_2 : decode cX6_budget 2 = .ok (.invokevirtual 153, 3) := by decide +kernel
theorem dX6_budget_5 : decode cX6_budget 5 = .ok (.astore_n 3, 1) := by decide +kernel
theorem dX6_budget_6 : decode cX6_budget 6 = .ok (.iload_n 2, 1) := by decide +kernel
theorem dX6_budget_7 : decode cX6_budget 7 = .ok (.iconst 0, 1) := by decide +kernel
theorem dX6_budget_8 : decode cX6_budget 8 = .ok (.iconst 4, 1) := by decide +kernel
theorem dX6_budget_9 : decode cX6_budget 9 = .ok (.invokestatic 67, 3) := by decide +kernel
theorem dX6_budget_12 : decode cX6_budget 12 = .ok (.aload_n 0, 1) := by decide +kernel
theorem dX6_budget_13 : decode cX6_budget 13 = .ok (.getfield 41, 3) := by decide +kernel
theorem dX6_budget_16 : decode cX6_budget 16 = .ok (.aload_n 3, 1) := by decide +kernel
theorem dX6_budget_17 : decode cX6_budget 17 = .ok (.aload_n 0, 1) := by decide +kernel
theorem dX6_budget_18 : decode cX6_budget 18 = .ok (.getfield 10, 3) := by decide +kernel
theorem dX6_budget_21 : decode cX6_budget 21 = .ok (.invokevirtual 181, 3) := by decide +kernel
theorem dX6_budget_24 : decode cX6_budget 24 = .ok (.iload_n 2, 1) := by decide +kernel
theorem dX6_budget_25 : decode cX6_budget 25 = .ok (.tableswitch 68 0 3 #[31, 39, 47, 55], 31) := by decide +kernel
theorem dX6_budget_56 : decode cX6_budget 56 = .ok (.aload_n 0, 1) := by decide +kernel
theorem dX6_budget_57 : decode cX6_budget 57 = .ok (.getfield 41, 3) := by decide +kernel
theorem dX6_budget_60 : decode cX6_budget 60 = .ok (.getfield 185, 3) := by decide +kernel
theorem dX6_budget_63 : decode cX6_budget 63 = .ok (.lreturn, 1) := by decide +kernel
theorem dX6_budget_64 : decode cX6_budget 64 = .ok (.aload_n 0, 1) := by decide +kernel
theorem dX6_budget_65 : decode cX6_budget 65 = .ok (.getfield 41, 3) := by decide +kernel
theorem dX6_budget_68 : decode cX6_budget 68 = .ok (.invokevirtual 189, 3) := by decide +kernel
theorem dX6_budget_71 : decode cX6_budget 71 = .ok (.lreturn, 1) := by decide +kernel
theorem dX6_budget_72 : decode cX6_budget 72 = .ok (.aload_n 0, 1) := by decide +kernel
theorem dX6_budget_73 : decode cX6_budget 73 = .ok (.getfield 41, 3) := by decide +kernel
theorem dX6_budget_76 : decode cX6_budget 76 = .ok (.invokevirtual 193, 3) := by decide +kernel
theorem dX6_budget_79 : decode cX6_budget 79 = .ok (.lreturn, 1) := by decide +kernel
theorem dX6_budget_80 : decode cX6_budget 80 = .ok (.aload_n 0, 1) := by decide +kernel
theorem dX6_budget_81 : decode cX6_budget 81 = .ok (.getfield 41, 3) := by decide +kernel
theorem dX6_budget_84 : decode cX6_budget 84 = .ok (.aload_n 0, 1) := by decide +kernel
theorem dX6_budget_85 : decode cX6_budget 85 = .ok (.getfield 48, 3) := by decide +kernel
theorem dX6_budget_88 : decode cX6_budget 88 = .ok (.invokevirtual 196, 3) := by decide +kernel
theorem dX6_budget_91 : decode cX6_budget 91 = .ok (.i2l, 1) := by decide +kernel
theorem dX6_budget_92 : decode cX6_budget 92 = .ok (.lreturn, 1) := by decide +kernel
theorem dX6_budget_93 : decode cX6_budget 93 = .ok (.aload_n 0, 1) := by decide +kernel
theorem dX6_budget_94 : decode cX6_budget 94 = .ok (.getfield 41, 3) := by decide +kernel
theorem dX6_budget_97 : decode cX6_budget 97 = .ok (.aload_n 0, 1) := by decide +kernel
theorem dX6_budget_98 : decode cX6_budget 98 = .ok (.getfield 48, 3) := by decide +kernel
theorem dX6_budget_101 : decode cX6_budget 101 = .ok (.invokevirtual 200, 3) := by decide +kernel
theorem dX6_budget_104 : decode cX6_budget 104 = .ok (.lreturn, 1) := by decide +kernel
set_option maxRecDepth 20000 in
theorem ggX6_contribution_X6_formulaOf : GoodIn wsX6_contribution wsX6_formulaOf := goodIn_ca (goodIn_r _ [8, 9, 10, 11, 79, 80, 81, 82, 83, 84, 85, 86, 87] (by decide +kernel) (by decide +kernel)) (goodIn_sub (fun _ h => List.mem_cons_of_mem _ (List.mem_append_right _ h)) (by decide +kernel))
set_option maxRecDepth 20000 in
theorem gX6_contribution_X6_formulaOf : GoodIn wsX6_contribution (wsV RX6 153 RX6 yX6_formulaOf wsX6_formulaOf) := goodIn_app (goodIn_of _ (by decide +kernel)) ggX6_contribution_X6_formulaOf
set_option maxRecDepth 20000 in
theorem ggX6_contribution_X6_checkInput : GoodIn wsX6_contribution wsX6_checkInput := goodIn_ca (goodIn_r _ [14, 9, 10] (by decide +kernel) (by decide +kernel)) (goodIn_sub (fun _ h => List.mem_cons_of_mem _ (List.mem_append_right _ h)) (by decide +kernel))
set_option maxRecDepth 20000 in
theorem gX6_contribution_X6_checkInput : GoodIn wsX6_contribution (va_wsS RX6 63 yX6_checkInput wsX6_checkInput) := goodIn_app (goodIn_of _ (by decide +kernel)) ggX6_contribution_X6_checkInput
set_option maxRecDepth 20000 in
theorem ggX6_contribution_X0_reckon : GoodIn wsX6_contribution wsX0_reckon := goodIn_r _ [19, 20, 21, 22, 23, 24, 25, 26, 27, 28, 29, 30, 31, 32, 33, 34, 35, 36, 37, 38, 39, 40, 41, 42, 43, 44, 45, 46, 47, 48, 49, 50, 51, 52, 53, 54, 55, 56, 57, 58, 59, 60, 61, 62, 63, 64, 18, 65, 66, 67, 68, 69, 70, 71, 72, 73, 74, 75, 76, 77, 92, 93, 94, 95, 96, 97, 98, 99, 100, 88, 89, 90, 91, 101, 102, 103, 104, 105, 106, 107, 108, 109] (by decide +kernel) (by decide +kernel)
set_option maxRecDepth 20000 in
theorem gX6_contribution_X0_reckon : GoodIn wsX6_contribution (wsV RX6 181 RX0 yX0_reckon wsX0_reckon) := goodIn_app (goodIn_of _ (by decide +kernel)) ggX6_contribution_X0_reckon
set_option maxRecDepth 20000 in
theorem ggX6_contribution_X0_shareOf : GoodIn wsX6_contribution wsX0_shareOf := goodIn_r _ [76, 22, 77, 23, 88, 89, 90, 91] (by decide +kernel) (by decide +kernel)
set_option maxRecDepth 20000 in
theorem gX6_contribution_X0_shareOf : GoodIn wsX6_contribution (wsV RX6 204 RX0 yX0_shareOf wsX0_shareOf) := goodIn_app (goodIn_of _ (by decide +kernel)) ggX6_contribution_X0_shareOf
theorem dX6_contribution_0 : decode cX6_contribution 0 = .ok (.aload_n 0, 1) := by decide +kernel
theorem dX6_contribution_1 : decode cX6_contribution 1 = .ok (.iload_n 1, 1) := by decide +kernel
theorem dX6_contribution_2 : decode cX6_contribution 2 = .ok (.invokevirtual 153, 3) := by decide +kernel
theorem dX6_contribution_5 : decode cX6_contribution 5 = .ok (.astore 4, 2) := by decide +kernel
theorem dX6_contribution_7 : decode cX6_contribution 7 = .ok (.iload_n 2, 1) := by decide +kernel
theorem dX6_contribution_8 : decode cX6_contribution 8 = .ok (.invokestatic 63, 3) := by decide +kernel
theorem dX6_contribution_11 : decode cX6_contribution 11 = .ok (.aload_n 0, 1) := by decide +kernel
theorem dX6_contribution_12 : decode cX6_contribution 12 = .ok (.getfield 41, 3) := by decide +kernel
theorem dX6_contribution_15 : decode cX6_contribution 15 = .ok (.aload 4, 2) := by decide +kernel
theorem dX6_contribution_17 : decode cX6_contribution 17 = .ok (.aload_n 0, 1) := by decide +kernel
theorem dX6_contribution_18 : decode cX6_contribution 18 = .ok (.getfield 10, 3) := by decide +kernel
theorem dX6_contribution_21 : decode cX6_contribution 21 = .ok (.invokevirtual 181, 3) := by decide +kernel
theorem dX6_contribution_24 : decode cX6_contribution 24 = .ok (.iload_n 3, 1) := by decide +kernel
theorem dX6_contribution_25 : decode cX6_contribution 25 = .ok (.ifCond .eq 14, 3) := by decide +kernel
theorem dX6_contribution_28 : decode cX6_contribution 28 = .ok (.aload_n 0, 1) := by decide +kernel
theorem dX6_contribution_29 : decode cX6_contribution 29 = .ok (.getfield 41, 3) := by decide +kernel
theorem dX6_contribution_32 : decode cX6_contribution 32 = .ok (.iload_n 2, 1) := by decide +kernel
theorem dX6_contribution_33 : decode cX6_contribution 33 = .ok (.invokevirtual 204, 3) := by decide +kernel
theorem dX6_contribution_36 : decode cX6_contribution 36 = .ok (.goto 12, 3) := by decide +kernel
theorem dX6_contribution_39 : decode cX6_contribution 39 = .ok (.aload_n 0, 1) := by decide +kernel
theorem dX6_contribution_40 : decode cX6_contribution 40 = .ok (.getfield 41, 3) := by decide +kernel
theorem dX6_contribution_43 : decode cX6_contribution 43 = .ok (.getfield 208, 3) := by decide +kernel
theorem dX6_contribution_46 : decode cX6_contribution 46 = .ok (.iload_n 2, 1) := by decide +kernel
theorem dX6_contribution_47 : decode cX6_contribution 47 = .ok (.laload, 1) := by decide +kernel
theorem dX6_contribution_48 : decode cX6_contribution 48 = .ok (.lreturn, 1) := by decide +kernel
set_option maxRecDepth 20000 in
theorem ggX6_ranked_X6_formulaOf : GoodIn wsX6_ranked wsX6_formulaOf := goodIn_ca (goodIn_r _ [9, 1, 2, 10, 82, 83, 84, 85, 86, 87, 88, 89, 90] (by decide +kernel) (by decide +kernel)) (goodIn_sub (fun _ h => List.mem_cons_of_mem _ (List.mem_append_right _ h)) (by decide +kernel))
set_option maxRecDepth 20000 in
theorem gX6_ranked_X6_formulaOf : GoodIn wsX6_ranked (wsV RX6 153 RX6 yX6_formulaOf wsX6_formulaOf) := goodIn_app (goodIn_of _ (by decide +kernel)) ggX6_ranked_X6_formulaOf
set_option maxRecDepth 20000 in
theorem ggX6_ranked_X0_reckon : GoodIn wsX6_ranked wsX0_reckon := goodIn_r _ [15, 16, 17, 18, 19, 20, 21, 22, 23, 24, 25, 26, 27, 28, 29, 30, 31, 32, 33, 34, 35, 36, 37, 38, 39, 40, 41, 42, 43, 44, 45, 46, 47, 48, 49, 50, 51, 52, 53, 54, 55, 56, 57, 58, 59, 60, 14, 61, 62, 63, 64, 65, 66, 67, 68, 69, 70, 71, 72, 73, 91, 92, 93, 94, 95, 96, 97, 98, 99, 100, 101, 102, 103, 104, 105, 106, 107, 108, 109, 110, 111, 112] (by decide +kernel) (by decide +kernel)
set_option maxRecDepth 20000 in
theorem gX6_ranked_X0_reckon : GoodIn wsX6_ranked (wsV RX6 181 RX0 yX0_reckon wsX0_reckon) := goodIn_app (goodIn_of _ (by decide +kernel)) ggX6_ranked_X0_reckon
set_option maxRecDepth 20000 in
theorem ggX6_ranked_X0_inputAtRank : GoodIn wsX6_ranked wsX0_inputAtRank := goodIn_r _ [77, 78, 79, 80, 14, 81, 19, 100, 101, 102, 103] (by decide +kernel) (by decide +kernel)
set_option maxRecDepth 20000 in
theorem gX6_ranked_X0_inputAtRank : GoodIn wsX6_ranked (wsV RX6 213 RX0 yX0_inputAtRank wsX0_inputAtRank) := goodIn_app (goodIn_of _ (by decide +kernel)) ggX6_ranked_X0_inputAtRank
theorem dX6_ranked_0 : decode cX6_ranked 0 = .ok (.aload_n 0, 1) := by decide +kernel
theorem dX6_ranked_1 : decode cX6_ranked 1 = .ok (.iload_n 1, 1) := by decide +kernel
theorem dX6_ranked_2 : decode cX6_ranked 2 = .ok (.invokevirtual 153, 3) := by decide +kernel
theorem dX6_ranked_5 : decode cX6_ranked 5 = .ok (.astore_n 3, 1) := by decide +kernel
theorem dX6_ranked_6 : decode cX6_ranked 6 = .ok (.iload_n 2, 1) := by decide +kernel
theorem dX6_ranked_7 : decode cX6_ranked 7 = .ok (.ifCond .ge 13, 3) := by decide +kernel
theorem dX6_ranked_10 : decode cX6_ranked 10 = .ok (.new 139, 3) := by decide +kernel
theorem dX6_ranked_13 : decode cX6_ranked 13 = .ok (.dup, 1) := by decide +kernel
theorem dX6_ranked_14 : decode cX6_ranked 14 = .ok (.ldc 211, 2) := by decide +kernel
theorem dX6_ranked_16 : decode cX6_ranked 16 = .ok (.invokespecial 143, 3) := by decide +kernel
theorem dX6_ranked_19 : decode cX6_ranked 19 = .ok (.athrow, 1) := by decide +kernel
theorem dX6_ranked_20 : decode cX6_ranked 20 = .ok (.aload_n 0, 1) := by decide +kernel
theorem dX6_ranked_21 : decode cX6_ranked 21 = .ok (.getfield 41, 3) := by decide +kernel
theorem dX6_ranked_24 : decode cX6_ranked 24 = .ok (.aload_n 3, 1) := by decide +kernel
theorem dX6_ranked_25 : decode cX6_ranked 25 = .ok (.aload_n 0, 1) := by decide +kernel
theorem dX6_ranked_26 : decode cX6_ranked 26 = .ok (.getfield 10, 3) := by decide +kernel
theorem dX6_ranked_29 : decode cX6_ranked 29 = .ok (.invokevirtual 181, 3) := by decide +kernel
theorem dX6_ranked_32 : decode cX6_ranked 32 = .ok (.aload_n 0, 1) := by decide +kernel
theorem dX6_ranked_33 : decode cX6_ranked 33 = .ok (.getfield 41, 3) := by decide +kernel
theorem dX6_ranked_36 : decode cX6_ranked 36 = .ok (.iload_n 2, 1) := by decide +kernel
theorem dX6_ranked_37 : decode cX6_ranked 37 = .ok (.invokevirtual 213, 3) := by decide +kernel
theorem dX6_ranked_40 : decode cX6_ranked 40 = .ok (.ireturn, 1) := by decide +kernel
set_option maxRecDepth 20000 in
theorem ggX6_table_X6_checkRange : GoodIn wsX6_table wsX6_checkRange := goodIn_ca (goodIn_r _ [8, 9, 10] (by decide +kernel) (by decide +kernel)) (goodIn_sub (fun _ h => List.mem_cons_of_mem _ (List.mem_append_right _ h)) (by decide +kernel))
set_option maxRecDepth 20000 in
theorem gX6_table_X6_checkRange : GoodIn wsX6_table (va_wsS RX6 67 yX6_checkRange wsX6_checkRange) := goodIn_app (goodIn_of _ (by decide +kernel)) ggX6_table_X6_checkRange
set_option maxRecDepth 20000 in
theorem ggX6_table_X2_remove : GoodIn wsX6_table wsX2_remove := goodIn_r _ [15, 16, 17, 18, 19, 20, 21, 14, 22, 44, 45, 46] (by decide +kernel) (by decide +kernel)
set_option maxRecDepth 20000 in
theorem gX6_table_X2_remove : GoodIn wsX6_table (wsV RX6 216 RX2 yX2_remove wsX2_remove) := goodIn_app (goodIn_of _ (by decide +kernel)) ggX6_table_X2_remove
set_option maxRecDepth 20000 in
theorem ggX6_table_X2_hasRoomFor : GoodIn wsX6_table wsX2_hasRoomFor := goodIn_r _ [26, 19, 20, 21, 14, 22, 16, 17, 44, 45, 46] (by decide +kernel) (by decide +kernel)
set_option maxRecDepth 20000 in
theorem gX6_table_X2_hasRoomFor : GoodIn wsX6_table (wsV RX6 219 RX2 yX2_hasRoomFor wsX2_hasRoomFor) := goodIn_app (goodIn_of _ (by decide +kernel)) ggX6_table_X2_hasRoomFor
set_option maxRecDepth 20000 in
theorem ggX6_table_X2_put : GoodIn wsX6_table wsX2_put := goodIn_r _ [30, 17, 18, 16, 31, 32, 33, 34, 19, 20, 21, 14, 22, 44, 45, 46] (by decide +kernel) (by decide +kernel)
set_option maxRecDepth 20000 in
theorem gX6_table_X2_put : GoodIn wsX6_table (wsV RX6 223 RX2 yX2_put wsX2_put) := goodIn_app (goodIn_of _ (by decide +kernel)) ggX6_table_X2_put
theorem dX6_table_0 : decode cX6_table 0 = .ok (.iload_n 1, 1) := by decide +kernel
theorem dX6_table_1 : decode cX6_table 1 = .ok (.iconst 1, 1) := by decide +kernel
theorem dX6_table_2 : decode cX6_table 2 = .ok (.sipush 9999, 3) := by decide +kernel
theorem dX6_table_5 : decode cX6_table 5 = .ok (.invokestatic 67, 3) := by decide +kernel
theorem dX6_table_8 : decode cX6_table 8 = .ok (.iload_n 2, 1) := by decide +kernel
theorem dX6_table_9 : decode cX6_table 9 = .ok (.iconst (-1), 1) := by decide +kernel
theorem dX6_table_10 : decode cX6_table 10 = .ok (.sipush 999, 3) := by decide +kernel
theorem dX6_table_13 : decode cX6_table 13 = .ok (.invokestatic 67, 3) := by decide +kernel
theorem dX6_table_16 : decode cX6_table 16 = .ok (.iload_n 2, 1) := by decide +kernel
theorem dX6_table_17 : decode cX6_table 17 = .ok (.iconst (-1), 1) := by decide +kernel
theorem dX6_table_18 : decode cX6_table 18 = .ok (.if_icmp .ne 14, 3) := by decide +kernel
theorem dX6_table_21 : decode cX6_table 21 = .ok (.aload_n 0, 1) := by decide +kernel
theorem dX6_table_22 : decode cX6_table 22 = .ok (.getfield 48, 3) := by decide +kernel
theorem dX6_table_25 : decode cX6_table 25 = .ok (.iload_n 1, 1) := by decide +kernel
theorem dX6_table_26 : decode cX6_table 26 = .ok (.invokevirtual 216, 3) := by decide +kernel
theorem dX6_table_29 : decode cX6_table 29 = .ok (.goto 36, 3) := by decide +kernel
theorem dX6_table_32 : decode cX6_table 32 = .ok (.aload_n 0, 1) := by decide +kernel
theorem dX6_table_33 : decode cX6_table 33 = .ok (.getfield 48, 3) := by decide +kernel
theorem dX6_table_36 : decode cX6_table 36 = .ok (.iload_n 1, 1) := by decide +kernel
theorem dX6_table_37 : decode cX6_table 37 = .ok (.invokevirtual 219, 3) := by decide +kernel
theorem dX6_table_40 : decode cX6_table 40 = .ok (.ifCond .eq 15, 3) := by decide +kernel
theorem dX6_table_43 : decode cX6_table 43 = .ok (.aload_n 0, 1) := by decide +kernel
theorem dX6_table_44 : decode cX6_table 44 = .ok (.getfield 48, 3) := by decide +kernel
theorem dX6_table_47 : decode cX6_table 47 = .ok (.iload_n 1, 1) := by decide +kernel
theorem dX6_table_48 : decode cX6_table 48 = .ok (.iload_n 2, 1) := by decide +kernel
theorem dX6_table_49 : decode cX6_table 49 = .ok (.invokevirtual 223, 3) := by decide +kernel
theorem dX6_table_52 : decode cX6_table 52 = .ok (.goto 13, 3) := by decide +kernel
theorem dX6_table_55 : decode cX6_table 55 = .ok (.new 78, 3) := by decide +kernel
theorem dX6_table_58 : decode cX6_table 58 = .ok (.dup, 1) := by decide +kernel
theorem dX6_table_59 : decode cX6_table 59 = .ok (.ldc 227, 2) := by decide +kernel
theorem dX6_table_61 : decode cX6_table 61 = .ok (.invokespecial 82, 3) := by decide +kernel
theorem dX6_table_64 : decode cX6_table 64 = .ok (.athrow, 1) := by decide +kernel
theorem dX6_table_65 : decode cX6_table 65 = .ok (.aload_n 0, 1) := by decide +kernel
theorem dX6_table_66 : decode cX6_table 66 = .ok (.getfield 48, 3) := by decide +kernel
theorem dX6_table_69 : decode cX6_table 69 = .ok (.getfield 229, 3) := by decide +kernel
theorem dX6_table_72 : decode cX6_table 72 = .ok (.ireturn, 1) := by decide +kernel
set_option maxRecDepth 20000 in
theorem ggX6_seed_X6_checkRange : GoodIn wsX6_seed wsX6_checkRange := goodIn_ca (goodIn_r _ [7, 8, 9] (by decide +kernel) (by decide +kernel)) (goodIn_sub (fun _ h => List.mem_cons_of_mem _ (List.mem_append_right _ h)) (by decide +kernel))
set_option maxRecDepth 20000 in
theorem gX6_seed_X6_checkRange : GoodIn wsX6_seed (va_wsS RX6 67 yX6_checkRange wsX6_checkRange) := goodIn_app (goodIn_of _ (by decide +kernel)) ggX6_seed_X6_checkRange
theorem dX6_seed_0 : decode cX6_seed 0 = .ok (.iload_n 1, 1) := by decide +kernel
theorem dX6_seed_1 : decode cX6_seed 1 = .ok (.iconst 0, 1) := by decide +kernel
theorem dX6_seed_2 : decode cX6_seed 2 = .ok (.ldc 232, 2) := by decide +kernel
theorem dX6_seed_4 : decode cX6_seed 4 = .ok (.invokestatic 67, 3) := by decide +kernel
theorem dX6_seed_7 : decode cX6_seed 7 = .ok (.aload_n 0, 1) := by decide +kernel
theorem dX6_seed_8 : decode cX6_seed 8 = .ok (.getfield 55, 3) := by decide +kernel
theorem dX6_seed_11 : decode cX6_seed 11 = .ok (.getfield 233, 3) := by decide +kernel
theorem dX6_seed_14 : decode cX6_seed 14 = .ok (.istore_n 2, 1) := by decide +kernel
theorem dX6_seed_15 : decode cX6_seed 15 = .ok (.aload_n 0, 1) := by decide +kernel
theorem dX6_seed_16 : decode cX6_seed 16 = .ok (.getfield 55, 3) := by decide +kernel
theorem dX6_seed_19 : decode cX6_seed 19 = .ok (.iload_n 1, 1) := by decide +kernel
theorem dX6_seed_20 : decode cX6_seed 20 = .ok (.putfield 233, 3) := by decide +kernel
theorem dX6_seed_23 : decode cX6_seed 23 = .ok (.iload_n 2, 1) := by decide +kernel
theorem dX6_seed_24 : decode cX6_seed 24 = .ok (.ireturn, 1) := by decide +kernel
set_option maxRecDepth 20000 in
theorem ggX6_draw_X6_formulaOf : GoodIn wsX6_draw wsX6_formulaOf := goodIn_ca (goodIn_r _ [12, 13, 14, 15, 132, 133, 134, 135, 136, 137, 138, 139, 140] (by decide +kernel) (by decide +kernel)) (goodIn_sub (fun _ h => List.mem_cons_of_mem _ (List.mem_append_left _ (List.mem_append_right _ h))) (by decide +kernel))
set_option maxRecDepth 20000 in
theorem gX6_draw_X6_formulaOf : GoodIn wsX6_draw (wsV RX6 153 RX6 yX6_formulaOf wsX6_formulaOf) := goodIn_app (goodIn_of _ (by decide +kernel)) ggX6_draw_X6_formulaOf
set_option maxRecDepth 20000 in
theorem ggX6_draw_X6_checkRange : GoodIn wsX6_draw wsX6_checkRange := goodIn_ca (goodIn_r _ [18, 19, 20] (by decide +kernel) (by decide +kernel)) (goodIn_sub (fun _ h => List.mem_cons_of_mem _ (List.mem_append_right _ h)) (by decide +kernel))
set_option maxRecDepth 20000 in
theorem gX6_draw_X6_checkRange : GoodIn wsX6_draw (va_wsS RX6 67 yX6_checkRange wsX6_checkRange) := goodIn_app (goodIn_of _ (by decide +kernel)) ggX6_draw_X6_checkRange
set_option maxRecDepth 20000 in
theorem ggX6_draw_X0_reckon : GoodIn wsX6_draw wsX0_reckon := goodIn_r _ [25, 26, 27, 28, 29, 30, 31, 32, 33, 34, 35, 36, 37, 38, 39, 40, 41, 42, 43, 44, 45, 46, 47, 48, 49, 50, 51, 52, 53, 54, 55, 56, 57, 58, 59, 60, 61, 62, 63, 64, 65, 66, 67, 68, 69, 70, 24, 71, 72, 73, 74, 75, 76, 77, 78, 79, 80, 81, 82, 83, 141, 142, 143, 144, 145, 146, 147, 148, 149, 150, 151, 152, 153, 154, 155, 156, 157, 158, 159, 160, 161, 162] (by decide +kernel) (by decide +kernel)
set_option maxRecDepth 20000 in
theorem gX6_draw_X0_reckon : GoodIn wsX6_draw (wsV RX6 181 RX0 yX0_reckon wsX0_reckon) := goodIn_app (goodIn_of _ (by decide +kernel)) ggX6_draw_X0_reckon
set_option maxRecDepth 20000 in
theorem ggX6_draw_X0_statedDoubt : GoodIn wsX6_draw wsX0_statedDoubt := goodIn_r _ [87, 88, 83, 89, 90, 91, 24, 92, 28, 93, 94, 95, 96, 97, 72, 98, 99, 100, 101, 102, 103, 104, 105, 106, 107, 108, 109, 110, 111, 150, 151, 152, 153, 163, 164, 165] (by decide +kernel) (by decide +kernel)
set_option maxRecDepth 20000 in
theorem gX6_draw_X0_statedDoubt : GoodIn wsX6_draw (wsV RX6 200 RX0 yX0_statedDoubt wsX0_statedDoubt) := goodIn_app (goodIn_of _ (by decide +kernel)) ggX6_draw_X0_statedDoubt
set_option maxRecDepth 20000 in
theorem ggX6_draw_X3_reckonBy : GoodIn wsX6_draw wsX3_reckonBy := goodIn_r _ [46, 40, 47, 39, 48, 49, 50, 36, 51, 42, 52, 41, 53, 54, 55, 154, 155, 156, 157, 158, 159, 160, 161, 162] (by decide +kernel) (by decide +kernel)
set_option maxRecDepth 20000 in
theorem gX6_draw_X3_reckonBy : GoodIn wsX6_draw (wsV RX6 165 RX3 yX3_reckonBy wsX3_reckonBy) := goodIn_app (goodIn_of _ (by decide +kernel)) ggX6_draw_X3_reckonBy
set_option maxRecDepth 20000 in
theorem ggX6_draw_X4_drawInto : GoodIn wsX6_draw wsX4_drawInto := goodIn_r _ [116, 117, 118, 119, 76, 120, 121, 122, 123, 124, 78, 125, 126, 127, 128, 129, 130, 131, 141, 142, 143, 144, 145, 146, 147, 148, 149, 166] (by decide +kernel) (by decide +kernel)
set_option maxRecDepth 20000 in
theorem gX6_draw_X4_drawInto : GoodIn wsX6_draw (wsV RX6 236 RX4 yX4_drawInto wsX4_drawInto) := goodIn_app (goodIn_of _ (by decide +kernel)) ggX6_draw_X4_drawInto
theorem dX6_draw_0 : decode cX6_draw 0 = .ok (.aload_n 0, 1) := by decide +kernel
theorem dX6_draw_1 : decode cX6_draw 1 = .ok (.iload_n 1, 1) := by decide +kernel
theorem dX6_draw_2 : decode cX6_draw 2 = .ok (.invokevirtual 153, 3) := by decide +kernel
theorem dX6_draw_5 : decode cX6_draw 5 = .ok (.astore_n 3, 1) := by decide +kernel
theorem dX6_draw_6 : decode cX6_draw 6 = .ok (.iload_n 2, 1) := by decide +kernel
theorem dX6_draw_7 : decode cX6_draw 7 = .ok (.iconst 1, 1) := by decide +kernel
theorem dX6_draw_8 : decode cX6_draw 8 = .ok (.bipush 100, 2) := by decide +kernel
theorem dX6_draw_10 : decode cX6_draw 10 = .ok (.invokestatic 67, 3) := by decide +kernel
theorem dX6_draw_13 : decode cX6_draw 13 = .ok (.aload_n 0, 1) := by decide +kernel
theorem dX6_draw_14 : decode cX6_draw 14 = .ok (.getfield 41, 3) := by decide +kernel
theorem dX6_draw_17 : decode cX6_draw 17 = .ok (.aload_n 3, 1) := by decide +kernel
theorem dX6_draw_18 : decode cX6_draw 18 = .ok (.aload_n 0, 1) := by decide +kernel
theorem dX6_draw_19 : decode cX6_draw 19 = .ok (.getfield 10, 3) := by decide +kernel
theorem dX6_draw_22 : decode cX6_draw 22 = .ok (.invokevirtual 181, 3) := by decide +kernel
theorem dX6_draw_25 : decode cX6_draw 25 = .ok (.aload_n 0, 1) := by decide +kernel
theorem dX6_draw_26 : decode cX6_draw 26 = .ok (.getfield 41, 3) := by decide +kernel
theorem dX6_draw_29 : decode cX6_draw 29 = .ok (.aload_n 0, 1) := by decide +kernel
theorem dX6_draw_30 : decode cX6_draw 30 = .ok (.getfield 48, 3) := by decide +kernel
theorem dX6_draw_33 : decode cX6_draw 33 = .ok (.invokevirtual 200, 3) := by decide +kernel
theorem dX6_draw_36 : decode cX6_draw 36 = .ok (.lstore 4, 2) := by decide +kernel
theorem dX6_draw_38 : decode cX6_draw 38 = .ok (.aload_n 3, 1) := by decide +kernel
theorem dX6_draw_39 : decode cX6_draw 39 = .ok (.aload_n 0, 1) := by decide +kernel
theorem dX6_draw_40 : decode cX6_draw 40 = .ok (.getfield 10, 3) := by decide +kernel
theorem dX6_draw_43 : decode cX6_draw 43 = .ok (.getfield 108, 3) := by decide +kernel
theorem dX6_draw_46 : decode cX6_draw 46 = .ok (.invokevirtual 165, 3) := by decide +kernel
theorem dX6_draw_49 : decode cX6_draw 49 = .ok (.lstore 6, 2) := by decide +kernel
theorem dX6_draw_51 : decode cX6_draw 51 = .ok (.iconst 0, 1) := by decide +kernel
theorem dX6_draw_52 : decode cX6_draw 52 = .ok (.istore 8, 2) := by decide +kernel
theorem dX6_draw_54 : decode cX6_draw 54 = .ok (.iconst 0, 1) := by decide +kernel
theorem dX6_draw_55 : decode cX6_draw 55 = .ok (.istore 9, 2) := by decide +kernel
theorem dX6_draw_57 : decode cX6_draw 57 = .ok (.iload 9, 2) := by decide +kernel
theorem dX6_draw_59 : decode cX6_draw 59 = .ok (.iload_n 2, 1) := by decide +kernel
theorem dX6_draw_60 : decode cX6_draw 60 = .ok (.if_icmp .ge 66, 3) := by decide +kernel
theorem dX6_draw_63 : decode cX6_draw 63 = .ok (.aload_n 0, 1) := by decide +kernel
theorem dX6_draw_64 : decode cX6_draw 64 = .ok (.getfield 10, 3) := by decide +kernel
theorem dX6_draw_67 : decode cX6_draw 67 = .ok (.aload_n 0, 1) := by decide +kernel
theorem dX6_draw_68 : decode cX6_draw 68 = .ok (.getfield 59, 3) := by decide +kernel
theorem dX6_draw_71 : decode cX6_draw 71 = .ok (.aload_n 0, 1) := by decide +kernel
theorem dX6_draw_72 : decode cX6_draw 72 = .ok (.getfield 55, 3) := by decide +kernel
theorem dX6_draw_75 : decode cX6_draw 75 = .ok (.invokevirtual 236, 3) := by decide +kernel
theorem dX6_draw_78 : decode cX6_draw 78 = .ok (.aload_n 3, 1) := by decide +kernel
theorem dX6_draw_79 : decode cX6_draw 79 = .ok (.aload_n 0, 1) := by decide +kernel
theorem dX6_draw_80 : decode cX6_draw 80 = .ok (.getfield 59, 3) := by decide +kernel
theorem dX6_draw_83 : decode cX6_draw 83 = .ok (.invokevirtual 165, 3) := by decide +kernel
theorem dX6_draw_86 : decode cX6_draw 86 = .ok (.lload 6, 2) := by decide +kernel
theorem dX6_draw_88 : decode cX6_draw 88 = .ok (.lsub, 1) := by decide +kernel
theorem dX6_draw_89 : decode cX6_draw 89 = .ok (.lstore 10, 2) := by decide +kernel
theorem dX6_draw_91 : decode cX6_draw 91 = .ok (.lload 4, 2) := by decide +kernel
theorem dX6_draw_93 : decode cX6_draw 93 = .ok (.ldc2_w 240, 3) := by decide +kernel
theorem dX6_draw_96 : decode cX6_draw 96 = .ok (.lcmp, 1) := by decide +kernel
theorem dX6_draw_97 : decode cX6_draw 97 = .ok (.ifCond .eq 23, 3) := by decide +kernel
theorem dX6_draw_100 : decode cX6_draw 100 = .ok (.lload 10, 2) := by decide +kernel
theorem dX6_draw_102 : decode cX6_draw 102 = .ok (.lload 4, 2) := by decide +kernel
theorem dX6_draw_104 : decode cX6_draw 104 = .ok (.lneg, 1) := by decide +kernel
theorem dX6_draw_105 : decode cX6_draw 105 = .ok (.lcmp, 1) := by decide +kernel
theorem dX6_draw_106 : decode cX6_draw 106 = .ok (.ifCond .lt 14, 3) := by decide +kernel
theorem dX6_draw_109 : decode cX6_draw 109 = .ok (.lload 10, 2) := by decide +kernel
theorem dX6_draw_111 : decode cX6_draw 111 = .ok (.lload 4, 2) := by decide +kernel
theorem dX6_draw_113 : decode cX6_draw 113 = .ok (.lcmp, 1) := by decide +kernel
theorem dX6_draw_114 : decode cX6_draw 114 = .ok (.ifCond .gt 6, 3) := by decide +kernel
theorem dX6_draw_117 : decode cX6_draw 117 = .ok (.iinc 8 1, 3) := by decide +kernel
theorem dX6_draw_120 : decode cX6_draw 120 = .ok (.iinc 9 1, 3) := by decide +kernel
theorem dX6_draw_123 : decode cX6_draw 123 = .ok (.goto (-66), 3) := by decide +kernel
theorem dX6_draw_126 : decode cX6_draw 126 = .ok (.iload 8, 2) := by decide +kernel
theorem dX6_draw_128 : decode cX6_draw 128 = .ok (.ireturn, 1) := by decide +kernel
theorem dX6_checkInput_0 : decode cX6_checkInput 0 = .ok (.iload_n 0, 1) := by decide +kernel
theorem dX6_checkInput_1 : decode cX6_checkInput 1 = .ok (.ifCond .lt 9, 3) := by decide +kernel
theorem dX6_checkInput_4 : decode cX6_checkInput 4 = .ok (.iload_n 0, 1) := by decide +kernel
theorem dX6_checkInput_5 : decode cX6_checkInput 5 = .ok (.bipush 6, 2) := by decide +kernel
theorem dX6_checkInput_7 : decode cX6_checkInput 7 = .ok (.if_icmp .lt 13, 3) := by decide +kernel
theorem dX6_checkInput_10 : decode cX6_checkInput 10 = .ok (.new 139, 3) := by decide +kernel
theorem dX6_checkInput_13 : decode cX6_checkInput 13 = .ok (.dup, 1) := by decide +kernel
theorem dX6_checkInput_14 : decode cX6_checkInput 14 = .ok (.ldc 242, 2) := by decide +kernel
theorem dX6_checkInput_16 : decode cX6_checkInput 16 = .ok (.invokespecial 143, 3) := by decide +kernel
theorem dX6_checkInput_19 : decode cX6_checkInput 19 = .ok (.athrow, 1) := by decide +kernel
theorem dX6_checkInput_20 : decode cX6_checkInput 20 = .ok (.return_, 1) := by decide +kernel
theorem dX6_checkRange_0 : decode cX6_checkRange 0 = .ok (.iload_n 0, 1) := by decide +kernel
theorem dX6_checkRange_1 : decode cX6_checkRange 1 = .ok (.iload_n 1, 1) := by decide +kernel
theorem dX6_checkRange_2 : decode cX6_checkRange 2 = .ok (.if_icmp .lt 8, 3) := by decide +kernel
theorem dX6_checkRange_5 : decode cX6_checkRange 5 = .ok (.iload_n 0, 1) := by decide +kernel
theorem dX6_checkRange_6 : decode cX6_checkRange 6 = .ok (.iload_n 2, 1) := by decide +kernel
theorem dX6_checkRange_7 : decode cX6_checkRange 7 = .ok (.if_icmp .le 13, 3) := by decide +kernel
theorem dX6_checkRange_10 : decode cX6_checkRange 10 = .ok (.new 99, 3) := by decide +kernel
theorem dX6_checkRange_13 : decode cX6_checkRange 13 = .ok (.dup, 1) := by decide +kernel
theorem dX6_checkRange_14 : decode cX6_checkRange 14 = .ok (.ldc 244, 2) := by decide +kernel
theorem dX6_checkRange_16 : decode cX6_checkRange 16 = .ok (.invokespecial 103, 3) := by decide +kernel
theorem dX6_checkRange_19 : decode cX6_checkRange 19 = .ok (.athrow, 1) := by decide +kernel
theorem dX6_checkRange_20 : decode cX6_checkRange 20 = .ok (.return_, 1) := by decide +kernel
theorem dX6_formulaOf_0 : decode cX6_formulaOf 0 = .ok (.iload_n 1, 1) := by decide +kernel
theorem dX6_formulaOf_1 : decode cX6_formulaOf 1 = .ok (.ifCond .lt 9, 3) := by decide +kernel
theorem dX6_formulaOf_4 : decode cX6_formulaOf 4 = .ok (.iload_n 1, 1) := by decide +kernel
theorem dX6_formulaOf_5 : decode cX6_formulaOf 5 = .ok (.bipush 8, 2) := by decide +kernel
theorem dX6_formulaOf_7 : decode cX6_formulaOf 7 = .ok (.if_icmp .lt 7, 3) := by decide +kernel
theorem dX6_formulaOf_10 : decode cX6_formulaOf 10 = .ok (.aconst_null, 1) := by decide +kernel
theorem dX6_formulaOf_11 : decode cX6_formulaOf 11 = .ok (.goto 9, 3) := by decide +kernel
theorem dX6_formulaOf_14 : decode cX6_formulaOf 14 = .ok (.aload_n 0, 1) := by decide +kernel
theorem dX6_formulaOf_15 : decode cX6_formulaOf 15 = .ok (.getfield 25, 3) := by decide +kernel
theorem dX6_formulaOf_18 : decode cX6_formulaOf 18 = .ok (.iload_n 1, 1) := by decide +kernel
theorem dX6_formulaOf_19 : decode cX6_formulaOf 19 = .ok (.aaload, 1) := by decide +kernel
theorem dX6_formulaOf_20 : decode cX6_formulaOf 20 = .ok (.astore_n 2, 1) := by decide +kernel
theorem dX6_formulaOf_21 : decode cX6_formulaOf 21 = .ok (.aload_n 2, 1) := by decide +kernel
theorem dX6_formulaOf_22 : decode cX6_formulaOf 22 = .ok (.ifnonnull 13, 3) := by decide +kernel
theorem dX6_formulaOf_25 : decode cX6_formulaOf 25 = .ok (.new 139, 3) := by decide +kernel
theorem dX6_formulaOf_28 : decode cX6_formulaOf 28 = .ok (.dup, 1) := by decide +kernel
theorem dX6_formulaOf_29 : decode cX6_formulaOf 29 = .ok (.ldc 141, 2) := by decide +kernel
theorem dX6_formulaOf_31 : decode cX6_formulaOf 31 = .ok (.invokespecial 143, 3) := by decide +kernel
theorem dX6_formulaOf_34 : decode cX6_formulaOf 34 = .ok (.athrow, 1) := by decide +kernel
theorem dX6_formulaOf_35 : decode cX6_formulaOf 35 = .ok (.aload_n 2, 1) := by decide +kernel
theorem dX6_formulaOf_36 : decode cX6_formulaOf 36 = .ok (.areturn, 1) := by decide +kernel
set_option maxRecDepth 20000 in
theorem ggX6_countDisagreeing_X3_findDisagreement : GoodIn wsX6_countDisagreeing wsX3_findDisagreement := goodIn_r _ [9, 10, 11, 12, 13, 14, 15, 16, 17, 18, 19, 8, 20, 21, 22, 23, 24, 25, 26, 27, 28, 29, 30, 31, 32, 33, 34, 35, 54, 55, 56, 57, 58, 59, 60, 61, 62] (by decide +kernel) (by decide +kernel)
set_option maxRecDepth 20000 in
theorem gX6_countDisagreeing_X3_findDisagreement : GoodIn wsX6_countDisagreeing (wsV RX6 157 RX3 yX3_findDisagreement wsX3_findDisagreement) := goodIn_app (goodIn_of _ (by decide +kernel)) ggX6_countDisagreeing_X3_findDisagreement
theorem dX6_countDisagreeing_0 : decode cX6_countDisagreeing 0 = .ok (.iconst 0, 1) := by decide +kernel
theorem dX6_countDisagreeing_1 : decode cX6_countDisagreeing 1 = .ok (.istore_n 1, 1) := by decide +kernel
theorem dX6_countDisagreeing_2 : decode cX6_countDisagreeing 2 = .ok (.aload_n 0, 1) := by decide +kernel
theorem dX6_countDisagreeing_3 : decode cX6_countDisagreeing 3 = .ok (.getfield 25, 3) := by decide +kernel
theorem dX6_countDisagreeing_6 : decode cX6_countDisagreeing 6 = .ok (.astore_n 2, 1) := by decide +kernel
theorem dX6_countDisagreeing_7 : decode cX6_countDisagreeing 7 = .ok (.aload_n 2, 1) := by decide +kernel
theorem dX6_countDisagreeing_8 : decode cX6_countDisagreeing 8 = .ok (.arraylength, 1) := by decide +kernel
theorem dX6_countDisagreeing_9 : decode cX6_countDisagreeing 9 = .ok (.istore_n 3, 1) := by decide +kernel
theorem dX6_countDisagreeing_10 : decode cX6_countDisagreeing 10 = .ok (.iconst 0, 1) := by decide +kernel
theorem dX6_countDisagreeing_11 : decode cX6_countDisagreeing 11 = .ok (.istore 4, 2) := by decide +kernel
theorem dX6_countDisagreeing_13 : decode cX6_countDisagreeing 13 = .ok (.iload 4, 2) := by decide +kernel
theorem dX6_countDisagreeing_15 : decode cX6_countDisagreeing 15 = .ok (.iload_n 3, 1) := by decide +kernel
theorem dX6_countDisagreeing_16 : decode cX6_countDisagreeing 16 = .ok (.if_icmp .ge 46, 3) := by decide +kernel
theorem dX6_countDisagreeing_19 : decode cX6_countDisagreeing 19 = .ok (.aload_n 2, 1) := by decide +kernel
theorem dX6_countDisagreeing_20 : decode cX6_countDisagreeing 20 = .ok (.iload 4, 2) := by decide +kernel
theorem dX6_countDisagreeing_22 : decode cX6_countDisagreeing 22 = .ok (.aaload, 1) := by decide +kernel
theorem dX6_countDisagreeing_23 : decode cX6_countDisagreeing 23 = .ok (.astore 5, 2) := by decide +kernel
theorem dX6_countDisagreeing_25 : decode cX6_countDisagreeing 25 = .ok (.aload 5, 2) := by decide +kernel
theorem dX6_countDisagreeing_27 : decode cX6_countDisagreeing 27 = .ok (.ifnull 29, 3) := by decide +kernel
theorem dX6_countDisagreeing_30 : decode cX6_countDisagreeing 30 = .ok (.aload 5, 2) := by decide +kernel
theorem dX6_countDisagreeing_32 : decode cX6_countDisagreeing 32 = .ok (.aload_n 0, 1) := by decide +kernel
theorem dX6_countDisagreeing_33 : decode cX6_countDisagreeing 33 = .ok (.getfield 10, 3) := by decide +kernel
theorem dX6_countDisagreeing_36 : decode cX6_countDisagreeing 36 = .ok (.getfield 89, 3) := by decide +kernel
theorem dX6_countDisagreeing_39 : decode cX6_countDisagreeing 39 = .ok (.aload_n 0, 1) := by decide +kernel
theorem dX6_countDisagreeing_40 : decode cX6_countDisagreeing 40 = .ok (.getfield 10, 3) := by decide +kernel
theorem dX6_countDisagreeing_43 : decode cX6_countDisagreeing 43 = .ok (.getfield 92, 3) := by decide +kernel
theorem dX6_countDisagreeing_46 : decode cX6_countDisagreeing 46 = .ok (.invokevirtual 157, 3) := by decide +kernel
theorem dX6_countDisagreeing_49 : decode cX6_countDisagreeing 49 = .ok (.iconst (-1), 1) := by decide +kernel
theorem dX6_countDisagreeing_50 : decode cX6_countDisagreeing 50 = .ok (.if_icmp .eq 6, 3) := by decide +kernel
theorem dX6_countDisagreeing_53 : decode cX6_countDisagreeing 53 = .ok (.iinc 1 1, 3) := by decide +kernel
theorem dX6_countDisagreeing_56 : decode cX6_countDisagreeing 56 = .ok (.iinc 4 1, 3) := by decide +kernel
theorem dX6_countDisagreeing_59 : decode cX6_countDisagreeing 59 = .ok (.goto (-46), 3) := by decide +kernel
theorem dX6_countDisagreeing_62 : decode cX6_countDisagreeing 62 = .ok (.iload_n 1, 1) := by decide +kernel
theorem dX6_countDisagreeing_63 : decode cX6_countDisagreeing 63 = .ok (.ireturn, 1) := by decide +kernel
